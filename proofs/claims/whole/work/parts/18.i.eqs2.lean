/-! rows, sessions, advocates, fractions, settling -/
theorem okC_kind {x : KC} (h : okC x) {w v : Int32} (hw : inW (cS x) w) (hv : 0 ≤ v ∧ v ≤ 5) : okC (kSetKind x w v) := ⟨okS_kind h.1 hw hv, h.2⟩
theorem okC_knows {x : KC} (h : okC x) {w v : Int32} (hv : 0 ≤ v ∧ v ≤ 63) : okC (kSetKnows x w v) := ⟨okS_knows h.1 hv, h.2⟩
theorem kinds_eq {x : KC} (h : okC x) {row : FI} {m : Nat} {n : Nat} (en : sNq (cS x) = nI n) (hn : n ≤ 8) (hm : m ≤ n) {w : Int32} (hw : inW (cS x) w) : kindsX x row (nI m) w = kindsV (cS x) row (nI m) w := by
  unfold kindsX kindsV
  refine setN_congr fun v hv => ?_
  unfold rowBX rowB
  rw [nI_clamp (by omega)]
  refine allN_congr fun q hq => ?_
  have hk := okC_kind h hw (v := nI v) ⟨nI_pos' (by omega), nI_le (b := 5) (by omega) (by decide)⟩
  rw [reply_case hk (w := w) (q := nI q) hw (inQ_nI en hn (by omega))]
  rfl
theorem known_eq {x : KC} (h : okC x) {row : FI} {m : Nat} {n : Nat} (en : sNq (cS x) = nI n) (hn : n ≤ 8) (hm : m ≤ n) {w : Int32} (hw : inW (cS x) w) : knownX x row (nI m) w = knownV (cS x) row (nI m) w := by
  unfold knownX knownV
  refine cntN_congr fun v hv => ?_
  unfold rowBX rowB
  rw [nI_clamp (by omega)]
  refine allN_congr fun q hq => ?_
  have hk := okC_knows h (w := w) (v := nI v) ⟨nI_pos' (by omega), nI_le (b := 63) (by omega) (by decide)⟩
  rw [reply_case hk (w := w) (q := nI q) hw (inQ_nI en hn (by omega))]
  rfl
/-- sessions -/
theorem sess_eq {x : KC} (h : okC x) (ha : sAsked (cS x) ≤ 999) (w0 : 0 < sNw (cS x)) (q0 : 0 < sNq (cS x)) (z y : Int32) : ∀ k, k ≤ 6 →
    (sessX (sNw (cS x)) (sNq (cS x)) k (z, y, x)).1 = (sessionN (sNw (cS x)) (sNq (cS x)) k (z, y, cS x)).1 ∧ (sessX (sNw (cS x)) (sNq (cS x)) k (z, y, x)).2.1 = (sessionN (sNw (cS x)) (sNq (cS x)) k (z, y, cS x)).2.1 ∧ cS (sessX (sNw (cS x)) (sNq (cS x)) k (z, y, x)).2.2 = (sessionN (sNw (cS x)) (sNq (cS x)) k (z, y, cS x)).2.2 ∧
    okC (sessX (sNw (cS x)) (sNq (cS x)) k (z, y, x)).2.2 ∧ sNq (cS (sessX (sNw (cS x)) (sNq (cS x)) k (z, y, x)).2.2) = sNq (cS x) ∧ sNw (cS (sessX (sNw (cS x)) (sNq (cS x)) k (z, y, x)).2.2) = sNw (cS x) ∧ sAsked (cS (sessX (sNw (cS x)) (sNq (cS x)) k (z, y, x)).2.2) = sAsked (cS x) + nI k := by
  obtain ⟨nq, hnq, enq⟩ := okS_nq h.1
  obtain ⟨nw, hnw, enw⟩ := okS_nw h.1
  have hqp : 0 < nq := by rw [enq] at q0; exact (nI_ltI (a := 0) (by decide) (by omega)).mp q0
  have hwp : 0 < nw := by rw [enw] at w0; exact (nI_ltI (a := 0) (by decide) (by omega)).mp w0
  intro k
  induction k with
  | zero => intro _; exact ⟨rfl, rfl, rfl, h, rfl, rfl, by show _ = _ + 0; simp [sessX]⟩
  | succ k ih =>
    intro hk
    obtain ⟨b1, b2, b3, a1, a3, a4, a5⟩ := ih (by omega)
    rw [sessX, sessionN]
    try dsimp only
    generalize hB : sessX (sNw (cS x)) (sNq (cS x)) k (z, y, x) = B at *
    generalize hC : sessionN (sNw (cS x)) (sNq (cS x)) k (z, y, cS x) = C at *
    have e1 : drawBelowI (drawOnI B.1) (sNw (cS x)) = drawV C.1 (sNw (cS x)) := by rw [drawV_b w0, b1]
    have e2 : drawBelowI (drawOnI (drawOnI B.1)) (sNq (cS x)) = drawV (drawZ C.1) (sNq (cS x)) := by rw [drawV_b q0, b1]; rfl
    have e3 : drawOnI (drawOnI B.1) = drawZ (drawZ C.1) := by rw [b1]; rfl
    have hw : inW (cS B.2.2) (drawBelowI (drawOnI B.1) (sNw (cS x))) := by
      obtain ⟨d, hd, e⟩ := draw_nat (drawOnI B.1) hwp (by omega)
      rw [← enw] at e; rw [e]; exact inW_nI (a4.trans enw) hnw hd
    have hq : inQ (cS B.2.2) (drawBelowI (drawOnI (drawOnI B.1)) (sNq (cS x))) := by
      obtain ⟨d, hd, e⟩ := draw_nat (drawOnI (drawOnI B.1)) hqp (by omega)
      rw [← enq] at e; rw [e]; exact inQ_nI (a3.trans enq) hnq hd
    have hlt : sAsked (cS B.2.2) < 5000 := by
      rw [a5]
      obtain ⟨i, hi, ei⟩ := le_of_nI (n := 999) h.1.2.1.1 ha (by decide)
      rw [ei, nI_add]; exact nI_lt (b := 5000) (by omega) (by decide)
    refine ⟨e3, ?_, ?_, ⟨okS_ask a1.1 hw hq hlt, a1.2⟩, a3, a4, ?_⟩
    · rw [b2, e1, e2, b3]
    · show askS (cS B.2.2) _ _ = _
      rw [e1, e2, b3]
    · show sAsked (cS B.2.2) + 1 = _
      rw [a5, Int32.add_assoc, nI_1]
theorem lots_eq {x : KC} (h : okC x) (ha : sAsked (cS x) ≤ 999) (w0 : 0 < sNw (cS x)) (q0 : 0 < sNq (cS x)) (n z p : Int32) : lotsX x n z p = lotsV (cS x) n z p := by
  have key : ∀ k, lotsNX x k (z, 0, 0) = lotsN (cS x) k (z, 0, 0) := by
    intro k
    induction k with
    | zero => rfl
    | succ k ih =>
      rw [lotsNX, lotsN, ih]
      try dsimp only
      obtain ⟨b1, b2, b3, a1, -⟩ := sess_eq h ha w0 q0 (lotsN (cS x) k (z, 0, 0)).1 (lotsN (cS x) k (z, 0, 0)).2.1 6 (Nat.le_refl _)
      rw [b1, b2, ← b3, popc_sum (f := fitOf (cS (sessX (sNw (cS x)) (sNq (cS x)) 6 ((lotsN (cS x) k (z, 0, 0)).1, (lotsN (cS x) k (z, 0, 0)).2.1, x)).2.2) 0) (fun j hj => by unfold fitOf; rw [if_pos rfl, fit_bt a1 hj])]
  unfold lotsX lotsV
  rw [key]
/-- who is asked and says the same -/
theorem keep_bt {x : KC} (h : okC x) {w q : Int32} (hw : inW (cS x) w) (hq : inQ (cS x) q) (t : Int32) {k : Nat} (hk : k < 64) : bt (keepingL x w q t) k = decide (ansI (cS x) w q (nI k) t = ansI (cS x) w q (sCase (cS x)) t) := by
  unfold keepingL
  rw [reply_case h hw hq]
  exact hit_bt h hw hq (ans_r h.1 hw hq _ _) hk
theorem left_CH {x : KC} (h : okC x) {L : Int64} {l : FI} (hc : CH L l) {w q : Int32} (hw : inW (cS x) w) (hq : inQ (cS x) q) (t : Int32) : CH (L &&& keepingL x w q t) (leftAsk (cS x) w q t l) := fun k hk => by
  unfold leftAsk tab
  rw [if_pos hk, bt_and, keep_bt h hw hq t hk]
  show b2i (decide (l k = 1) && _) = _
  rw [CH_iff hc hk]
theorem tab_CH {L : Int64} {fit old : FI} (h : CH L fit) : CH L (tab 64 fit old) := fun k hk => by
  unfold tab; rw [if_pos hk]; exact h k hk
theorem onward_rem {x : SS} {q n : Int32} (h : 0 < sNq x) : onwardI x q n = remI (q + n) (sNq x) := by
  unfold onwardI remI; rw [if_pos h]
theorem pair_eq {x : KC} (h : okC x) {fit : FI} (hc : CH (fittingL x) fit) {w a b : Int32} (hw : inW (cS x) w) (ha : inQ (cS x) a) (hb : inQ (cS x) b) {i j k : Nat} (hi : i ≤ 8) (hj : j ≤ 8) (e1 : nI k / 2 = nI i) (e2 : remI (nI k) 2 = nI j) : pairX x w a b (nI i) (nI j) = leftTwo (cS x) fit w a b k := by
  have q0 := nq_pos ha
  have h1 := onward_in h.1 ha hi
  have h2 := onward_in h.1 hb hj
  unfold pairX leftBehindX leftTwo
  rw [e1, e2, ← onward_rem q0, ← onward_rem q0]
  exact popc_sum (left_CH h (left_CH h (tab_CH hc) hw h1 _) hw h2 _)
theorem two_eq {x : KC} (h : okC x) {fit : FI} (hc : CH (fittingL x) fit) {w a b : Int32} (hw : inW (cS x) w) (ha : inQ (cS x) a) (hb : inQ (cS x) b) : twoX x w a b = twoV (cS x) fit w a b := by
  have p00 : pairX x w a b 0 0 = leftTwo (cS x) fit w a b 0 := pair_eq h hc hw ha hb (i := 0) (j := 0) (by decide) (by decide) (by decide) (by decide)
  have p01 : pairX x w a b 0 1 = leftTwo (cS x) fit w a b 1 := pair_eq h hc hw ha hb (i := 0) (j := 1) (by decide) (by decide) (by decide) (by decide)
  have p10 : pairX x w a b 1 0 = leftTwo (cS x) fit w a b 2 := pair_eq h hc hw ha hb (i := 1) (j := 0) (by decide) (by decide) (by decide) (by decide)
  have p11 : pairX x w a b 1 1 = leftTwo (cS x) fit w a b 3 := pair_eq h hc hw ha hb (i := 1) (j := 1) (by decide) (by decide) (by decide) (by decide)
  unfold twoX twoV
  simp only []
  rw [p00, p01, p10, p11]
  generalize leftTwo (cS x) fit w a b = l
  have x0 : (0 : Nat) ^^^ 2 = 2 := by decide
  have x1 : (0 : Nat) ^^^ 1 = 1 := by decide
  have x2 : (1 : Nat) ^^^ 2 = 3 := by decide
  have x3 : (1 : Nat) ^^^ 1 = 0 := by decide
  have x4 : (2 : Nat) ^^^ 2 = 0 := by decide
  have x5 : (2 : Nat) ^^^ 1 = 3 := by decide
  have x6 : (3 : Nat) ^^^ 2 = 1 := by decide
  have x7 : (3 : Nat) ^^^ 1 = 2 := by decide
  simp only [firstN, x0, x1, x2, x3, x4, x5, x6, x7, Nat.zero_add, Nat.reduceAdd, Bool.and_eq_true, decide_eq_true_eq]
  by_cases c0 : l 2 ≤ l 0 ∧ l 0 ≤ l 1
  · rw [if_pos c0, if_pos c0]; decide
  rw [if_neg c0, if_neg c0]
  by_cases c1 : l 3 ≤ l 1 ∧ l 1 ≤ l 0
  · rw [if_pos c1, if_pos c1]; decide
  rw [if_neg c1, if_neg c1]
  by_cases c2 : l 0 ≤ l 2 ∧ l 2 ≤ l 3
  · rw [if_pos c2, if_pos c2]; decide
  rw [if_neg c2, if_neg c2]
  by_cases c3 : l 1 ≤ l 3 ∧ l 3 ≤ l 2
  · rw [if_pos c3, if_pos c3]; decide
  rw [if_neg c3, if_neg c3]
/-- numbers of what is so, as naturals -/
def natS (f : Nat → Nat) : Nat → Nat
  | 0 => 0
  | n + 1 => natS f n + f n
theorem natS_congr {f g : Nat → Nat} {n : Nat} (h : ∀ k, k < n → f k = g k) : natS f n = natS g n := by
  induction n with
  | zero => rfl
  | succ n ih => rw [natS, natS, ih (fun k hk => h k (by omega)), h n (by omega)]
theorem natS_app (f : Nat → Nat) (a : Nat) : ∀ b, natS f (a + b) = natS f a + natS (fun r => f (a + r)) b
  | 0 => rfl
  | b + 1 => by rw [← Nat.add_assoc, natS, natS, natS_app f a b]; omega
theorem natS_split (f : Nat → Nat) (n : Nat) : ∀ m, natS f (m * n) = natS (fun q => natS (fun r => f (q * n + r)) n) m
  | 0 => by rw [Nat.zero_mul]; rfl
  | m + 1 => by rw [Nat.succ_mul, natS_app, natS, natS_split f n m]
theorem natS_add (f g : Nat → Nat) : ∀ n, natS (fun k => f k + g k) n = natS f n + natS g n
  | 0 => rfl
  | n + 1 => by rw [natS, natS, natS, natS_add f g n]; omega
theorem natS_zero : ∀ n, natS (fun _ => 0) n = 0
  | 0 => rfl
  | n + 1 => by rw [natS, natS_zero n]
theorem natS_swap (g : Nat → Nat → Nat) (n : Nat) : ∀ m, natS (fun f => natS (g f) n) m = natS (fun k => natS (fun f => g f k) m) n
  | 0 => (natS_zero n).symm
  | m + 1 => by
    rw [natS, natS_swap g n m, ← natS_add]; rfl
theorem natS_le {f : Nat → Nat} (h : ∀ k, f k ≤ 1) : ∀ n, natS f n ≤ n
  | 0 => Nat.le_refl _
  | n + 1 => by have := natS_le h n; have := h n; rw [natS]; omega
theorem natS_leB {f : Nat → Nat} {B : Nat} (h : ∀ k, f k ≤ B) : ∀ n, natS f n ≤ n * B
  | 0 => Nat.zero_le _
  | n + 1 => by have := natS_leB h n; have := h n; rw [natS, Nat.succ_mul]; omega
theorem natS_pos {f : Nat → Nat} : ∀ n, 0 < natS f n ↔ ∃ k, k < n ∧ 0 < f k
  | 0 => ⟨fun h => absurd (show 0 < 0 from h) (by decide), fun ⟨k, hk, _⟩ => absurd hk (by omega)⟩
  | n + 1 => by
    rw [natS]
    constructor
    · intro h
      by_cases c : 0 < f n
      · exact ⟨n, by omega, c⟩
      · have h2 : 0 < natS f n := by omega
        obtain ⟨k, hk, e⟩ := (natS_pos n).mp h2
        exact ⟨k, by omega, e⟩
    · rintro ⟨k, hk, e⟩
      by_cases c : k = n
      · subst c; omega
      · have := (natS_pos n).mpr ⟨k, by omega, e⟩
        omega
theorem sumN_natS (f : Nat → Nat) : ∀ n, sumN (fun k => nI (f k)) n = nI (natS f n)
  | 0 => rfl
  | n + 1 => by rw [sumN, sumN_natS f n, natS, nI_add]
theorem sumL_natS (f : Nat → Nat) : ∀ n, sumL (fun k => lN (f k)) n = lN (natS f n)
  | 0 => rfl
  | n + 1 => by rw [sumL, sumL_natS f n, natS, lN_add]
def bn (b : Bool) : Nat := if b then 1 else 0
theorem bn_le (b : Bool) : bn b ≤ 1 := by cases b <;> decide
theorem bn_i (b : Bool) : b2i b = nI (bn b) := by cases b <;> rfl
theorem bn_pos (b : Bool) : 0 < bn b ↔ b = true := by cases b <;> decide
theorem popc_natS {L : Int64} {p : Nat → Bool} (h : ∀ k, k < 64 → bt L k = p k) : popc L = nI (natS (fun k => bn (p k)) 64) := by
  rw [popc_cnt h, cnt_sum, ← sumN_natS]
  exact sumN_congr fun k _ => bn_i _
theorem frac_eq {u d : Nat} (hu : u < 2 ^ 31) (hd : d < 2 ^ 31) {p : Int32} (hp : p = 0 ∨ p = 1) : leastTermsL (nI u) (nI d) p = partOfV (lN u) (nI d).toInt64 p := by
  unfold leastTermsL partOfV
  rw [nI_l hd]
  by_cases d0 : d = 0
  · subst d0
    rw [if_pos (Or.inr (by decide)), if_pos (show lN 0 = 0 from rfl)]
    rcases hp with e | e <;> subst e <;> decide
  · have hdn : ¬ lN d = 0 := fun q => d0 ((lN_z (by omega)).mp q)
    have hdl : ¬ nI d ≤ 0 := nI_nle (by omega) hd
    rw [if_neg hdn, gcdL_lN (by omega) (by omega)]
    by_cases u0 : u = 0
    · subst u0
      rw [if_pos (Or.inl (by decide)), Nat.gcd_zero_left]
      rcases hp with e | e <;> subst e
      · rw [if_pos rfl, if_pos rfl, pk_lDiv (by decide) (by omega) (by omega), Nat.zero_div]; rfl
      · rw [if_neg (by decide), if_neg (by decide), pk_lDiv (by omega) (by omega) (by omega), Nat.div_self (by omega)]; rfl
    · have hul : ¬ nI u ≤ 0 := nI_nle (by omega) hu
      have hg : 0 < Nat.gcd u d := Nat.gcd_pos_of_pos_left d (by omega)
      have hg2 : Nat.gcd u d ≤ d := Nat.gcd_le_right u (by omega)
      have egi : gcdI (nI u) (nI d) = nI (Nat.gcd u d) := by unfold gcdI; rw [nI_clamp hu, nI_clamp hd]
      rw [if_neg (fun q => q.elim hul hdl), egi]
      rcases hp with e | e <;> subst e
      · rw [if_pos rfl, if_pos rfl, pk_lDiv (by omega) hg (by omega), pk_div hu hg (by omega), nI_l (Nat.lt_of_le_of_lt (Nat.div_le_self _ _) hu)]
      · rw [if_neg (by decide), if_neg (by decide), pk_lDiv (by omega) hg (by omega), pk_div hd hg (by omega), nI_l (Nat.lt_of_le_of_lt (Nat.div_le_self _ _) hd)]
theorem sum_natS {L : Int64} {f : Nat → Int32} (h : CH L f) : sumN f 64 = nI (natS (fun k => bn (bt L k)) 64) := by
  rw [← popc_sum h]; exact popc_natS (fun _ _ => rfl)
theorem verdict_eq {x : KC} (h : okC x) {fit : FI} (hc : CH (juryFittingL x) fit) {f p : Int32} (hf : ¬ isFactI f = 0) (hp : p = 0 ∨ p = 1) : verdictX x f p = verdictV fit f p := by
  obtain ⟨i, hi, rfl⟩ := fact_nat hf
  unfold verdictX verdictV
  rw [sum_natS hc, popc_natS (L := juryFittingL x) (fun _ _ => rfl), popc_natS (L := juryFittingL x &&& factCasesL (nI i)) (p := fun k => bt (juryFittingL x) k && hasB (nI k) (nI i)) (fun k hk => by rw [bt_and, bt_fact i hi k hk])]
  have e : sumL (fun k => if fit k = 1 ∧ hasB (nI k) (nI i) = true then 1 else 0) 64 = lN (natS (fun k => bn (bt (juryFittingL x) k && hasB (nI k) (nI i))) 64) := by
    rw [← sumL_natS]
    have : ∀ n, n ≤ 64 → sumL (fun k => if fit k = 1 ∧ hasB (nI k) (nI i) = true then 1 else 0) n = sumL (fun k => lN (bn (bt (juryFittingL x) k && hasB (nI k) (nI i)))) n := by
      intro n
      induction n with
      | zero => intro _; rfl
      | succ n ih =>
        intro hn
        rw [sumL, sumL, ih (by omega)]
        congr 1
        have hq := CH_eq hc (show n < 64 by omega)
        cases e : bt (juryFittingL x) n
        · rw [if_neg (fun z => by rw [hq, e] at z; cases z.1)]; rfl
        · cases e2 : hasB (nI n) (nI i)
          · rw [if_neg (fun z => by cases z.2)]; rfl
          · rw [if_pos ⟨by rw [hq, e], rfl⟩]; rfl
    exact this 64 (Nat.le_refl _)
  rw [e]
  have b1 := natS_le (f := fun k => bn (bt (juryFittingL x) k && hasB (nI k) (nI i))) (fun k => bn_le _) 64
  have b2 := natS_le (f := fun k => bn (bt (juryFittingL x) k)) (fun k => bn_le _) 64
  exact frac_eq (by omega) (by omega) hp
theorem bits_6 : ∀ k, k < 64 → bitsI (nI k) = nI (natS (fun f => bn (hasB (nI k) (nI f))) 6) := by decide +kernel
theorem mean_eq {x : KC} (h : okC x) {fit : FI} (hc : CH (fittingL x) fit) {p : Int32} (hp : p = 0 ∨ p = 1) : meanX x p = meanV fit p := by
  unfold meanX meanV
  have e1 : sumN (fun f => popc (fittingL x &&& factCasesL (nI f))) 6 = nI (natS (fun f => natS (fun k => bn (bt (fittingL x) k && hasB (nI k) (nI f))) 64) 6) := by
    rw [← sumN_natS]
    exact sumN_congr fun f hf => popc_natS (fun k hk => by rw [bt_and, bt_fact f hf k hk])
  have e2 : sumL (fun k => if fit k = 1 then (bitsI (nI k)).toInt64 else 0) 64 = lN (natS (fun k => natS (fun f => bn (bt (fittingL x) k && hasB (nI k) (nI f))) 6) 64) := by
    rw [← sumL_natS]
    have : ∀ n, n ≤ 64 → sumL (fun k => if fit k = 1 then (bitsI (nI k)).toInt64 else 0) n = sumL (fun k => lN (natS (fun f => bn (bt (fittingL x) k && hasB (nI k) (nI f))) 6)) n := by
      intro n
      induction n with
      | zero => intro _; rfl
      | succ n ih =>
        intro hn
        rw [sumL, sumL, ih (by omega)]
        congr 1
        have hb := natS_le (f := fun f => bn (hasB (nI n) (nI f))) (fun k => bn_le _) 6
        have hq := CH_eq hc (show n < 64 by omega)
        rw [bits_6 n (by omega), nI_l (by omega)]
        cases e : bt (fittingL x) n
        · rw [if_neg (fun z => by rw [hq, e] at z; cases z)]
          have : natS (fun f => bn (false && hasB (nI n) (nI f))) 6 = 0 := natS_zero 6
          rw [this]; rfl
        · rw [if_pos (by rw [hq, e])]; rfl
    exact this 64 (Nat.le_refl _)
  rw [e1, e2, natS_swap, sum_natS hc, popc_natS (L := fittingL x) (fun _ _ => rfl)]
  have b1 := natS_leB (f := fun k => natS (fun f => bn (bt (fittingL x) k && hasB (nI k) (nI f))) 6) (B := 6) (fun k => natS_le (fun f => bn_le _) 6) 64
  have b2 := natS_le (f := fun k => bn (bt (fittingL x) k)) (fun k => bn_le _) 64
  exact frac_eq (by omega) (by omega) hp
