/-! THE CLASS'S ANSWERS ARE THE REFERENCE'S, call by call -/
theorem so_eq {x : KC} (h : okC x) {q : Int32} (hq : inQ (cS x) q) {k : Nat} (hk : k < 64) : isInI (truthOfL x q) (nI k) = b2i (soB (cS x) q (nI k)) := by
  obtain ⟨j, n, hj, hn, rfl, en⟩ := inQ_nat h.1 hq
  have hQ : ¬ hasQI (cS x) (nI j) = 0 := by rw [hasQ_isQ h.1]; unfold isQuestionI; rw [b2i_ne]; simp [hq.1, hq.2]
  unfold truthOfL
  rw [if_neg hQ, nI_clamp (by omega), isIn_bt _ hk, truth_bt h en hn hj hk]
theorem truth_b {x : KC} (h : okC x) {q : Int32} (hq : inQ (cS x) q) {k : Nat} (hk : k < 64) : bt (truthOfL x q) k = soB (cS x) q (nI k) := by
  have := so_eq h hq hk
  rw [isIn_bt _ hk] at this
  have h2 : ∀ a b : Bool, b2i a = b2i b → a = b := by decide
  exact h2 _ _ this
theorem cisSo_eq {x : KC} (h : okC x) {q : Int32} (hq : inQ (cS x) q) : cisSoI x q = b2i (soB (cS x) q (sCase (cS x))) := by
  obtain ⟨k, hk, e⟩ := case_nat h.1
  unfold cisSoI
  rw [e]; exact so_eq h hq hk
theorem b2i_dn (b : Bool) : (!decide (b2i b = 0)) = b := by cases b <;> decide
theorem question_eq {x : KC} (h : okC x) {q w : Int32} (hq : inQ (cS x) q) : questionX x q w = questionV (cS x) q w := by
  unfold questionX questionV
  rw [cisSo_eq h hq, b2i_dn]
/-- by a case, what was heard -/
theorem hit_bt {x : KC} (h : okC x) {q w t a : Int32} (hw : inW (cS x) w) (hq : inQ (cS x) q) (ha : 0 ≤ a ∧ a ≤ 2) {k : Nat} (hk : k < 64) : bt (sayingL x w q t a) k = decide (ansI (cS x) w q (nI k) t = a) := by
  refine saying_bt h hw hq hk t ?_
  obtain ⟨n, hn, rfl⟩ := nI_up (M := 2) (n := 2) (by decide) ha
  rcases (show n = 0 ∨ n = 1 ∨ n = 2 by omega) with e | e | e <;> subst e
  · exact Or.inl rfl
  · exact Or.inr (Or.inl rfl)
  · exact Or.inr (Or.inr rfl)
theorem hfit_bt {x : KC} (h : okC x) {n j : Nat} (en : sNh (cS x) = nI n) (hn : n ≤ 12) (hj : j < n) {k : Nat} (hk : k < 64) : bt (hfit x j) k = hitB (cS x) (sWhat (cS x) j) (nI k) j := by
  obtain ⟨a1, a2, a3, a4⟩ := okS_hN h.1 en hn hj
  exact hit_bt h a1 a2 a3 hk
theorem fitK_bt {x : KC} (h : okC x) {n : Nat} (en : sNh (cS x) = nI n) (hn : n ≤ 12) {k : Nat} (hk : k < 64) : ∀ j, j ≤ n → bt (fitK x j) k = allN (fun i => hitB (cS x) (sWhat (cS x) i) (nI k) i) j
  | 0, _ => bt_m1 hk
  | j + 1, hj => by rw [fitK, allN, bt_and, fitK_bt h en hn hk j (by omega), hfit_bt h en hn (by omega) hk]
theorem fit_bt {x : KC} (h : okC x) {k : Nat} (hk : k < 64) : bt (fittingL x) k = fitsAllB (cS x) (nI k) := by
  obtain ⟨n, hn, en⟩ := okS_nh h.1
  unfold fittingL fitsAllB
  rw [en, nI_clamp (by omega)]
  exact fitK_bt h en hn hk n (Nat.le_refl _)
theorem some_bt {x : KC} (h : okC x) {n j : Nat} (en : sNh (cS x) = nI n) (hn : n ≤ 12) (hj : j < n) {m : Nat} (em : sNq (cS x) = nI m) (hm : m ≤ 8) {k : Nat} (hk : k < 64) : ∀ q, q ≤ m → bt (someK x j q) k = anyN (fun i => hitB (cS x) (nI i) (nI k) j) q
  | 0, _ => bt_0 k
  | q + 1, hq => by
    obtain ⟨a1, a2, a3, a4⟩ := okS_hN h.1 en hn hj
    rw [someK, anyN, bt_or, some_bt h en hn hj em hm hk q (by omega), hit_bt h a1 (inQ_nI em hm (by omega)) a3 hk]; rfl
theorem jfitK_bt {x : KC} (h : okC x) {n : Nat} (en : sNh (cS x) = nI n) (hn : n ≤ 12) {k : Nat} (hk : k < 64) : ∀ j, j ≤ n → bt (jfitK x j) k = allN (fun i => couldB (cS x) i (nI k)) j
  | 0, _ => bt_m1 hk
  | j + 1, hj => by
    obtain ⟨m, hm, em⟩ := okS_nq h.1
    rw [jfitK, allN, bt_and, jfitK_bt h en hn hk j (by omega)]
    congr 1
    unfold couldB
    rw [em, nI_clamp (by omega)]
    exact some_bt h en hn (by omega) em hm hk m (Nat.le_refl _)
theorem jury_bt {x : KC} (h : okC x) {k : Nat} (hk : k < 64) : bt (juryFittingL x) k = fitsJuryB (cS x) (nI k) := by
  obtain ⟨n, hn, en⟩ := okS_nh h.1
  unfold juryFittingL fitsJuryB
  rw [en, nI_clamp (by omega)]
  exact jfitK_bt h en hn hk n (Nat.le_refl _)
theorem fit_CH {x : KC} (h : okC x) (old : FI) : CH (fittingL x) (fitM (cS x) 0 old) := fun k hk => by
  unfold fitM tab; rw [if_pos hk]; unfold fitOf; rw [if_pos rfl, fit_bt h hk]
theorem jury_CH {x : KC} (h : okC x) (old : FI) : CH (juryFittingL x) (fitM (cS x) 1 old) := fun k hk => by
  unfold fitM tab; rw [if_pos hk]; unfold fitOf; rw [if_neg (by decide), jury_bt h hk]
/-- next -/
theorem cntFit_eq {x : KC} (h : okC x) {L : Int64} {fit : FI} (hc : CH L fit) {w q v : Int32} (hw : inW (cS x) w) (hq : inQ (cS x) q) (hv : 0 ≤ v ∧ v ≤ 2) : popc (L &&& sayingL x w q (sAsked (cS x) + 1) v) = cntFit (cS x) fit w q v := by
  unfold cntFit
  refine popc_cnt fun k hk => ?_
  rw [bt_and, hit_bt h hw hq hv hk, CH_iff hc hk]
theorem worst_eq {x : KC} (h : okC x) {L : Int64} {fit : FI} (hc : CH L fit) {w q : Int32} (hw : inW (cS x) w) (hq : inQ (cS x) q) : worstX x L w q = worstI (cS x) fit w q := by
  unfold worstX worstI
  rw [cntFit_eq h hc hw hq (by decide), cntFit_eq h hc hw hq (by decide), cntFit_eq h hc hw hq (by decide)]
  rfl
theorem foldN_congr {β : Type} {f g : Nat → β → β} {n : Nat} (I : β → Prop) (hI : ∀ k b, k < n → I b → I (g k b)) (h : ∀ k b, k < n → I b → f k b = g k b) {b : β} (hb : I b) : foldN f n b = foldN g n b ∧ I (foldN g n b) := by
  induction n with
  | zero => exact ⟨rfl, hb⟩
  | succ n ih =>
    obtain ⟨e, i⟩ := ih (fun k b hk => hI k b (by omega)) (fun k b hk => h k b (by omega))
    rw [foldN, foldN, e]
    exact ⟨h n _ (by omega) i, hI n _ (by omega) i⟩
theorem ten_nn {w q : Nat} (hw : w ≤ 12) (hq : q ≤ 12) : 0 ≤ 10 * nI w + nI q := by
  rw [show (10 : Int32) = nI 10 from rfl, pk_mul, nI_add]; exact nI_pos' (by omega)
theorem best_eq {x : KC} (h : okC x) {L : Int64} {fit : FI} (hc : CH L fit) : bestX x L = nextBest (cS x) fit := by
  obtain ⟨n, hn, en⟩ := okS_nq h.1
  obtain ⟨m, hm, em⟩ := okS_nw h.1
  unfold bestX nextBest
  rw [en, em, nI_clamp (by omega), nI_clamp (by omega)]
  have inner : ∀ w, w < m → ∀ b : Int32 × Int32, (b.1 = -9 ∨ 0 ≤ b.1) → foldN (fun q b => bestStepX x L (nI w) (nI q) b) n b = foldN (fun q b => nextStep (cS x) fit (nI w) (nI q) b) n b ∧ ((foldN (fun q b => nextStep (cS x) fit (nI w) (nI q) b) n b).1 = -9 ∨ 0 ≤ (foldN (fun q b => nextStep (cS x) fit (nI w) (nI q) b) n b).1) := by
    intro w hw b hb
    refine foldN_congr (fun b : Int32 × Int32 => b.1 = -9 ∨ 0 ≤ b.1) (fun q b hq hb => ?_) (fun q b hq hb => ?_) hb
    · unfold nextStep
      by_cases c : 0 ≤ b.1 ∧ b.2 ≤ worstI (cS x) fit (nI w) (nI q)
      · rw [if_pos c]; exact hb
      · rw [if_neg c]; exact Or.inr (ten_nn (by omega) (by omega))
    · unfold bestStepX nextStep
      rw [worst_eq h hc (inW_nI em hm hw) (inQ_nI en hn hq)]
      by_cases c : 0 ≤ b.1 ∧ b.2 ≤ worstI (cS x) fit (nI w) (nI q)
      · rw [if_pos c, if_neg]
        rintro (d | d)
        · have := c.1; rw [d] at this; exact absurd this (by decide)
        · exact absurd c.2 (Int32.not_le.mpr d)
      · rw [if_neg c, if_pos]
        rcases hb with d | d
        · exact Or.inl d
        · exact Or.inr (Int32.not_le.mp fun z => c ⟨d, z⟩)
  exact (foldN_congr (fun b : Int32 × Int32 => b.1 = -9 ∨ 0 ≤ b.1) (fun w b hw hb => (inner w hw b hb).2) (fun w b hw hb => (inner w hw b hb).1) (Or.inl rfl)).1
/-- how many he would answer so -/
theorem qsaid_cnt {x : KC} {w t a : Int32} {p : Nat → Bool} : ∀ n : Nat, (∀ q, q < n → decide (replyI x w (nI q) t (sCase (cS x)) = a) = p q) → qsaid x w t a n = cntN p n
  | 0, _ => rfl
  | n + 1, h => by
    rw [qsaid, cntN, ← qsaid_cnt n (fun q hq => h q (by omega)), ← h n (by omega)]
    by_cases c : replyI x w (nI n) t (sCase (cS x)) = a
    · rw [if_pos c, decide_eq_true c]; rfl
    · rw [if_neg c, decide_eq_false c]; show _ = _ + 0; simp
theorem words_eq {x : KC} (h : okC x) {w a : Int32} (hw : inW (cS x) w) : questionsSaidI x w (sAsked (cS x) + 1) a = wordsV (cS x) w a := by
  obtain ⟨n, hn, en⟩ := okS_nq h.1
  unfold questionsSaidI wordsV
  rw [en, nI_clamp (by omega)]
  exact qsaid_cnt n fun q hq => by rw [reply_case h hw (inQ_nI en hn hq)]
theorem betrays_eq {x : KC} (h : okC x) {k : Int32} (h0 : 0 ≤ k) (h1 : k < sNh (cS x)) : questionsSaidI x (sWhom (cS x) k.toNatClampNeg) (sWhen (cS x) k.toNatClampNeg) (sSaid (cS x) k.toNatClampNeg) = betraysV (cS x) k := by
  obtain ⟨n, hn, en⟩ := okS_nq h.1
  obtain ⟨-, a1, -⟩ := okS_h h.1 h0 h1
  unfold questionsSaidI betraysV
  rw [en, nI_clamp (by omega)]
  exact qsaid_cnt n fun q hq => by rw [reply_case h a1 (inQ_nI en hn hq)]; rfl
/-- liars -/
theorem untr_bt {x : KC} (h : okC x) (w : Int32) {n : Nat} (en : sNh (cS x) = nI n) (hn : n ≤ 12) {k : Nat} (hk : k < 64) : ∀ j, j ≤ n → bt (untrK x w j) k = anyN (fun i => decide (sWhom (cS x) i = w) && decide (trueAt (cS x) (nI i) (nI k) = 0)) j
  | 0, _ => bt_0 k
  | j + 1, hj => by
    obtain ⟨a1, a2, a3, a4⟩ := okS_hN h.1 en hn (show j < n by omega)
    have ht := truth_b h a2 hk
    have e : trueAt (cS x) (nI j) (nI k) = if sSaid (cS x) j = 2 then 2 else b2i (soB (cS x) (sWhat (cS x) j) (nI k) == decide (sSaid (cS x) j = 1)) := by
      unfold trueAt; rw [nI_clamp (by omega)]
    rw [untrK, anyN, ← untr_bt h w en hn hk j (by omega)]
    by_cases c : sWhom (cS x) j = w ∧ ¬ sSaid (cS x) j = 2
    · rw [if_pos c, bt_or, e, if_neg c.2, decide_eq_true c.1]
      congr 1
      by_cases d : sSaid (cS x) j = 1
      · rw [if_pos d, bt_not _ hk, ht, decide_eq_true d]
        cases soB (cS x) (sWhat (cS x) j) (nI k) <;> decide
      · rw [if_neg d, ht, decide_eq_false d]
        cases soB (cS x) (sWhat (cS x) j) (nI k) <;> decide
    · rw [if_neg c, e]
      by_cases d : sWhom (cS x) j = w
      · have d2 : sSaid (cS x) j = 2 := Decidable.byContradiction fun q => c ⟨d, q⟩
        rw [if_pos d2]; simp
      · rw [decide_eq_false d]; simp
theorem liars_eq {x : KC} (h : okC x) {fit : FI} (hc : CH (fittingL x) fit) : liarsX x = liarsV (cS x) fit := by
  obtain ⟨n, hn, en⟩ := okS_nh h.1
  obtain ⟨m, hm, em⟩ := okS_nw h.1
  have hu : ∀ w k, k < 64 → bt (untruthsL x w) k = liedB (cS x) w (nI k) := fun w k hk => by
    unfold untruthsL liedB
    rw [en, nI_clamp (by omega)]
    exact untr_bt h w en hn hk n (Nat.le_refl _)
  have hp := sumN_pos hc
  have hl : ∀ w, liarB (cS x) fit w = (!decide (fittingL x = 0) && decide (fittingL x &&& (untruthsL x w ^^^ (-1)) = 0)) := by
    intro w
    unfold liarB
    have e1 : decide (0 < sumN fit 64) = !decide (fittingL x = 0) := by
      by_cases z : fittingL x = 0
      · rw [decide_eq_true z, decide_eq_false (fun q => hp.mp q z)]; rfl
      · rw [decide_eq_false z, decide_eq_true (hp.mpr z)]; rfl
    have e2 : allN (fun k => !decide (fit k = 1) || liedB (cS x) w (nI k)) 64 = decide (fittingL x &&& (untruthsL x w ^^^ (-1)) = 0) := by
      rw [allN_congr (q := fun k => !(bt (fittingL x) k && bt (untruthsL x w ^^^ (-1)) k)) (fun k hk => by
        rw [CH_iff hc hk, bt_not _ hk, hu w k hk]
        cases bt (fittingL x) k <;> cases liedB (cS x) w (nI k) <;> rfl)]
      have := any_z (L := fittingL x) (M := untruthsL x w ^^^ (-1))
      have h3 : ∀ (p : Nat → Bool) n, allN (fun k => !p k) n = !anyN p n := by
        intro p n
        induction n with
        | zero => rfl
        | succ n ih => rw [allN, anyN, ih]; cases anyN p n <;> cases p n <;> rfl
      rw [h3, this, Bool.not_not]
    rw [e1, e2, Bool.and_comm]
  unfold liarsX liarsV
  rw [em, nI_clamp (by omega)]
  by_cases z : fittingL x = 0
  · rw [if_pos z]
    have : ∀ n : Nat, setN (fun w => liarB (cS x) fit (nI w)) n = 0 := by
      intro n
      induction n with
      | zero => rfl
      | succ n ih =>
        rw [setN, ih, hl, decide_eq_true z]
        show (0 : Int32) ||| (if false = true then _ else 0) = 0
        rw [if_neg (by decide)]; decide
    rw [this]
  · rw [if_neg z]
    refine setN_congr fun w _ => ?_
    rw [hl, decide_eq_false z]; rfl
/-- clash -/
theorem both_eq {x : KC} (h : okC x) {n a b : Nat} (en : sNh (cS x) = nI n) (hn : n ≤ 12) (ha : a < n) (hb : b < n) : decide (hfit x a &&& hfit x b = 0) = !bothB (cS x) (nI a) (nI b) := by
  have e : bothB (cS x) (nI a) (nI b) = anyN (fun k => bt (hfit x a) k && bt (hfit x b) k) 64 := by
    unfold bothB
    rw [nI_clamp (by omega), nI_clamp (by omega)]
    exact anyN_congr fun k hk => by rw [hfit_bt h en hn ha hk, hfit_bt h en hn hb hk]
  rw [e, any_z, Bool.not_not]
theorem clash_eq {x : KC} (h : okC x) : clashX x = clashV (cS x) := by
  obtain ⟨n, hn, en⟩ := okS_nh h.1
  unfold clashX clashV
  rw [en, nI_clamp (by omega)]
  have key : ∀ d a, a + d = n → clashFromX x n d a = clashFrom (cS x) n d a := by
    intro d
    induction d with
    | zero => intro a _; rfl
    | succ d ih =>
      intro a hd
      rw [clashFromX, clashFrom, ih (a + 1) (by omega), first_congr (p := fun b => decide (hfit x a &&& hfit x b = 0)) (p' := fun b => !bothB (cS x) (nI a) (nI b)) (n - (a + 1)) (a + 1) (fun j h1 h2 => both_eq h en hn (by omega) (by omega))]
      cases firstN (fun b => !bothB (cS x) (nI a) (nI b)) (n - (a + 1)) (a + 1) with
      | none => rfl
      | some b => rfl
  exact key n 0 (by omega)
/-- what is true of one, who talks -/
theorem trueOf_eq {x : KC} (h : okC x) (w : Int32) : trueOfX x w = trueOfV (cS x) w := by
  obtain ⟨n, hn, en⟩ := okS_nh h.1
  unfold trueOfX trueOfV
  rw [en, nI_clamp (by omega)]
  refine cntN_congr fun j hj => ?_
  obtain ⟨a1, a2, a3, a4⟩ := okS_hN h.1 en hn hj
  congr 1
  have e : trueAt (cS x) (nI j) (sCase (cS x)) = if sSaid (cS x) j = 2 then 2 else b2i (soB (cS x) (sWhat (cS x) j) (sCase (cS x)) == decide (sSaid (cS x) j = 1)) := by
    unfold trueAt; rw [nI_clamp (by omega)]
  rw [e, cisSo_eq h a2]
  obtain ⟨v, hv, ev⟩ := nI_up (M := 2) (n := 2) (by decide) a3
  rw [ev]
  rcases (show v = 0 ∨ v = 1 ∨ v = 2 by omega) with q | q | q <;> subst q <;> cases soB (cS x) (sWhat (cS x) j) (sCase (cS x)) <;> decide
theorem ansK_cnt (x : SS) (w : Int32) : ∀ n, ansK x w n = cntN (fun k => decide (sWhom x k = w) && !decide (sSaid x k = 2)) n
  | 0 => rfl
  | n + 1 => by
    rw [ansK, cntN, ansK_cnt x w n]
    by_cases c : sWhom x n = w ∧ ¬ sSaid x n = 2
    · rw [if_pos c, decide_eq_true c.1, decide_eq_false c.2]; rfl
    · rw [if_neg c]
      have : (decide (sWhom x n = w) && !decide (sSaid x n = 2)) = false := by
        by_cases d : sWhom x n = w
        · have : sSaid x n = 2 := Decidable.byContradiction fun q => c ⟨d, q⟩
          rw [decide_eq_true this]; simp
        · rw [decide_eq_false d]; rfl
      rw [this]; show _ = _ + 0; simp
theorem talker_eq (x : SS) : talkerX x = talkerV x := by
  have e : ∀ w, answersOfI x w = talkN x w := fun w => ansK_cnt x w _
  unfold talkerX talkerV
  congr 1
  refine (foldN_congr (fun _ => True) (fun _ _ _ _ => trivial) (fun w b _ _ => ?_) trivial).1
  rw [e]
  by_cases c : talkN x (nI w) ≤ b.2
  · rw [if_pos c, if_neg (Int32.not_lt.mpr c)]
  · rw [if_neg c, if_pos (Int32.not_le.mp c)]
theorem hidden_eq {x : KC} (h : okC x) : hiddenX x = hiddenV (cS x) := by
  obtain ⟨n, hn, en⟩ := okS_nq h.1
  obtain ⟨m, hm, em⟩ := okS_nw h.1
  unfold hiddenX hiddenV
  rw [en, nI_clamp (by omega)]
  refine setN_congr fun q hq => ?_
  unfold hiddenBX hiddenB
  rw [em, nI_clamp (by omega)]
  refine allN_congr fun w hw => ?_
  rw [reply_case h (inW_nI em hm hw) (inQ_nI en hn hq)]
theorem implies_eq {x : KC} (h : okC x) {fit : FI} (hc : CH (fittingL x) fit) {a b : Int32} (ha : inQ (cS x) a) (hb : inQ (cS x) b) : impliesX x a b = impliesV (cS x) fit a b := by
  unfold impliesX impliesV
  congr 1
  have h3 : ∀ (p : Nat → Bool) n, allN (fun k => !p k) n = !anyN p n := by
    intro p n
    induction n with
    | zero => rfl
    | succ n ih => rw [allN, anyN, ih]; cases anyN p n <;> cases p n <;> rfl
  rw [h3, anyN_congr (q := fun k => bt (fittingL x &&& truthOfL x a) k && bt (truthOfL x b ^^^ (-1)) k) (fun k hk => by
    rw [CH_iff hc hk, bt_and, bt_not _ hk, truth_b h ha hk, truth_b h hb hk]), any_z, Bool.not_not]
theorem count_eq {x : KC} (h : okC x) (ref : FI) (rm tp p : Int32) : countX x ref rm tp p = countV (cS x) ref rm tp p := by
  obtain ⟨n, hn, en⟩ := okS_nq h.1
  have e : questionsSoI x = soSetV (cS x) := by
    unfold questionsSoI soSetV
    rw [en, nI_clamp (by omega)]
    have : ∀ j, j ≤ n → qso x j = setN (fun q => soB (cS x) (nI q) (sCase (cS x))) j := by
      intro j
      induction j with
      | zero => intro _; rfl
      | succ j ih =>
        intro hj
        rw [qso, setN, ih (by omega), cisSo_eq h (inQ_nI en hn (by omega))]
        cases soB (cS x) (nI j) (sCase (cS x))
        · rw [if_pos (show b2i false = 0 from rfl), if_neg (show ¬ false = true by decide)]; simp
        · rw [if_neg (show ¬ b2i true = 0 by decide), if_pos rfl]
    exact this n (Nat.le_refl _)
  unfold countX countV
  rw [e]
  have hb : (p < 11 ∨ 16 < p) ↔ isInM p 11 16 = 0 := by
    unfold isInM
    rw [b2i_z]
    constructor
    · rintro (q | q)
      · rw [decide_eq_false (Int32.not_le.mpr q)]; rfl
      · rw [decide_eq_false (Int32.not_le.mpr q)]; simp
    · intro q
      by_cases c : 11 ≤ p
      · refine Or.inr (Int32.not_le.mp fun z => ?_)
        rw [decide_eq_true c, decide_eq_true z] at q; cases q
      · exact Or.inl (Int32.not_le.mp c)
  by_cases c : isInM p 11 16 = 0
  · rw [if_pos c, if_pos (hb.mpr c)]
  · rw [if_neg c, if_neg (fun q => c (hb.mp q))]
theorem judge_eq {x : SS} (hx : okS x) {row : FI} {m : Nat} (hm : m ≤ 12) : wrongX x row (nI m) = judgeV x row (nI m) := by
  unfold wrongX judgeV
  rw [nI_clamp (by omega), first_congr (p := fun k => decide (hasPI x (nI k) = 0) || !decide (sSaid x k = row k)) (p' := fun k => decide (sNh x ≤ nI k) || !decide (sSaid x k = row k)) m 0 (fun k _ hk => ?_)]
  congr 1
  have := hasP_z hx (nI k)
  by_cases c : sNh x ≤ nI k
  · rw [decide_eq_true c, decide_eq_true (this.mpr (Or.inr c))]
  · rw [decide_eq_false c, decide_eq_false (fun q => (this.mp q).elim (nI_pos (by omega)) c)]
