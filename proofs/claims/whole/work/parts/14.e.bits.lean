/-! bits of longs; the ts_, wb_cu, uN rows are the kit's, given for pasting -/
theorem ts_nf {x : Bool} (h : ¬ x = false) : x = true := by cases x <;> first | rfl | exact absurd rfl h
theorem ts_nt {x : Bool} (h : ¬ x = true) : x = false := by cases x <;> first | rfl | exact absurd rfl h
theorem ts_bit {w : Int64} {s : UInt64} {j : Nat} (hj : j < 64) (hs : s.toNat = j) : ((w.toUInt64 >>> s).toInt64 &&& 1) = 0 ↔ w.toBitVec.getLsbD j = false := by
  have e : (w.toUInt64 >>> s).toInt64.toBitVec = w.toBitVec >>> j := by
    apply BitVec.eq_of_toNat_eq
    show (w.toUInt64 >>> s).toNat = _
    rw [UInt64.toNat_shiftRight, hs, Nat.mod_eq_of_lt hj, BitVec.toNat_ushiftRight]
    rfl
  rw [← Int64.toBitVec_inj, Int64.toBitVec_and, e]
  show w.toBitVec >>> j &&& 1#64 = 0#64 ↔ _
  constructor
  · intro h
    have t := congrArg (fun x => x.getLsbD 0) h
    simpa using t
  · intro h
    apply BitVec.eq_of_getLsbD_eq
    intro i hi
    cases i with
    | zero => simp [h]
    | succ i => simp
theorem wb_cu : ∀ k, k < 64 → ((nI k).toInt64.toUInt64 &&& Int64.toUInt64 63) = UInt64.ofNat k := by decide +kernel
def uN (x : Int64) : Nat := x.toUInt64.toNat
theorem uN_lt (x : Int64) : uN x < 18446744073709551616 := x.toUInt64.toNat_lt
theorem uN_inj {x y : Int64} (h : uN x = uN y) : x = y := congrArg UInt64.toInt64 (UInt64.toNat_inj.mp h)
theorem uN_add (x y : Int64) : uN (x + y) = (uN x + uN y) % 18446744073709551616 := by
  show (x.toUInt64 + y.toUInt64).toNat = _
  exact UInt64.toNat_add _ _
theorem uN_mul (x y : Int64) : uN (x * y) = (uN x * uN y) % 18446744073709551616 := by
  show (x.toUInt64 * y.toUInt64).toNat = _
  exact UInt64.toNat_mul _ _
theorem uN_shr (x : Int64) (s : UInt64) : uN (x.toUInt64 >>> s).toInt64 = uN x / 2 ^ (s.toNat % 64) := by
  show (x.toUInt64 >>> s).toNat = _
  rw [UInt64.toNat_shiftRight, Nat.shiftRight_eq_div_pow]
  rfl
/-- is the case k among them -/
def bt (x : Int64) (k : Nat) : Bool := x.toBitVec.getLsbD k
theorem bt_and (x y : Int64) (k : Nat) : bt (x &&& y) k = (bt x k && bt y k) := by unfold bt; rw [Int64.toBitVec_and, BitVec.getLsbD_and]
theorem bt_or (x y : Int64) (k : Nat) : bt (x ||| y) k = (bt x k || bt y k) := by unfold bt; rw [Int64.toBitVec_or, BitVec.getLsbD_or]
theorem bt_not (x : Int64) {k : Nat} (hk : k < 64) : bt (x ^^^ (-1)) k = !bt x k := by
  unfold bt
  rw [Int64.toBitVec_xor, BitVec.getLsbD_xor]
  have h : ∀ k, k < 64 → ((-1 : Int64).toBitVec.getLsbD k) = true := by decide
  rw [h k hk, Bool.xor_true]
theorem bt_xor (x y : Int64) (k : Nat) : bt (x ^^^ y) k = (bt x k ^^ bt y k) := by unfold bt; rw [Int64.toBitVec_xor, BitVec.getLsbD_xor]
theorem bt_0 (k : Nat) : bt 0 k = false := by
  show (0#64).getLsbD k = false
  simp
theorem bt_m1 {k : Nat} (hk : k < 64) : bt (-1) k = true := by
  have h : ∀ k, k < 64 → bt (-1) k = true := by decide
  exact h k hk
theorem bt_ext {x y : Int64} (h : ∀ k, k < 64 → bt x k = bt y k) : x = y := Int64.toBitVec_inj.mp (BitVec.eq_of_getLsbD_eq fun i hi => h i hi)
theorem isIn_bt (x : Int64) {k : Nat} (hk : k < 64) : isInI x (nI k) = b2i (bt x k) := by
  have h := ts_bit (w := x) (s := (nI k).toInt64.toUInt64 &&& Int64.toUInt64 63) hk (by rw [wb_cu k hk]; show k % 2 ^ 64 = k; omega)
  unfold isInI
  congr 1
  have h2 : (lushr x (nI k) &&& 1 = 0) ↔ bt x k = false := h
  cases e : bt x k with
  | false => simp [h2.mpr e]
  | true =>
    have : ¬ (lushr x (nI k) &&& 1 = 0) := fun q => by rw [h2.mp q] at e; cases e
    simp [this]
theorem bt_fact : ∀ f, f < 6 → ∀ k, k < 64 → bt (factCasesL (nI f)) k = hasB (nI k) (nI f) := by decide +kernel
theorem bt_so {f : Int32} {a b k : Nat} (ha : a < 6) (hb : b < 6) (hk : k < 64) : bt (casesSoL f (factCasesL (nI a)) (factCasesL (nI b))) k = (if f = 0 then hasB (nI k) (nI a) else if f = 1 then !hasB (nI k) (nI a) else if f = 2 then hasB (nI k) (nI a) && hasB (nI k) (nI b) else if f = 3 then hasB (nI k) (nI a) || hasB (nI k) (nI b) else hasB (nI k) (nI a) == hasB (nI k) (nI b)) := by
  unfold casesSoL
  rw [← bt_fact a ha k hk, ← bt_fact b hb k hk]
  by_cases h0 : f = 0
  · rw [if_pos h0, if_pos h0]
  · rw [if_neg h0, if_neg h0]
    by_cases h1 : f = 1
    · rw [if_pos h1, if_pos h1, bt_not _ hk]
    · rw [if_neg h1, if_neg h1]
      by_cases h2 : f = 2
      · rw [if_pos h2, if_pos h2, bt_and]
      · rw [if_neg h2, if_neg h2]
        by_cases h3 : f = 3
        · rw [if_pos h3, if_pos h3, bt_or]
        · rw [if_neg h3, if_neg h3, bt_not _ hk, bt_xor]
          cases bt (factCasesL (nI a)) k <;> cases bt (factCasesL (nI b)) k <;> rfl
theorem q_nat {x : KC} (h : okC x) {j n : Nat} (en : sNq (cS x) = nI n) (hn : n ≤ 8) (hj : j < n) : ∃ f a b : Nat, f ≤ 4 ∧ a < 6 ∧ b < 6 ∧ sForm (cS x) j = nI f ∧ sFirst (cS x) j = nI a ∧ sSecond (cS x) j = nI b ∧ cTruth x j = casesSoL (nI f) (factCasesL (nI a)) (factCasesL (nI b)) ∧ cNeeded x j = neededI (nI f) (nI a) (nI b) := by
  have hlt : nI j < sNq (cS x) := by rw [en]; exact nI_lt hj (by omega)
  obtain ⟨h1, h2, h3⟩ := h.1.2.2.2.2.2.1 j hlt (by omega)
  obtain ⟨f, hf, ef⟩ := nI_up (M := 4) (n := 4) (by decide) h1
  obtain ⟨a, ha, ea⟩ := nI_up (M := 5) (n := 5) (by decide) h2
  obtain ⟨b, hb, eb⟩ := nI_up (M := 5) (n := 5) (by decide) h3
  obtain ⟨t1, t2⟩ := h.2 j hlt (by omega)
  exact ⟨f, a, b, hf, by omega, by omega, ef, ea, eb, by rw [t1, ef, ea, eb], by rw [t2, ef, ea, eb]⟩
/-- a case is among those of the truth just when the question is so by it -/
theorem truth_bt {x : KC} (h : okC x) {j n k : Nat} (en : sNq (cS x) = nI n) (hn : n ≤ 8) (hj : j < n) (hk : k < 64) : bt (cTruth x j) k = soB (cS x) (nI j) (nI k) := by
  obtain ⟨f, a, b, hf, ha, hb, ef, ea, eb, et, -⟩ := q_nat h en hn hj
  rw [et, bt_so ha hb hk]
  unfold soB
  rw [nI_clamp (by omega)]
  simp only [ef, ea, eb]
theorem need_1 : ∀ a, a < 6 → ∀ m, m < 64 → (((1 : Int32) <<< (nI a &&& 31)) &&& (nI m ^^^ (-1)) = 0) = (hasB (nI m) (nI a) = true) := by decide +kernel
theorem need_2 : ∀ a, a < 6 → ∀ b, b < 6 → ∀ m, m < 64 → (((1 : Int32) <<< (nI a &&& 31) ||| (1 : Int32) <<< (nI b &&& 31)) &&& (nI m ^^^ (-1)) = 0) = ((hasB (nI m) (nI a) && hasB (nI m) (nI b)) = true) := by decide +kernel
theorem knows_eq {x : KC} (h : okC x) {w : Int32} (hw : inW (cS x) w) {j n : Nat} (en : sNq (cS x) = nI n) (hn : n ≤ 8) (hj : j < n) : knowsB x w (nI j) = (hasB (sKnows (cS x) w.toNatClampNeg) (sFirst (cS x) j) && (decide (sForm (cS x) j ≤ 1) || hasB (sKnows (cS x) w.toNatClampNeg) (sSecond (cS x) j))) := by
  obtain ⟨f, a, b, hf, ha, hb, ef, ea, eb, -, en2⟩ := q_nat h en hn hj
  obtain ⟨m, hm, em⟩ := nI_up (M := 63) (n := 63) (by decide) (okS_w h.1 hw).2.2
  unfold knowsB
  rw [nI_clamp (by omega), en2, ef, ea, eb, em]
  unfold neededI
  by_cases h2 : 2 ≤ f
  · have e2 : (2 : Int32) ≤ nI f := nI_le (a := 2) h2 (by omega)
    rw [if_pos e2]
    have e : ¬ nI f ≤ 1 := nI_ge (a := 1) (by omega) (by omega)
    have := need_2 a ha b hb m (by omega)
    simp only [this, e]
    simp
  · have e2 : ¬ (2 : Int32) ≤ nI f := nI_ge (b := 2) (by omega) (by decide)
    have e : nI f ≤ 1 := nI_le (b := 1) (by omega) (by decide)
    rw [if_neg e2]
    have := need_1 a ha m (by omega)
    simp only [this, e]
    simp
theorem plainYes_bt (x : KC) (w q : Int32) (k : Nat) : bt (plainYesL x w q) k = (knowsB x w q && bt (cTruth x q.toNatClampNeg) k) := by
  unfold plainYesL
  cases knowsB x w q
  · simp [bt_0]
  · simp
theorem plainNo_bt (x : KC) (w q : Int32) {k : Nat} (hk : k < 64) : bt (plainNoL x w q) k = (knowsB x w q && !bt (cTruth x q.toNatClampNeg) k) := by
  unfold plainNoL
  cases knowsB x w q
  · simp [bt_0]
  · rw [if_pos rfl, bt_not _ hk]; rfl
/-- what is said by a case, plainly: by the sets of the class as by the reference -/
theorem plain_eq {x : KC} (h : okC x) {w : Int32} (hw : inW (cS x) w) {j n k : Nat} (en : sNq (cS x) = nI n) (hn : n ≤ 8) (hj : j < n) (hk : k < 64) : plainI (cS x) w (nI j) (nI k) = if bt (plainYesL x w (nI j)) k then 1 else if bt (plainNoL x w (nI j)) k then 0 else 2 := by
  rw [plainYes_bt, plainNo_bt _ _ _ hk, knows_eq h hw en hn hj, nI_clamp (by omega), truth_bt h en hn hj hk]
  unfold plainI
  rw [nI_clamp (by omega)]
  have e : (1 < sForm (cS x) j) ↔ ¬ sForm (cS x) j ≤ 1 := Int32.not_le.symm
  cases h1 : hasB (sKnows (cS x) w.toNatClampNeg) (sFirst (cS x) j) <;> cases h2 : hasB (sKnows (cS x) w.toNatClampNeg) (sSecond (cS x) j) <;> by_cases h3 : sForm (cS x) j ≤ 1 <;> cases h4 : soB (cS x) (nI j) (nI k) <;> simp [e, h3, b2i]
theorem forgets_eq {x : SS} (hx : okS x) {w t : Int32} (hw : inW x w) : (forgetsI x w t = 0) = ¬ (t - t / (sFigure x w.toNatClampNeg + 1) * (sFigure x w.toNatClampNeg + 1) = 0) := by
  obtain ⟨k, hk, e⟩ := fig_nat (okS_w hx hw).2.1
  unfold forgetsI
  have h0 : 0 < sFigure x w.toNatClampNeg + 1 := by rw [e, nI_1]; exact nI_lt (a := 0) (by omega) (by omega)
  rw [b2i_z]
  simp [h0]
theorem has_of {x : SS} (hx : okS x) {w q : Int32} (hw : inW x w) (hq : inQ x q) : ¬ hasWI x w = 0 ∧ ¬ hasQI x q = 0 := by
  rw [hasW_isW hx, hasQ_isQ hx]
  unfold isWitnessI isQuestionI
  rw [b2i_ne, b2i_ne]
  simp [hw.1, hw.2, hq.1, hq.2]
/-- the class's yes and no, by a case, and the reference's answer -/
theorem yn_eq {x : KC} (h : okC x) {w : Int32} (hw : inW (cS x) w) {j n k : Nat} (en : sNq (cS x) = nI n) (hn : n ≤ 8) (hj : j < n) (hk : k < 64) (t : Int32) : ansI (cS x) w (nI j) (nI k) t = if bt (yesL x w (nI j) t) k then 1 else if bt (noL x w (nI j) t) k then 0 else 2 := by
  have hq : inQ (cS x) (nI j) := inQ_nI en hn hj
  obtain ⟨g1, g2⟩ := has_of h.1 hw hq
  have hp := plain_eq h hw en hn hj hk
  obtain ⟨kd, hkd, ekd⟩ := nI_up (M := 5) (n := 5) (by decide) (okS_w h.1 hw).1
  have hf := forgets_eq h.1 (t := t) hw
  have ho : onwardI (cS x) (nI j) 1 = nI ((j + 1) % n) := onward_nat (j := 1) hj hn (by decide) en
  have ho2 : nI j + 1 - (nI j + 1) / sNq (cS x) * sNq (cS x) = nI ((j + 1) % n) := by rw [en, nI_1, pk_rem (by omega) (by omega) (by omega)]
  have hp4 := plain_eq h hw en hn (Nat.mod_lt (j + 1) (show 0 < n by omega)) hk
  have yb := plainYes_bt x w (nI j) k
  have nb := plainNo_bt x w (nI j) hk
  unfold yesL noL ansI
  rw [if_neg g1, if_neg g2, if_neg g1, if_neg g2, ho, ho2, hp, hp4]
  simp only [hf]
  rcases (show kd = 0 ∨ kd = 1 ∨ kd = 2 ∨ kd = 3 ∨ kd = 4 ∨ kd = 5 by omega) with e | e | e | e | e | e <;> subst e <;> rw [ekd]
  · have c1 : ¬ nI 0 = 1 := by decide
    have c2 : ¬ nI 0 = 2 := by decide
    have c3 : ¬ nI 0 = 3 := by decide
    have c4 : ¬ nI 0 = 4 := by decide
    have c5 : ¬ nI 0 = 5 := by decide
    simp only [c1, c2, c3, c4, c5, if_false]
  · have c1 : nI 1 = 1 := by decide
    simp only [c1, if_true]
    rw [yb, nb]
    cases knowsB x w (nI j) <;> cases bt (cTruth x (nI j).toNatClampNeg) k <;> decide
  · have c1 : ¬ nI 2 = 1 := by decide
    have c2 : nI 2 = 2 := by decide
    have c3 : ¬ (2 : Int32) = 3 := by decide
    have c4 : ¬ (2 : Int32) = 4 := by decide
    have c5 : ¬ (2 : Int32) = 5 := by decide
    have c6 : ¬ (2 : Int32) = 1 := by decide
    simp only [c2, c3, c4, c5, c6, if_false, if_true]
    rw [yb, nb, bt_0]
    cases knowsB x w (nI j) <;> cases bt (cTruth x (nI j).toNatClampNeg) k <;> decide
  · have c2 : nI 3 = 3 := by decide
    have c6 : ¬ (3 : Int32) = 1 := by decide
    have c7 : ¬ (3 : Int32) = 2 := by decide
    simp only [c2, c6, c7, if_false, if_true]
    by_cases z : t - t / (sFigure (cS x) w.toNatClampNeg + 1) * (sFigure (cS x) w.toNatClampNeg + 1) = 0
    · rw [if_pos z, if_neg (not_not_intro z), if_neg (not_not_intro z), bt_0]; rfl
    · rw [if_neg z, if_pos z, if_pos z]
  · have c2 : nI 4 = 4 := by decide
    have c6 : ¬ (4 : Int32) = 1 := by decide
    have c7 : ¬ (4 : Int32) = 2 := by decide
    have c8 : ¬ (4 : Int32) = 3 := by decide
    simp only [c2, c6, c7, c8, if_false, if_true]
  · have c2 : nI 5 = 5 := by decide
    have c6 : ¬ (5 : Int32) = 1 := by decide
    have c7 : ¬ (5 : Int32) = 2 := by decide
    have c8 : ¬ (5 : Int32) = 3 := by decide
    have c9 : ¬ (5 : Int32) = 4 := by decide
    simp only [c2, c6, c7, c8, c9, if_false, if_true]
    rw [bt_m1 hk]; rfl
theorem reply_eq {x : KC} (h : okC x) {w q : Int32} (hw : inW (cS x) w) (hq : inQ (cS x) q) {k : Nat} (hk : k < 64) (t : Int32) : replyI x w q t (nI k) = ansI (cS x) w q (nI k) t := by
  obtain ⟨j, n, hj, hn, rfl, en⟩ := inQ_nat h.1 hq
  rw [yn_eq h hw en hn hj hk]
  unfold replyI
  rw [isIn_bt _ hk, isIn_bt _ hk]
  cases bt (yesL x w (nI j) t) k <;> cases bt (noL x w (nI j) t) k <;> rfl
theorem case_nat {x : SS} (hx : okS x) : ∃ k : Nat, k < 64 ∧ sCase x = nI k := by
  obtain ⟨k, hk, e⟩ := nI_up (M := 63) (n := 63) (by decide) hx.1
  exact ⟨k, by omega, e⟩
theorem reply_case {x : KC} (h : okC x) {w q : Int32} (hw : inW (cS x) w) (hq : inQ (cS x) q) (t : Int32) : replyI x w q t (sCase (cS x)) = ansI (cS x) w q (sCase (cS x)) t := by
  obtain ⟨k, hk, e⟩ := case_nat h.1
  rw [e]; exact reply_eq h hw hq hk t
/-- yes and no are apart -/
theorem no_yes {x : KC} (h : okC x) {w q : Int32} (hw : inW (cS x) w) (hq : inQ (cS x) q) {k : Nat} (hk : k < 64) (t : Int32) : bt (yesL x w q t) k = true → bt (noL x w q t) k = false := by
  obtain ⟨j, n, hj, hn, rfl, en⟩ := inQ_nat h.1 hq
  obtain ⟨g1, g2⟩ := has_of h.1 hw hq
  have ho : onwardI (cS x) (nI j) 1 = nI ((j + 1) % n) := onward_nat (j := 1) hj hn (by decide) en
  have a := plainYes_bt x w (nI j) k
  have b := plainNo_bt x w (nI j) hk
  have a4 := plainYes_bt x w (nI ((j + 1) % n)) k
  have b4 := plainNo_bt x w (nI ((j + 1) % n)) hk
  have ap : bt (plainYesL x w (nI j)) k = true → bt (plainNoL x w (nI j)) k = false := by
    rw [a, b]; cases knowsB x w (nI j) <;> cases bt (cTruth x (nI j).toNatClampNeg) k <;> decide
  have ap4 : bt (plainYesL x w (nI ((j + 1) % n))) k = true → bt (plainNoL x w (nI ((j + 1) % n))) k = false := by
    rw [a4, b4]; cases knowsB x w (nI ((j + 1) % n)) <;> cases bt (cTruth x (nI ((j + 1) % n)).toNatClampNeg) k <;> decide
  have an : bt (plainNoL x w (nI j)) k = true → bt (plainYesL x w (nI j)) k = false := by
    rw [a, b]; cases knowsB x w (nI j) <;> cases bt (cTruth x (nI j).toNatClampNeg) k <;> decide
  have z := bt_0 k
  unfold yesL noL
  rw [if_neg g1, if_neg g2, if_neg g1, if_neg g2, ho]
  clear h hw hq a b a4 b4 g1 g2 en
  split <;> rename_i h1
  · exact an
  · split <;> rename_i h3
    · have h2 : ¬ sKind (cS x) w.toNatClampNeg = 2 := by rw [h3]; decide
      rw [if_neg h2]
      by_cases hf : forgetsI (cS x) w t = 0
      · rw [if_pos hf, if_pos hf]; exact ap
      · rw [if_neg hf, if_neg hf, z]; intro _; rfl
    · split <;> rename_i h4
      · have h2 : ¬ sKind (cS x) w.toNatClampNeg = 2 := by rw [h4]; decide
        rw [if_neg h2]; exact ap4
      · by_cases h2 : sKind (cS x) w.toNatClampNeg = 2
        · rw [if_pos h2]; intro _; exact z
        · rw [if_neg h2]
          by_cases h5 : sKind (cS x) w.toNatClampNeg = 5
          · rw [if_pos h5, if_pos h5]; intro _; exact z
          · rw [if_neg h5, if_neg h5]; exact ap
/-- a case is among those by which something is said, just when it is what the reference answers -/
theorem saying_bt {x : KC} (h : okC x) {w q : Int32} (hw : inW (cS x) w) (hq : inQ (cS x) q) {k : Nat} (hk : k < 64) (t : Int32) {a : Int32} (ha : a = 0 ∨ a = 1 ∨ a = 2) : bt (sayingL x w q t a) k = decide (ansI (cS x) w q (nI k) t = a) := by
  have hny := no_yes h hw hq hk t
  obtain ⟨j, n, hj, hn, rfl, en⟩ := inQ_nat h.1 hq
  rw [yn_eq h hw en hn hj hk]
  unfold sayingL
  rcases ha with e | e | e <;> subst e
  · rw [if_pos rfl]
    cases e1 : bt (yesL x w (nI j) t) k
    · cases bt (noL x w (nI j) t) k <;> decide
    · rw [hny e1]; decide
  · rw [if_neg (by decide), if_pos rfl]
    cases bt (yesL x w (nI j) t) k <;> cases bt (noL x w (nI j) t) k <;> decide
  · rw [if_neg (by decide), if_neg (by decide), bt_not _ hk, bt_or]
    cases bt (yesL x w (nI j) t) k <;> cases bt (noL x w (nI j) t) k <;> decide
