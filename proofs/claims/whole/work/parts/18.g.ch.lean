/-! sets of cases and rows of yes or no -/
def CH (L : Int64) (f : Nat → Int32) : Prop := ∀ k, k < 64 → f k = b2i (bt L k)
theorem CH_iff {L : Int64} {f : Nat → Int32} (h : CH L f) {k : Nat} (hk : k < 64) : decide (f k = 1) = bt L k := by
  rw [h k hk]; cases bt L k <;> rfl
theorem CH_eq {L : Int64} {f : Nat → Int32} (h : CH L f) {k : Nat} (hk : k < 64) : (f k = 1) = (bt L k = true) := by
  rw [h k hk]; cases bt L k
  · exact propext ⟨fun q => absurd q (by decide), fun q => absurd q (by decide)⟩
  · exact propext ⟨fun _ => rfl, fun _ => rfl⟩
theorem bt_nat (L : Int64) (k : Nat) : bt L k = decide (uN L / 2 ^ k % 2 = 1) := by
  unfold bt uN
  show L.toBitVec.toNat.testBit k = _
  rw [Nat.testBit_eq_decide_div_mod_eq]; rfl
theorem popcN_sum {L : Int64} {f : Nat → Int32} (h : CH L f) : ∀ n, n ≤ 64 → nI (popcN (uN L) n) = sumN f n
  | 0, _ => rfl
  | n + 1, hn => by
    rw [popcN, sumN, ← popcN_sum h n (by omega), h n (by omega), bt_nat, ← nI_add]
    congr 1
    have := Nat.mod_two_eq_zero_or_one (uN L / 2 ^ n)
    rcases this with e | e <;> rw [e] <;> rfl
theorem popc_sum {L : Int64} {f : Nat → Int32} (h : CH L f) : popc L = sumN f 64 := popcN_sum h 64 (Nat.le_refl _)
theorem popcN_le (x : Nat) : ∀ n, popcN x n ≤ n
  | 0 => Nat.le_refl _
  | n + 1 => by
    have := popcN_le x n
    have := Nat.mod_lt (x / 2 ^ n) (show 0 < 2 by decide)
    rw [popcN]; omega
theorem popc_nat (L : Int64) : ∃ n : Nat, n ≤ 64 ∧ popc L = nI n := ⟨_, popcN_le _ 64, rfl⟩
theorem bt_ex {L : Int64} (h : ¬ L = 0) : ∃ k, k < 64 ∧ bt L k = true := by
  refine Decidable.byContradiction fun c => h (bt_ext fun k hk => ?_)
  rw [bt_0]
  cases e : bt L k with
  | false => rfl
  | true => exact absurd ⟨k, hk, e⟩ c
theorem z_bt {L : Int64} : L = 0 ↔ ∀ k, k < 64 → bt L k = false := by
  refine ⟨fun h k _ => by rw [h]; exact bt_0 k, fun h => bt_ext fun k hk => by rw [h k hk, bt_0]⟩
theorem sum_pos {f : Nat → Int32} {L : Int64} (h : CH L f) : (sumN f 64 = 0) ↔ L = 0 := by
  rw [← popc_sum h, popc_u]
  have hz : nI (popcN (uN L) 64) = 0 ↔ popcN (uN L) 64 = 0 := by
    have := popcN_le (uN L) 64
    rw [show (0 : Int32) = nI 0 from rfl]; exact nI_eq (by omega) (by decide)
  rw [hz, z_bt]
  have key : ∀ n, n ≤ 64 → (popcN (uN L) n = 0 ↔ ∀ k, k < n → bt L k = false) := by
    intro n
    induction n with
    | zero => intro _; exact ⟨fun _ k hk => absurd hk (by omega), fun _ => rfl⟩
    | succ n ih =>
      intro hn
      have h2 := Nat.mod_lt (uN L / 2 ^ n) (show 0 < 2 by decide)
      have eb := bt_nat L n
      rw [popcN]
      constructor
      · intro q k hk
        by_cases e : k = n
        · subst e; rw [eb]; exact decide_eq_false (by omega)
        · exact (ih (by omega)).mp (by omega) k (by omega)
      · intro q
        have a := (ih (by omega)).mpr (fun k hk => q k (by omega))
        have b := q n (by omega)
        rw [eb] at b
        have := of_decide_eq_false b
        omega
  exact key 64 (Nat.le_refl _)
theorem sumN_pos {f : Nat → Int32} {L : Int64} (h : CH L f) : (0 < sumN f 64) ↔ ¬ L = 0 := by
  rw [← sum_pos h, ← popc_sum h]
  obtain ⟨n, hn, e⟩ := popc_nat L
  rw [e]
  constructor
  · intro q z; rw [z] at q; exact absurd q (by decide)
  · intro q
    rcases Nat.eq_zero_or_pos n with c | c
    · subst c; exact absurd rfl q
    · exact nI_lt (a := 0) c (by omega)
theorem first_some {p : Nat → Bool} : ∀ (n i j : Nat), i ≤ j → j < i + n → p j = true → (∀ k, i ≤ k → k < j → p k = false) → firstN p n i = some j
  | 0, i, j, h1, h2, _, _ => by omega
  | n + 1, i, j, h1, h2, h3, h4 => by
    rw [firstN]
    by_cases e : i = j
    · subst e; rw [if_pos h3]
    · rw [if_neg (by rw [h4 i (Nat.le_refl _) (by omega)]; decide)]
      exact first_some n (i + 1) j (by omega) (by omega) h3 (fun k a b => h4 k (by omega) b)
theorem first_none {p : Nat → Bool} : ∀ (n i : Nat), (∀ k, i ≤ k → k < i + n → p k = false) → firstN p n i = none
  | 0, _, _ => rfl
  | n + 1, i, h => by
    rw [firstN, if_neg (by rw [h i (Nat.le_refl _) (by omega)]; decide)]
    exact first_none n (i + 1) (fun k a b => h k (by omega) (by omega))
theorem first_get {p : Nat → Bool} : ∀ (n i j : Nat), firstN p n i = some j → (i ≤ j ∧ j < i + n) ∧ p j = true ∧ ∀ k, i ≤ k → k < j → p k = false
  | 0, _, _, h => by cases h
  | n + 1, i, j, h => by
    rw [firstN] at h
    by_cases e : p i = true
    · rw [if_pos e] at h; cases h
      exact ⟨⟨Nat.le_refl _, by omega⟩, e, fun k a b => by omega⟩
    · rw [if_neg e] at h
      obtain ⟨⟨a, b⟩, c, d⟩ := first_get n (i + 1) j h
      refine ⟨⟨by omega, by omega⟩, c, fun k k1 k2 => ?_⟩
      by_cases q : k = i
      · subst q; cases z : p k with
        | false => rfl
        | true => exact absurd z e
      · exact d k (by omega) k2
theorem first_no {p : Nat → Bool} : ∀ (n i : Nat), firstN p n i = none → ∀ k, i ≤ k → k < i + n → p k = false
  | 0, _, _ => fun k a b => by omega
  | n + 1, i, h => by
    rw [firstN] at h
    by_cases e : p i = true
    · rw [if_pos e] at h; cases h
    · rw [if_neg e] at h
      intro k a b
      by_cases q : k = i
      · subst q; cases z : p k with
        | false => rfl
        | true => exact absurd z e
      · exact first_no n (i + 1) h k (by omega) (by omega)
/-- the least case, by the lowest bit -/
theorem low_pow : ∀ j, j < 64 → popcN (2 ^ j - 1) 64 = j := by decide +kernel
theorem low_bit {L : Int64} {j : Nat} (hj : j < 64) (h1 : bt L j = true) (h0 : ∀ k, k < j → bt L k = false) : uN (L &&& (- L)) = 2 ^ j := by
  have e : (L &&& (- L)).toBitVec = BitVec.twoPow 64 j := by
    apply BitVec.eq_of_getLsbD_eq
    intro i hi
    rw [Int64.toBitVec_and, Int64.toBitVec_neg, BitVec.getLsbD_and, BitVec.getLsbD_neg, BitVec.getLsbD_twoPow]
    have hb : ∀ k, L.toBitVec.getLsbD k = bt L k := fun k => rfl
    rw [hb i]
    by_cases c : i < j
    · rw [h0 i c]
      simp; omega
    · by_cases d : i = j
      · subst d
        have : ¬ ∃ k, k < i ∧ L.toBitVec.getLsbD k = true := fun ⟨k, a, b⟩ => by rw [hb k, h0 k a] at b; cases b
        rw [h1]
        first
          | (simp [hi, this]; done)
          | (simp [hi, this]
             intro k hk
             rw [hb k]; exact h0 k hk)
      · have : ∃ k, k < i ∧ L.toBitVec.getLsbD k = true := ⟨j, by omega, h1⟩
        have hn : ¬ j = i := fun q => d q.symm
        cases bt L i <;> simp [hi, this, hn]
  show (L &&& (- L)).toBitVec.toNat = _
  rw [e, BitVec.toNat_twoPow, Nat.mod_eq_of_lt (Nat.pow_lt_pow_right (by decide) hj)]
theorem least_eq {L : Int64} {f : Nat → Int32} (h : CH L f) : (if L = 0 then -9 else popc ((L &&& (- L)) - 1)) = leastOf f := by
  by_cases z : L = 0
  · rw [if_pos z]
    unfold leastOf
    rw [first_none 64 0 (fun k _ hk => by rw [CH_iff h (by omega), z, bt_0])]
  · rw [if_neg z]
    unfold leastOf
    cases e : firstN (fun k => decide (f k = 1)) 64 0 with
    | none =>
      exfalso
      obtain ⟨k, hk, hb⟩ := bt_ex z
      have := first_no 64 0 e k (by omega) (by omega)
      rw [CH_iff h hk, hb] at this
      cases this
    | some j =>
      obtain ⟨⟨_, hj⟩, h1, h0⟩ := first_get 64 0 j e
      have hj : j < 64 := by omega
      rw [CH_iff h hj] at h1
      have hl := low_bit hj h1 (fun k hk => by rw [← CH_iff h (show k < 64 by omega)]; exact h0 k (by omega) hk)
      have u1 : uN (1 : Int64) = 1 := by decide
      have hp : 0 < 2 ^ j := Nat.pow_pos (by decide)
      show nI (popcN (uN ((L &&& (- L)) - 1)) 64) = nI j
      rw [uN_sub (by rw [hl, u1]; omega), hl, u1, low_pow j hj]
theorem size_eq {L : Int64} {f : Nat → Int32} (h : CH L f) (p : Int32) : sizeOrLeastI L p = if p = 0 then sumN f 64 else leastOf f := by
  unfold sizeOrLeastI
  rw [← least_eq h, ← popc_sum h]
/-! what is sure -/
theorem hasB_bit (v : Int32) : ∀ i, i < 6 → hasB v (nI i) = v.toBitVec.getLsbD i := by
  intro i hi
  have e := pk_shr v (nI i &&& 31) i (by
    have : ∀ i, i < 6 → ((nI i &&& 31).toBitVec.smod 32).toNat = i := by decide
    exact this i hi)
  unfold hasB
  have h1 := pk_and (v >>> (nI i &&& 31)) (m := 1) 1 (by decide)
  rw [h1]
  have h2 : (v >>> (nI i &&& 31)).toBitVec = v.toBitVec.sshiftRight i := by
    apply BitVec.eq_of_toInt_eq
    rw [BitVec.toInt_sshiftRight]
    exact e
  have h3 : (v >>> (nI i &&& 31)).toBitVec.toNat % 2 = (v.toBitVec.getLsbD i).toNat := by
    rw [h2]
    have : (v.toBitVec.sshiftRight i).getLsbD 0 = v.toBitVec.getLsbD i := by
      rw [BitVec.getLsbD_sshiftRight]
      simp; omega
    rw [← this]
    show _ = ((v.toBitVec.sshiftRight i).toNat.testBit 0).toNat
    rw [Nat.testBit_zero]
    have := Nat.mod_two_eq_zero_or_one (v.toBitVec.sshiftRight i).toNat
    rcases this with q | q <;> rw [q] <;> rfl
  rw [show (2 : Nat) ^ 1 = 2 from rfl, h3]
  cases v.toBitVec.getLsbD i <;> decide
theorem hasB_and (a b : Int32) {i : Nat} (hi : i < 6) : hasB (a &&& b) (nI i) = (hasB a (nI i) && hasB b (nI i)) := by
  rw [hasB_bit _ i hi, hasB_bit _ i hi, hasB_bit _ i hi, Int32.toBitVec_and, BitVec.getLsbD_and]
theorem hasB_or (a b : Int32) {i : Nat} (hi : i < 6) : hasB (a ||| b) (nI i) = (hasB a (nI i) || hasB b (nI i)) := by
  rw [hasB_bit _ i hi, hasB_bit _ i hi, hasB_bit _ i hi, Int32.toBitVec_or, BitVec.getLsbD_or]
theorem hasB_not (a : Int32) {i : Nat} (hi : i < 6) : hasB (a ^^^ (-1)) (nI i) = !hasB a (nI i) := by
  rw [hasB_bit _ i hi, hasB_bit _ i hi, Int32.toBitVec_xor, BitVec.getLsbD_xor]
  have : ∀ i, i < 6 → (-1 : Int32).toBitVec.getLsbD i = true := by decide
  rw [this i hi, Bool.xor_true]
theorem has63 : ∀ i, i < 6 → hasB 63 (nI i) = true := by decide
theorem has0 : ∀ i, i < 6 → hasB 0 (nI i) = false := by decide
theorem and_has {f : FI} {L : Int64} (h : CH L f) {i : Nat} (hi : i < 6) : ∀ n, n ≤ 64 → hasB (andN f n) (nI i) = allN (fun k => !bt L k || bt (factCasesL (nI i)) k) n
  | 0, _ => has63 i hi
  | n + 1, hn => by
    rw [andN, allN, hasB_and _ _ hi, and_has h hi n (by omega), bt_fact i hi n (by omega)]
    congr 1
    rw [← CH_iff h (show n < 64 by omega)]
    by_cases c : f n = 1
    · rw [if_pos c]; simp [c]
    · rw [if_neg c, has63 i hi]; simp [c]
theorem or_has {f : FI} {L : Int64} (h : CH L f) {i : Nat} (hi : i < 6) : ∀ n, n ≤ 64 → hasB (orN f n) (nI i) = anyN (fun k => bt L k && bt (factCasesL (nI i)) k) n
  | 0, _ => has0 i hi
  | n + 1, hn => by
    rw [orN, anyN, hasB_or _ _ hi, or_has h hi n (by omega), bt_fact i hi n (by omega)]
    congr 1
    rw [← CH_iff h (show n < 64 by omega)]
    by_cases c : f n = 1
    · rw [if_pos c]; simp [c]
    · rw [if_neg c, has0 i hi]; simp [c]
theorem all_z {L M : Int64} : allN (fun k => !bt L k || bt M k) 64 = decide (L &&& M = L) := by
  cases e : allN (fun k => !bt L k || bt M k) 64 with
  | true =>
    refine (decide_eq_true (bt_ext fun k hk => ?_)).symm
    have := allN_true.mp e k hk
    rw [bt_and]
    cases a : bt L k
    · rfl
    · rw [a] at this; simpa using this
  | false =>
    refine (decide_eq_false fun c => ?_).symm
    have : allN (fun k => !bt L k || bt M k) 64 = true := allN_true.mpr fun k hk => by
      have h := congrArg (fun z => bt z k) c
      simp only [bt_and] at h
      cases a : bt L k
      · rfl
      · rw [a] at h; simpa using h
    rw [e] at this; cases this
theorem any_z {L M : Int64} : anyN (fun k => bt L k && bt M k) 64 = !decide (L &&& M = 0) := by
  cases e : anyN (fun k => bt L k && bt M k) 64 with
  | true =>
    obtain ⟨k, hk, hb⟩ := anyN_true.mp e
    have : ¬ (L &&& M = 0) := fun c => by
      have h := congrArg (fun z => bt z k) c
      simp only [bt_and, bt_0] at h
      rw [h] at hb; cases hb
    rw [decide_eq_false this]; rfl
  | false =>
    have : L &&& M = 0 := bt_ext fun k hk => by
      rw [bt_and, bt_0]
      cases a : (bt L k && bt M k) with
      | false => rfl
      | true => rw [anyN_true.mpr ⟨k, hk, a⟩] at e; cases e
    rw [decide_eq_true this]; rfl
theorem sure_has {f : FI} {L : Int64} (h : CH L f) {i : Nat} (hi : i < 6) : hasB (sureOf f) (nI i) = !decide (isSureI L (factCasesL (nI i)) = 0) := by
  have hs := sum_pos h
  unfold sureOf isSureI
  by_cases z : L = 0
  · rw [if_pos (hs.mpr z), has0 i hi, decide_eq_true z]; rfl
  · rw [if_neg (fun q => z (hs.mp q)), hasB_or _ _ hi, hasB_and _ _ hi, hasB_not _ hi, has63 i hi, and_has h hi 64 (Nat.le_refl _), or_has h hi 64 (Nat.le_refl _), all_z, any_z, decide_eq_false z]
    cases decide (L &&& factCasesL (nI i) = L) <;> cases decide (L &&& factCasesL (nI i) = 0) <;> decide
theorem and63 (f : FI) : ∀ n, ∃ m : Nat, m < 64 ∧ andN f n = nI m
  | 0 => ⟨63, by decide, rfl⟩
  | n + 1 => by
    obtain ⟨m, hm, e⟩ := and63 f n
    rw [andN, e]
    by_cases c : f n = 1
    · rw [if_pos c]
      refine ⟨(nI m &&& nI n).toBitVec.toNat, ?_, ?_⟩
      · rw [Int32.toBitVec_and, BitVec.toNat_and, pk_tn (show m < 2 ^ 32 by omega)]
        exact Nat.lt_of_le_of_lt Nat.and_le_left hm
      · apply Int32.toBitVec_inj.mp
        apply BitVec.eq_of_toNat_eq
        have hlt : (nI m &&& nI n).toBitVec.toNat < 2 ^ 32 := BitVec.isLt _
        rw [pk_tn hlt]
    · rw [if_neg c]
      have : ∀ m, m < 64 → (nI m &&& 63) = nI m := by decide
      exact ⟨m, hm, this m hm⟩
theorem sure63 (f : FI) : ∃ m : Nat, m < 64 ∧ sureOf f = nI m := by
  unfold sureOf
  by_cases c : sumN f 64 = 0
  · rw [if_pos c]; exact ⟨0, by decide, rfl⟩
  · rw [if_neg c]
    obtain ⟨m, hm, e⟩ := and63 f 64
    obtain ⟨j, hj, ej⟩ := pk_andE (orN f 64 ^^^ (-1)) (m := 63) 6 (by decide)
    have hcomm : (63 : Int32) &&& (orN f 64 ^^^ (-1)) = nI j := by rw [← ej]; exact Int32.and_comm _ _
    rw [e, hcomm]
    have : ∀ a, a < 64 → ∀ b, b < 64 → ∃ c, c < 64 ∧ (nI a ||| nI b) = nI c := by
      intro a ha b hb
      refine ⟨a ||| b, Nat.or_lt_two_pow (n := 6) ha hb, ?_⟩
      apply Int32.toBitVec_inj.mp
      apply BitVec.eq_of_toNat_eq
      rw [Int32.toBitVec_or, BitVec.toNat_or, pk_tn (show a < 2 ^ 32 by omega), pk_tn (show b < 2 ^ 32 by omega), pk_tn (show (a ||| b) < 2 ^ 32 from Nat.or_lt_two_pow (by omega) (by omega))]
    exact this m hm j hj
theorem set_has : ∀ m, m < 64 → setN (fun i => hasB (nI m) (nI i)) 6 = nI m := by decide +kernel
theorem setN_congr {p q : Nat → Bool} {n : Nat} (h : ∀ k, k < n → p k = q k) : setN p n = setN q n := by
  induction n with
  | zero => rfl
  | succ n ih => rw [setN, setN, ih (fun k hk => h k (by omega)), h n (by omega)]
theorem cntN_congr {p q : Nat → Bool} {n : Nat} (h : ∀ k, k < n → p k = q k) : cntN p n = cntN q n := by
  induction n with
  | zero => rfl
  | succ n ih => rw [cntN, cntN, ih (fun k hk => h k (by omega)), h n (by omega)]
theorem allN_congr {p q : Nat → Bool} {n : Nat} (h : ∀ k, k < n → p k = q k) : allN p n = allN q n := by
  induction n with
  | zero => rfl
  | succ n ih => rw [allN, allN, ih (fun k hk => h k (by omega)), h n (by omega)]
theorem anyN_congr {p q : Nat → Bool} {n : Nat} (h : ∀ k, k < n → p k = q k) : anyN p n = anyN q n := by
  induction n with
  | zero => rfl
  | succ n ih => rw [anyN, anyN, ih (fun k hk => h k (by omega)), h n (by omega)]
theorem sure_eq {f : FI} {L : Int64} (h : CH L f) : sureX L = sureOf f := by
  obtain ⟨m, hm, e⟩ := sure63 f
  unfold sureX
  rw [e, ← set_has m hm]
  refine setN_congr fun i hi => ?_
  rw [← e, sure_has h hi]
theorem cnt_sum (p : Nat → Bool) (n : Nat) : cntN p n = sumN (fun k => b2i (p k)) n := by
  induction n with
  | zero => rfl
  | succ n ih => rw [cntN, sumN, ih]
theorem popc_cnt {L : Int64} {p : Nat → Bool} (h : ∀ k, k < 64 → bt L k = p k) : popc L = cntN p 64 := by
  rw [cnt_sum]
  exact popc_sum (fun k hk => by show b2i (p k) = _; rw [h k hk])
