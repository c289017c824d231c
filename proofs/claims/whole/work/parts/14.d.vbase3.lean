/-! facts for the class's conditions -/
theorem cpy_all {α : Type} (f g : Nat → α) (n : Nat) (h : ∀ k, n ≤ k → g k = f k) : va_cpy f g 0 0 n = f := by
  funext k
  unfold va_cpy
  by_cases hk : k < n
  · rw [if_pos ⟨Nat.zero_le _, by omega⟩, Nat.sub_zero, Nat.zero_add]
  · rw [if_neg (by omega), h k (by omega)]
theorem cpy_drop (f : FI) : va_cpy f f 1 0 11 = dropF f := by
  funext k
  unfold va_cpy dropF
  by_cases hk : k < 11
  · rw [if_pos ⟨Nat.zero_le _, by omega⟩, if_pos hk, Nat.sub_zero, Nat.add_comm]
  · rw [if_neg (by omega), if_neg hk]
theorem hasP_z {x : SS} (hx : okS x) (k : Int32) : hasPI x k = 0 ↔ (k < 0 ∨ sNh x ≤ k) := by
  obtain ⟨n, hn, en⟩ := okS_nh hx
  unfold hasPI
  rw [b2i_z]
  constructor
  · intro h
    by_cases h0 : k < 0
    · exact Or.inl h0
    · refine Or.inr ?_
      obtain ⟨j, hj, rfl⟩ := nI_of h0
      by_cases h1 : sNh x ≤ nI j
      · exact h1
      · exfalso
        have h2 : nI j < sNh x := Int32.not_le.mp h1
        have h3 : j < n := by rw [en] at h2; exact (nI_ltI hj (by omega)).mp h2
        have h4 : nI j < 12 := nI_lt (b := 12) (by omega) (by decide)
        simp [nI_pos' hj, h2, h4] at h
  · rintro (h | h)
    · simp [Int32.not_le.mpr h]
    · simp [Int32.not_lt.mpr h]
theorem mod_half {a b : Nat} (hb : 0 < b) (h : b ≤ a) : 2 * (a % b) < a := by
  have h1 := Nat.mod_lt a hb
  have h2 : a % b + b * (a / b) = a := Nat.mod_add_div a b
  have h3 : 1 ≤ a / b := (Nat.one_le_div_iff hb).mpr h
  have h4 : b ≤ b * (a / b) := Nat.le_mul_of_pos_right b h3
  omega
theorem char_id {p : Int32} (h : 0 ≤ p ∧ p ≤ 255) : vp_nar .char ((p.toUInt32 % 65536).toInt32) = p := by
  obtain ⟨k, hk, rfl⟩ := nI_up (M := 255) (n := 255) (by decide) h
  rw [pk_vc, pk_char, pk_tn (by omega), Nat.mod_eq_of_lt (by omega)]
theorem rem_pos {a b : Nat} (ha : a < 2 ^ 31) (hb : 0 < b) (hb2 : b < 2 ^ 31) : nI a - nI a / nI b * nI b = nI (a % b) := pk_rem ha hb hb2
theorem draw_nat (z : Int32) {m : Nat} (hm : 0 < m) (hm2 : m < 2 ^ 31) : ∃ k : Nat, k < m ∧ drawBelowI z (nI m) = nI k := by
  unfold drawBelowI
  rw [if_pos (by rw [← nI_0]; exact nI_lt hm hm2), pk_and z (m := 2147483647) 31 (by decide)]
  have h1 : z.toBitVec.toNat % 2 ^ 31 < 2 ^ 31 := Nat.mod_lt _ (by decide)
  rw [show (256 : Int32) = nI 256 from rfl, pk_div h1 (by decide) (by decide)]
  have h2 : z.toBitVec.toNat % 2 ^ 31 / 256 < 2 ^ 31 := Nat.lt_of_le_of_lt (Nat.div_le_self _ _) h1
  rw [pk_rem h2 hm hm2]
  exact ⟨_, Nat.mod_lt _ hm, rfl⟩
theorem six_le (p : Int32) : (6 ≤ p) ↔ ¬ p ≤ 5 := by
  rw [int_le, int_le]
  have e1 : (6 : Int32).toInt = 6 := by decide
  have e2 : (5 : Int32).toInt = 5 := by decide
  omega
theorem three_le (p : Int32) : (3 ≤ p) ↔ ¬ p ≤ 2 := by
  rw [int_le, int_le]
  have e1 : (3 : Int32).toInt = 3 := by decide
  have e2 : (2 : Int32).toInt = 2 := by decide
  omega
