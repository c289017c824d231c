set_option maxRecDepth 20000 in
set_option maxHeartbeats 2000000 in
theorem v_J13_bitCount_95d88 (p0 : Int64) : vc_J13_bitCount_95d88 p0 (fun r => r = (popc p0)) := by
  unfold vc_J13_bitCount_95d88
  intro z1 e1 z2 e2 z3 e3 z4 e4 z5 e5 z6 e6
  have hx := uN_lt p0
  have m1 : uN 6148914691236517205 = mkB 85 8 := by decide +kernel
  have m2 : uN 3689348814741910323 = mkB 51 8 := by decide +kernel
  have m3 : uN 1085102592571150095 = mkB 15 8 := by decide +kernel
  have l1 : uN (lushr p0 1) = uN p0 / 2 ^ 1 := uN_lush p0 1 (by decide)
  have u1 : uN z1 = pA 8 (uN p0) := by
    have hle : uN (lushr p0 1 &&& 6148914691236517205) ≤ uN p0 := by
      rw [uN_and, l1]
      exact Nat.le_trans Nat.and_le_left (Nat.div_le_self _ _)
    rw [e1, uN_sub hle, uN_and, l1, m1]
    rfl
  have l2 : uN (lushr z1 2) = uN z1 / 2 ^ 2 := uN_lush z1 2 (by decide)
  have u2 : uN z2 = pB 8 (pA 8 (uN p0)) := by
    have hb1 : mkB 51 8 < 2 ^ 62 := by decide +kernel
    have a1 : uN z1 &&& mkB 51 8 ≤ mkB 51 8 := Nat.and_le_right
    have a2 : uN z1 / 2 ^ 2 &&& mkB 51 8 ≤ mkB 51 8 := Nat.and_le_right
    rw [e2, uN_add, uN_and, uN_and, l2, m2, Nat.mod_eq_of_lt (by omega), u1]
    rfl
  have l3 : uN (lushr z2 4) = uN z2 / 2 ^ 4 := uN_lush z2 4 (by decide)
  have u3 : uN z3 = wB 8 (uN p0) := by
    have hb1 : mkB 51 8 < 2 ^ 62 := by decide +kernel
    have a1 : pA 8 (uN p0) &&& mkB 51 8 ≤ mkB 51 8 := Nat.and_le_right
    have a2 : pA 8 (uN p0) / 4 &&& mkB 51 8 ≤ mkB 51 8 := Nat.and_le_right
    have hz2 : uN z2 < 2 ^ 63 := by rw [u2]; unfold pB; omega
    rw [e3, uN_and, uN_add, l3, m3, Nat.mod_eq_of_lt (by omega), u2, ← w_eq]
    rfl
  obtain ⟨c0, h0⟩ : ∃ c, c = popcN (uN p0 % 256) 8 := ⟨_, rfl⟩
  obtain ⟨c1, h1⟩ : ∃ c, c = popcN (uN p0 / 256 % 256) 8 := ⟨_, rfl⟩
  obtain ⟨c2, h2⟩ : ∃ c, c = popcN (uN p0 / 256 / 256 % 256) 8 := ⟨_, rfl⟩
  obtain ⟨c3, h3⟩ : ∃ c, c = popcN (uN p0 / 256 / 256 / 256 % 256) 8 := ⟨_, rfl⟩
  obtain ⟨c4, h4⟩ : ∃ c, c = popcN (uN p0 / 256 / 256 / 256 / 256 % 256) 8 := ⟨_, rfl⟩
  obtain ⟨c5, h5⟩ : ∃ c, c = popcN (uN p0 / 256 / 256 / 256 / 256 / 256 % 256) 8 := ⟨_, rfl⟩
  obtain ⟨c6, h6⟩ : ∃ c, c = popcN (uN p0 / 256 / 256 / 256 / 256 / 256 / 256 % 256) 8 := ⟨_, rfl⟩
  obtain ⟨c7, h7⟩ : ∃ c, c = popcN (uN p0 / 256 / 256 / 256 / 256 / 256 / 256 / 256 % 256) 8 := ⟨_, rfl⟩
  have hw : wB 8 (uN p0) = c0 + 256 * (c1 + 256 * (c2 + 256 * (c3 + 256 * (c4 + 256 * (c5 + 256 * (c6 + 256 * c7)))))) := by
    simp only [wB, ← h0, ← h1, ← h2, ← h3, ← h4, ← h5, ← h6, ← h7]
    omega
  have hp : popcN (uN p0) 64 = c0 + c1 + c2 + c3 + c4 + c5 + c6 + c7 := by
    have q0 := pop_hi (uN p0) 56
    have q1 := pop_hi (uN p0 / 256) 48
    have q2 := pop_hi (uN p0 / 256 / 256) 40
    have q3 := pop_hi (uN p0 / 256 / 256 / 256) 32
    have q4 := pop_hi (uN p0 / 256 / 256 / 256 / 256) 24
    have q5 := pop_hi (uN p0 / 256 / 256 / 256 / 256 / 256) 16
    have q6 := pop_hi (uN p0 / 256 / 256 / 256 / 256 / 256 / 256) 8
    have q7 := pop_low (uN p0 / 256 / 256 / 256 / 256 / 256 / 256 / 256) 8 (Nat.le_refl _)
    rw [← h0] at q0
    rw [← h1] at q1
    rw [← h2] at q2
    rw [← h3] at q3
    rw [← h4] at q4
    rw [← h5] at q5
    rw [← h6] at q6
    rw [← h7] at q7
    show popcN (uN p0) (8 + 56) = _
    rw [q0, show popcN (uN p0 / 256) 56 = popcN (uN p0 / 256) (8 + 48) from rfl, q1, show popcN (uN p0 / 256 / 256) 48 = popcN (uN p0 / 256 / 256) (8 + 40) from rfl, q2, show popcN (uN p0 / 256 / 256 / 256) 40 = popcN (uN p0 / 256 / 256 / 256) (8 + 32) from rfl, q3, show popcN (uN p0 / 256 / 256 / 256 / 256) 32 = popcN (uN p0 / 256 / 256 / 256 / 256) (8 + 24) from rfl, q4, show popcN (uN p0 / 256 / 256 / 256 / 256 / 256) 24 = popcN (uN p0 / 256 / 256 / 256 / 256 / 256) (8 + 16) from rfl, q5, show popcN (uN p0 / 256 / 256 / 256 / 256 / 256 / 256) 16 = popcN (uN p0 / 256 / 256 / 256 / 256 / 256 / 256) (8 + 8) from rfl, q6, q7]
    omega
  have hf := fold_sum (h0 ▸ pop_8 _ : c0 ≤ 8) (h1 ▸ pop_8 _ : c1 ≤ 8) (h2 ▸ pop_8 _ : c2 ≤ 8) (h3 ▸ pop_8 _ : c3 ≤ 8) (h4 ▸ pop_8 _ : c4 ≤ 8) (h5 ▸ pop_8 _ : c5 ≤ 8) (h6 ▸ pop_8 _ : c6 ≤ 8) (h7 ▸ pop_8 _ : c7 ≤ 8) hw rfl rfl rfl
  obtain ⟨f3, f2, f1, f4⟩ := hf
  have l4 : uN (lushr z3 8) = uN z3 / 2 ^ 8 := uN_lush z3 8 (by decide)
  have u4 : uN z4 = wB 8 (uN p0) + wB 8 (uN p0) / 256 := by rw [e4, uN_add, l4, u3, Nat.mod_eq_of_lt (by omega)]
  have l5 : uN (lushr z4 16) = uN z4 / 2 ^ 16 := uN_lush z4 16 (by decide)
  have u5 : uN z5 = (wB 8 (uN p0) + wB 8 (uN p0) / 256) + (wB 8 (uN p0) + wB 8 (uN p0) / 256) / 65536 := by rw [e5, uN_add, l5, u4, Nat.mod_eq_of_lt (by omega)]
  have l6 : uN (lushr z5 32) = uN z5 / 2 ^ 32 := uN_lush z5 32 (by decide)
  have u6 : uN z6 = ((wB 8 (uN p0) + wB 8 (uN p0) / 256) + (wB 8 (uN p0) + wB 8 (uN p0) / 256) / 65536) + ((wB 8 (uN p0) + wB 8 (uN p0) / 256) + (wB 8 (uN p0) + wB 8 (uN p0) / 256) / 65536) / 4294967296 := by rw [e6, uN_add, l6, u5, Nat.mod_eq_of_lt (by omega)]
  have et : z6.toInt32.toBitVec.toNat = uN z6 % 2 ^ 32 := by
    show (z6.toBitVec.signExtend 32).toNat = _
    rw [BitVec.signExtend_eq_setWidth_of_le _ (by decide), BitVec.toNat_setWidth]; rfl
  show z6.toInt32 &&& 127 = popc p0
  rw [pk_and _ (m := 127) 7 (by decide), et, popc_u, hp]
  congr 1
  rw [u6]
  generalize ((wB 8 (uN p0) + wB 8 (uN p0) / 256) + (wB 8 (uN p0) + wB 8 (uN p0) / 256) / 65536) + ((wB 8 (uN p0) + wB 8 (uN p0) / 256) + (wB 8 (uN p0) + wB 8 (uN p0) / 256) / 65536) / 4294967296 = Z at *
  omega
