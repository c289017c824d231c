/-! facts for the literals' and the class's court's conditions -/
theorem byt_ok : ∀ i, i < 7 → ∀ j, j < lenS.getD i 0 → ((((bytS.getD i []).getD j 0) &&& 255).toUInt32 % 65536).toInt32 = (bytS.getD i []).getD j 0 := by decide +kernel
theorem byt_nat : ∀ i, i < 7 → ∀ j, j < lenS.getD i 0 → 0 ≤ (bytS.getD i []).getD j 0 ∧ (bytS.getD i []).getD j 0 ≤ 127 := by decide +kernel
theorem len_7 : ∀ i, i < 7 → lenS.getD i 0 ≤ 6 := by decide
theorem len_shr : ∀ i, i < 7 → nI (lenS.getD i 0) >>> ((0 : Int32) &&& 31) = lenI i := by decide
theorem chS_nar {i : Nat} {k : Int32} (hi : i < 7) (hk : vp_in k (lenS.getD i 0)) : narrow .char (.int (chS i k)) = .int (chS i k) := by
  have h7 := len_7 i hi
  obtain ⟨j, hj, rfl⟩ := vin_nat hk (by omega)
  have e : chS i (nI j) = (bytS.getD i []).getD j 0 := by unfold chS; rw [nI_clamp (by omega)]
  rw [e, ← byt_ok i hi j hj]
  exact pk_nc _
theorem enc_iff (p : Int32) : ((p.toUInt32 >>> ((8 : Int32).toUInt32 &&& Int32.toUInt32 31)).toInt32 = 0) ↔ (0 ≤ p ∧ p ≤ 255) := by
  have e := pk_ushr p 8 8 (by decide)
  have hz : ((p.toUInt32 >>> ((8 : Int32).toUInt32 &&& Int32.toUInt32 31)).toInt32 = 0) ↔ p.toBitVec.toNat / 2 ^ 8 = 0 := by
    rw [← Int32.toBitVec_inj, ← BitVec.toNat_inj, e]; exact Iff.rfl
  have hi : p.toInt = p.toBitVec.toInt := rfl
  have h2 := BitVec.toInt_eq_toNat_cond p.toBitVec
  have h3 := p.toBitVec.isLt
  rw [hz, int_le, int_le, hi]
  have e0 : (0 : Int32).toInt = 0 := by decide
  have e1 : (255 : Int32).toInt = 255 := by decide
  rw [e0, e1, h2]
  by_cases c : 2 * p.toBitVec.toNat < 2 ^ 32
  · rw [if_pos c]; omega
  · rw [if_neg c]; omega
theorem byte_lo : ∀ n, n < 128 → (nI n).toInt8.toInt32 = nI n := by decide +kernel
theorem byte_hi : ∀ n, n < 128 → (nI (128 + n)).toInt8.toInt32 < 0 := by decide +kernel
theorem byte_eq {v p : Int32} (hv : 0 ≤ v ∧ v ≤ 127) (hp : 0 ≤ p ∧ p ≤ 255) : (v = p.toInt8.toInt32) ↔ v = p := by
  obtain ⟨n, hn, rfl⟩ := nI_up (M := 255) (n := 255) (by decide) hp
  by_cases c : n < 128
  · rw [byte_lo n c]
  · have h := byte_hi (n - 128) (by omega)
    rw [show 128 + (n - 128) = n by omega] at h
    constructor
    · intro e; rw [← e] at h; exact absurd hv.1 (Int32.not_le.mpr h)
    · intro e
      have h2 := hv.2
      rw [e] at h2
      exact absurd h2 (nI_ge (a := 127) (by omega) (by omega))
theorem okZ_len {z : KZ} (h : okZ z) : ∃ n : Nat, n ≤ 96 ∧ zLen z = nI n := nI_up (by decide) h.1
theorem sign_r {z : KZ} (h : okZ z) (p : Int32) : 0 ≤ signI z p ∧ signI z p ≤ 255 := by
  unfold signI
  by_cases c : 0 ≤ p ∧ p < zLen z ∧ p < 96
  · rw [if_pos c]; exact h.2 _
  · rw [if_neg c]; decide
theorem shape_7 (c : Int32) : shapeN c < 7 := Nat.lt_trans (shape_6 c) (by decide)
theorem can_b {x : SS} {w q : Int32} (h : ¬ canAskI x w q = 0) : inW x w ∧ inQ x q ∧ sAsked x < 999 := by
  unfold canAskI at h
  by_cases c1 : hasWI x w = 0
  · rw [if_pos c1] at h; exact absurd rfl h
  · rw [if_neg c1] at h
    by_cases c2 : hasQI x q = 0
    · rw [if_pos c2] at h; exact absurd rfl h
    · rw [if_neg c2] at h
      by_cases c3 : sAsked x < 999
      · exact ⟨inW_of c1, inQ_of c2, c3⟩
      · rw [if_neg c3] at h; exact absurd rfl h
/-- a Court of the class as it must be -/
def goodC (c : KC) : Prop := okC c ∧ zC c ∧ sAsked (cS c) ≤ 999
theorem goodC.s {c : KC} (h : goodC c) : goodS (cS c) := ⟨h.1.1, h.2.1.1, h.2.2⟩
theorem goodC_set {c : KC} {x : SS} (h : goodC c) (g : goodS x) (e1 : sNq x = sNq (cS c)) (e2 : sForm x = sForm (cS c)) (e3 : sFirst x = sFirst (cS c)) (e4 : sSecond x = sSecond (cS c)) : goodC (setSC c x) := by
  refine ⟨⟨g.1, fun k hk hk8 => ?_⟩, ⟨g.2.1, h.2.1.2⟩, g.2.2⟩
  show cTruth c k = casesSoL (sForm x k) (factCasesL (sFirst x k)) (factCasesL (sSecond x k)) ∧ cNeeded c k = neededI (sForm x k) (sFirst x k) (sSecond x k)
  rw [e2, e3, e4]
  exact h.1.2 k (by rw [← e1]; exact hk) hk8
theorem goodC_addQ {c : KC} (h : goodC c) (hn : sNq (cS c) < 8) {f a b : Int32} (hf : 0 ≤ f ∧ f ≤ 4) (ha : 0 ≤ a ∧ a ≤ 5) (hb : 0 ≤ b ∧ b ≤ 5) : goodC (addQC c f a b) := by
  obtain ⟨n, hn8, en⟩ := okS_nq h.1.1
  have hlt : n < 8 := by rw [en] at hn; exact (nI_ltI (b := 8) (by omega) (by decide)).mp hn
  have en1 : sNq (cS c) + 1 = nI (n + 1) := by rw [en, nI_1]
  refine ⟨⟨okS_addQ h.1.1 hn hf ha hb, fun k hk hk8 => ?_⟩, ⟨zS_addQ h.1.1 h.2.1.1 hn f a b, fun k hk => ?_⟩, h.2.2⟩
  · have hk : nI k < sNq (cS c) + 1 := hk
    rw [en1] at hk
    have hkn : k < n + 1 := (nI_ltI (by omega) (by omega)).mp hk
    show vp_updL (cTruth c) _ _ k = casesSoL (upd (sForm (cS c)) _ f k) (factCasesL (upd (sFirst (cS c)) _ a k)) (factCasesL (upd (sSecond (cS c)) _ b k)) ∧ upd (cNeeded c) _ _ k = neededI (upd (sForm (cS c)) _ f k) (upd (sFirst (cS c)) _ a k) (upd (sSecond (cS c)) _ b k)
    rw [en, nI_clamp (by omega)]
    by_cases z : k = n
    · subst z; rw [pk_us, pk_us, pk_us, pk_us, pk_uLs]; exact ⟨rfl, rfl⟩
    · rw [pk_un z, pk_un z, pk_un z, pk_un z, pk_uLn z]
      exact h.1.2 k (by rw [en]; exact nI_lt (by omega) (by omega)) hk8
  · show upd (cNeeded c) _ _ k = 0 ∧ vp_updL (cTruth c) _ _ k = 0
    rw [en, nI_clamp (by omega), pk_un (by omega), pk_uLn (by omega)]
    exact h.2.1.2 k hk
theorem qOk_b {x : SS} {f a b : Int32} (h : qOkB x f a b = true) : (0 ≤ f ∧ f ≤ 4) ∧ (¬ isFactI a = 0) ∧ (¬ isFactI b = 0) ∧ sNq x < 8 := by
  unfold qOkB at h
  simp only [Bool.and_eq_true, Bool.not_eq_true', decide_eq_true_eq, decide_eq_false_iff_not] at h
  obtain ⟨⟨⟨⟨h1, h2⟩, h3⟩, h4⟩, h5⟩ := h
  refine ⟨⟨h1, ?_⟩, h3, h4, h5⟩
  rw [int_lt] at h2; rw [int_le]
  have e1 : (5 : Int32).toInt = 5 := by decide
  have e2 : (4 : Int32).toInt = 4 := by decide
  omega
theorem wOk_b {x : SS} {k f b : Int32} (h : wOkB x k f b = true) : (0 ≤ k ∧ k ≤ 5) ∧ (0 ≤ f ∧ f ≤ 9) ∧ (0 ≤ b ∧ b ≤ 63) ∧ sNw x < 5 := by
  unfold wOkB at h
  simp only [Bool.and_eq_true, decide_eq_true_eq] at h
  obtain ⟨⟨⟨⟨⟨⟨h1, h2⟩, h3⟩, h4⟩, h5⟩, h6⟩, h7⟩ := h
  refine ⟨⟨h1, ?_⟩, ⟨h3, h4⟩, ⟨h5, h6⟩, h7⟩
  rw [int_lt] at h2; rw [int_le]
  have e1 : (6 : Int32).toInt = 6 := by decide
  have e2 : (5 : Int32).toInt = 5 := by decide
  omega
theorem flipK_b {x : SS} {w f : Int32} (h : ¬ flipKI x w f = 0) : inW x w ∧ ¬ isFactI f = 0 := by
  unfold flipKI at h
  by_cases c1 : hasWI x w = 0
  · rw [if_pos c1] at h; exact absurd rfl h
  · rw [if_neg c1] at h
    by_cases c2 : isFactI f = 0
    · rw [if_pos c2] at h; exact absurd rfl h
    · exact ⟨inW_of c1, c2⟩
theorem playC_e (z : KZ) (c : KC) (p : Int32) : playC z c p = if signI z p = 102 then (isFactI (digV z (p + 1)), setSC c (if isFactI (digV z (p + 1)) = 0 then cS c else sSetCase (cS c) (sCase (cS c) ^^^ (1 <<< (digV z (p + 1) &&& 31)))))
  else if signI z p = 113 then (b2i (qOkB (cS c) (digV z (p + 1)) (digV z (p + 2)) (digV z (p + 3))), if qOkB (cS c) (digV z (p + 1)) (digV z (p + 2)) (digV z (p + 3)) then addQC c (digV z (p + 1)) (digV z (p + 2)) (digV z (p + 3)) else c)
  else if signI z p = 119 then playWC z c p
  else if signI z p = 107 then (flipKI (cS c) (digV z (p + 1)) (digV z (p + 2)), setSC c (if flipKI (cS c) (digV z (p + 1)) (digV z (p + 2)) = 0 then cS c else sSetKnows (cS c) (upd (sKnows (cS c)) (digV z (p + 1)).toNatClampNeg (sKnows (cS c) (digV z (p + 1)).toNatClampNeg ^^^ (1 <<< (digV z (p + 2) &&& 31))))))
  else if signI z p = 97 then (if canAskI (cS c) (digV z (p + 1)) (digV z (p + 2)) = 0 then (0, c) else (1, setSC c (askS (cS c) (digV z (p + 1)) (digV z (p + 2)))))
  else if signI z p = 110 then (1, setSC c (sSetNh (cS c) 0))
  else (0, c) := rfl
theorem play_good {z : KZ} {c : KC} (h : goodC c) (p : Int32) : goodC (playC z c p).2 := by
  rw [playC_e]
  have hs := h.s
  by_cases c1 : signI z p = 102
  · rw [if_pos c1]
    by_cases d : isFactI (digV z (p + 1)) = 0
    · simp only [d, if_true]; exact h
    · simp only [d, if_false]
      exact goodC_set h ⟨okS_setCase hs.1 (flip_ok hs.1.1 d), hs.2.1, hs.2.2⟩ rfl rfl rfl rfl
  rw [if_neg c1]
  by_cases c2 : signI z p = 113
  · rw [if_pos c2]
    by_cases d : qOkB (cS c) (digV z (p + 1)) (digV z (p + 2)) (digV z (p + 3)) = true
    · simp only [d, if_true]
      obtain ⟨d1, d2, d3, d4⟩ := qOk_b d
      exact goodC_addQ h d4 d1 (fact_r d2) (fact_r d3)
    · simp only [d]; exact h
  rw [if_neg c2]
  by_cases c3 : signI z p = 119
  · rw [if_pos c3]
    unfold playWC
    by_cases d : wOkB (cS c) (ixS 6 (signI z (p + 1))) (digV z (p + 2)) (10 * digV z (p + 3) + digV z (p + 4)) = true
    · simp only [d, if_true]
      obtain ⟨d1, d2, d3, d4⟩ := wOk_b d
      exact goodC_set h ⟨okS_addW hs.1 d4 d1 d2 d3, zS_addW hs.1 hs.2.1 d4 _ _ _, hs.2.2⟩ rfl rfl rfl rfl
    · simp only [d]; exact h
  rw [if_neg c3]
  by_cases c4 : signI z p = 107
  · rw [if_pos c4]
    by_cases d : flipKI (cS c) (digV z (p + 1)) (digV z (p + 2)) = 0
    · simp only [d, if_true]; exact h
    · simp only [d, if_false]
      obtain ⟨d1, d2⟩ := flipK_b d
      exact goodC_set h ⟨okS_knows hs.1 (flip_ok (okS_w hs.1 d1).2.2 d2), zS_knows hs.1 hs.2.1 d1 _, hs.2.2⟩ rfl rfl rfl rfl
  rw [if_neg c4]
  by_cases c5 : signI z p = 97
  · rw [if_pos c5]
    by_cases d : canAskI (cS c) (digV z (p + 1)) (digV z (p + 2)) = 0
    · rw [if_pos d]; exact h
    · rw [if_neg d]
      obtain ⟨d1, d2, d3⟩ := can_b d
      exact goodC_set h (hs.ask d1 d2 (fun q => by rw [q] at d3; exact absurd d3 (by decide))) rfl rfl rfl rfl
  rw [if_neg c5]
  by_cases c6 : signI z p = 110
  · rw [if_pos c6]; exact goodC_set h ⟨okS_setNh hs.1, hs.2.1, hs.2.2⟩ rfl rfl rfl rfl
  · rw [if_neg c6]; exact h
theorem stLen_nat (z : KZ) (p : Int32) : ∃ j : Nat, j ≤ 7 ∧ stLenV z p = nI j := by
  refine ⟨1 + lenS.getD (shapeN (signI z p)) 0, ?_, ?_⟩
  · have := len_7 _ (shape_7 (signI z p)); omega
  · unfold stLenV lenI; rw [← nI_add]; rfl
