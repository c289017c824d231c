set_option maxRecDepth 20000 in
set_option maxHeartbeats 2000000 in
theorem v_J0_coder_7d493 (i0 : Nat) (h : i0 < 7) : vc_J0_coder_7d493 i0 (fun r => r = (0)) := by
  exact ⟨h, rfl⟩
set_option maxRecDepth 20000 in
set_option maxHeartbeats 2000000 in
theorem v_J0_length_8abf5 (i0 : Nat) (h : i0 < 7) : vc_J0_length_8abf5 i0 (fun r => r = (lenI i0)) := by
  exact ⟨h, h, h, h, len_shr i0 h⟩
set_option maxRecDepth 20000 in
set_option maxHeartbeats 2000000 in
theorem v_J0_isLatin1_aae02 (i0 : Nat) (h : i0 < 7) : vc_J0_isLatin1_aae02 i0 (fun r => r = (1)) := by
  exact ⟨h, rfl⟩
set_option maxRecDepth 20000 in
set_option maxHeartbeats 2000000 in
theorem v_J0_isEmpty_aae02 (i0 : Nat) (h : i0 < 7) : vc_J0_isEmpty_aae02 i0 (fun r => r = (b2i (decide (lenI i0 = 0)))) := by
  refine ⟨h, h, fun c => ?_, fun c => ?_⟩
  · have c' : ¬ lenI i0 = 0 := c
    simp [c', b2i]
  · have c' : lenI i0 = 0 := c
    simp [c', b2i]
set_option maxRecDepth 20000 in
set_option maxHeartbeats 2000000 in
theorem v_J3_checkIndex_n (p0 : Int32) (p1 : Int32) (h : 0 ≤ p0 ∧ p0 < p1) : vc_J3_checkIndex_n p0 p1 (fun r => r = (p0)) := by
  exact ⟨fun c => absurd h.1 (Int32.not_le.mpr c), fun _ => ⟨fun _ => rfl, fun c => absurd h.2 c⟩⟩
set_option maxRecDepth 20000 in
set_option maxHeartbeats 2000000 in
theorem v_J3_checkIndex_r (p0 : Int32) (p1 : Int32) (p2 : Nat) (h : 0 ≤ p0 ∧ p0 < p1) : vc_J3_checkIndex_r p0 p1 p2 (fun r => r = (p0)) := by
  exact ⟨fun c => absurd h.1 (Int32.not_le.mpr c), fun _ => ⟨fun _ => rfl, fun c => absurd h.2 c⟩⟩
set_option maxRecDepth 20000 in
set_option maxHeartbeats 2000000 in
theorem v_J0_checkIndex_df160 (p0 : Int32) (p1 : Int32) (h : 0 ≤ p0 ∧ p0 < p1) : vc_J0_checkIndex_df160 p0 p1 (True) := by
  exact ⟨h, trivial⟩
set_option maxRecDepth 20000 in
set_option maxHeartbeats 2000000 in
theorem v_J1_charAt_3b067 (p0 : Nat) (p1 : Int32) (h : p0 < 7 ∧ vp_in p1 (lenS.getD p0 0)) : vc_J1_charAt_3b067 p0 p1 (fun r => r = (chS p0 p1)) := by
  obtain ⟨h0, h1⟩ := h
  have h7 := len_7 p0 h0
  obtain ⟨j, hj, rfl⟩ := vin_nat h1 (by omega)
  have e : chS p0 (nI j) = (bytS.getD p0 []).getD j 0 := by unfold chS; rw [nI_clamp (by omega)]
  unfold vc_J1_charAt_3b067
  rw [nI_clamp (show j < 2 ^ 31 by omega)]
  exact ⟨h0, ⟨nI_pos' (by omega), nI_lt hj (by omega)⟩, h0, h1, pk_nc _, (byt_ok p0 h0 j hj).trans e.symm⟩
set_option maxRecDepth 20000 in
set_option maxHeartbeats 2000000 in
theorem v_J0_charAt_5068e (i0 : Nat) (p0 : Int32) (h : i0 < 7 ∧ vp_in p0 (lenS.getD i0 0)) : vc_J0_charAt_5068e i0 p0 (fun r => r = (chS i0 p0)) := by
  exact ⟨h.1, h.1, fun c => absurd c (by decide), fun _ => ⟨h.1, h, chS_nar h.1 h.2, rfl⟩⟩
set_option maxRecDepth 20000 in
set_option maxHeartbeats 2000000 in
theorem v_J1_canEncode_9a6ad (p0 : Int32) : vc_J1_canEncode_9a6ad p0 (fun r => r = (b2i (decide ((p0.toUInt32 >>> ((8 : Int32).toUInt32 &&& Int32.toUInt32 31)).toInt32 = 0)))) := by
  have e := enc_iff p0
  unfold vc_J1_canEncode_9a6ad
  refine ⟨fun c => ?_, fun c => ⟨fun c2 => ?_, fun c2 => ?_⟩⟩
  · have : ¬ (p0.toUInt32 >>> ((8 : Int32).toUInt32 &&& Int32.toUInt32 31)).toInt32 = 0 := fun q => absurd (e.mp q).1 (Int32.not_le.mpr c)
    rw [decide_eq_false this]; rfl
  · have : ¬ (p0.toUInt32 >>> ((8 : Int32).toUInt32 &&& Int32.toUInt32 31)).toInt32 = 0 := fun q => absurd (e.mp q).2 (Int32.not_le.mpr c2)
    rw [decide_eq_false this]; rfl
  · rw [decide_eq_true (e.mpr ⟨Int32.not_lt.mp c, Int32.not_lt.mp c2⟩)]; rfl
set_option maxRecDepth 20000 in
set_option maxHeartbeats 2000000 in
theorem v_J1_indexOfChar_4cfef (p0 : Nat) (p1 : Int32) (p2 : Int32) (p3 : Int32) (h : p0 < 7 ∧ (0 ≤ p1 ∧ p1 ≤ 255) ∧ p2 = 0 ∧ p3 = lenI p0) : vc_J1_indexOfChar_4cfef p0 p1 p2 p3 (fun r => r = (ixS p0 p1)) := by
  obtain ⟨h0, h1, rfl, rfl⟩ := h
  have h7 := len_7 p0 h0
  unfold vc_J1_indexOfChar_4cfef
  intro T hT
  refine first_loop (n := lenS.getD p0 0) (fun k => decide ((bytS.getD p0 []).getD k 0 = p1)) (fun j => T (p1.toInt8.toInt32) (nI j)) (fun o => (match o with | some k => nI k | none => (-1 : Int32)) = ixS p0 p1) 0 (fun q => ?_) (fun j _ hj h1' h0' => ?_) rfl
  · rw [Nat.zero_add]
    exact hT _ _ ⟨fun _ => q, fun c => absurd (Int32.le_refl _) c⟩
  · have hj2 : j < lenS.getD p0 0 := by omega
    refine hT _ _ ⟨fun c => absurd c (nI_ge hj2 (by omega)), fun _ => ⟨h0, vin hj2 (by omega), ?_⟩⟩
    rw [nI_clamp (by omega), nI_1]
    have hb := byte_eq (byt_nat p0 h0 j hj2) h1
    exact ⟨fun c => h1' (by simpa using fun q => c (hb.mpr q)), fun c => h0' (by simpa using hb.mp c)⟩
set_option maxRecDepth 20000 in
set_option maxHeartbeats 2000000 in
theorem v_J1_indexOf_4cfef (p0 : Nat) (p1 : Int32) (p2 : Int32) (p3 : Int32) (h : p0 < 7 ∧ (0 ≤ p1 ∧ p1 ≤ 255) ∧ p2 = 0 ∧ p3 = lenI p0) : vc_J1_indexOf_4cfef p0 p1 p2 p3 (fun r => r = (ixS p0 p1)) := by
  obtain ⟨h0, h1, rfl, rfl⟩ := h
  have h7 := len_7 p0 h0
  have e1 : jmax 0 0 = 0 := by decide
  have e2 : jmin (lenI p0) (nI (lenS.getD p0 0)) = lenI p0 := by unfold jmin lenI; rw [if_neg (Int32.lt_irrefl)]
  unfold vc_J1_indexOf_4cfef
  rw [decide_eq_true ((enc_iff p1).mpr h1), e1, e2]
  refine ⟨fun _ => ⟨h0, fun c => ⟨⟨h0, h1, rfl, rfl⟩, rfl⟩, fun c => ?_⟩, fun c => absurd c (by decide)⟩
  have hz : lenS.getD p0 0 = 0 := Decidable.byContradiction fun q => c (by unfold lenI; exact nI_lt (a := 0) (by omega) (by omega))
  show (-1 : Int32) = ixS p0 p1
  unfold ixS
  rw [hz]; rfl
set_option maxRecDepth 20000 in
set_option maxHeartbeats 2000000 in
theorem v_J0_indexOf_7cf53 (i0 : Nat) (p0 : Int32) (p1 : Int32) (h : i0 < 7 ∧ (0 ≤ p0 ∧ p0 ≤ 255) ∧ p1 = 0) : vc_J0_indexOf_7cf53 i0 p0 p1 (fun r => r = (ixS i0 p0)) := by
  exact ⟨h.1, h.1, fun c => absurd c (by decide), fun _ => ⟨h.1, h.1, h.1, ⟨h.1, h.2.1, h.2.2, rfl⟩, rfl⟩⟩
set_option maxRecDepth 20000 in
set_option maxHeartbeats 2000000 in
theorem v_J0_indexOf_0f7a4 (i0 : Nat) (p0 : Int32) (h : i0 < 7 ∧ (0 ≤ p0 ∧ p0 ≤ 255)) : vc_J0_indexOf_0f7a4 i0 p0 (fun r => r = (ixS i0 p0)) := by
  exact ⟨⟨h.1, h.2, rfl⟩, h.1, rfl⟩
set_option maxRecDepth 20000 in
set_option maxHeartbeats 2000000 in
theorem v_X1_shape (p0 : Int32) : vc_X1_shape p0 (fun r => r = (shapeN p0)) := by
  unfold vc_X1_shape shapeN; grind
set_option maxRecDepth 20000 in
set_option maxHeartbeats 2000000 in
theorem v_X1_isOfShape (p0 : Int32) (p1 : Int32) (h : 0 ≤ p0 ∧ p0 ≤ 255) : vc_X1_isOfShape p0 p1 (fun r => r = (ofShapeI p0 p1)) := by
  have h6 : 6 < 7 := by decide
  generalize e : ixS 6 p0 = I
  unfold vc_X1_isOfShape ofShapeI
  rw [e]
  grind [b2i]
set_option maxRecDepth 20000 in
set_option maxHeartbeats 2000000 in
theorem v_X1_sign (σ : KZ) (p0 : Int32) (h : okZ σ) : vc_X1_sign σ p0 (fun r => r = (signI σ p0)) := by
  have h1 := h.2 p0.toNatClampNeg
  have hn : narrow .char (.int (zText σ p0.toNatClampNeg)) = .int (zText σ p0.toNatClampNeg) := by
    obtain ⟨k, hk, e⟩ := nI_up (M := 255) (n := 255) (by decide) h1
    rw [e]; exact (pk_charN (by omega)).1
  have hv : ¬ p0 < 0 → ¬ 96 ≤ p0 → vp_in p0 96 := fun a b => vin_lt (N := 96) (by decide) (Int32.not_lt.mp a) (Int32.not_le.mp b)
  clear h h1
  unfold vc_X1_sign signI; grind
set_option maxRecDepth 20000 in
set_option maxHeartbeats 2000000 in
theorem v_X1_digit (σ : KZ) (p0 : Int32) (h : okZ σ) : vc_X1_digit σ p0 (fun r => r = (digV σ p0)) := by
  exact ⟨h, rfl⟩
set_option maxRecDepth 20000 in
set_option maxHeartbeats 2000000 in
theorem v_X1_statementLength (σ : KZ) (p0 : Int32) (h : okZ σ) : vc_X1_statementLength σ p0 (fun r => r = (stLenV σ p0)) := by
  exact ⟨h, shape_7 _, shape_7 _, rfl⟩
set_option maxRecDepth 20000 in
set_option maxHeartbeats 2000000 in
theorem v_X1_brokenPlace (σ : KZ) (h : okZ σ) : vc_X1_brokenPlace σ (fun r => r = (brokenV σ)) := by
  obtain ⟨len, hl, hz⟩ := okZ_len h
  unfold vc_X1_brokenPlace
  intro T hT
  have key : ∀ (d k w : Nat) (c : Int32), k + d = len → w < 6 → 0 ≤ c → c ≤ 5 → brokenFrom σ d k w c = brokenV σ → T w c (nI k) := by
    intro d
    induction d with
    | zero =>
      intro k w c hk hw h0 h5 he
      rw [brokenFrom] at he
      refine hT _ _ _ ⟨fun _ => ⟨fun z => ?_, fun z => ⟨by omega, by omega, fun q => ?_, fun q => ?_⟩⟩, fun z => absurd (by rw [hz, show k = len by omega]; exact Int32.le_refl _) z⟩
      · rw [if_pos z] at he; exact he
      · rw [if_neg z, if_neg (Int32.not_lt.mpr q)] at he; exact he
      · rw [if_neg z, if_pos (Int32.not_le.mp q)] at he; exact he
    | succ d ih =>
      intro k w c hk hw h0 h5 he
      have hk96 : k < 96 := by omega
      have hkc : (nI k).toNatClampNeg = k := nI_clamp (by omega)
      rw [brokenFrom] at he
      refine hT _ _ _ ⟨fun z => absurd z (by rw [hz]; exact nI_ge (by omega) (by omega)), fun _ => ⟨by omega, by omega, fun q => ?_, fun q => ?_⟩⟩
      · have hlw : (lenI w).toInt = lenS.getD w 0 := nI_toInt (by have := len_7 w (by omega); omega)
        have hvc : vp_in c (lenS.getD w 0) := vin_lt hlw h0 q
        rw [if_neg (Int32.not_le.mpr q)] at he
        rw [hkc, nI_1]
        refine ⟨vin hk96, ⟨by omega, hvc⟩, by omega, h.2 k, fun e => ?_, fun e => ?_⟩
        · rw [if_pos e] at he; exact he
        · rw [if_neg e] at he
          obtain ⟨j, hj, ej⟩ := vin_nat hvc (by have := len_7 w (by omega); omega)
          have h6 := (len_5 w)
          refine ih (k + 1) w (c + 1) (by omega) hw ?_ ?_ he
          · rw [ej, nI_1]; exact nI_pos' (by have := len_7 w (by omega); omega)
          · have : lenS.getD w 0 ≤ 5 := by
              have : ∀ w, w < 6 → lenS.getD w 0 ≤ 5 := by decide
              exact this w hw
            rw [ej, nI_1]; exact nI_le (b := 5) (by omega) (by decide)
      · rw [if_pos (Int32.not_lt.mp q)] at he
        rw [hkc, nI_1]
        refine ⟨vin hk96, shape_7 _, shape_7 _, fun e => ?_, fun e => ?_⟩
        · have e' : ¬ lenI (shapeN (zText σ k)) = 0 := by
            have := b2i_z.mp e
            simpa using this
          rw [if_neg e'] at he
          exact ih (k + 1) _ 0 (by omega) (shape_6 _) (by decide) (by decide) he
        · have e' : lenI (shapeN (zText σ k)) = 0 := by
            have := b2i_ne.mp e
            simpa using this
          rw [if_pos e'] at he
          exact he
  refine key len 0 5 0 (by omega) (by decide) (by decide) (by decide) ?_
  unfold brokenV
  rw [hz, nI_clamp (by omega)]
set_option maxRecDepth 20000 in
set_option maxHeartbeats 2000000 in
theorem v_X1_playWitness (σ : KP) (p0 : Int32) (h : okZ (qScr σ) ∧ okC (qCourt σ) ∧ zC (qCourt σ) ∧ sAsked (cS (qCourt σ)) ≤ 999 ∧ 0 ≤ p0 ∧ p0 ≤ 96) : vc_X1_playWitness σ p0 (fun r u => (r = ((playWC (qScr σ) (qCourt σ) p0).1) ∧ u = ((((playWC (qScr σ) (qCourt σ) p0).2), (qScr σ))))) := by
  obtain ⟨hz, hC, hz2, ha, hp⟩ := h
  have h6 : 6 < 7 := by decide
  exact ⟨hz, hz, hz, ⟨h6, sign_r hz _⟩, h6, hz, hC.1, b2i_nar _, rfl, rfl⟩
set_option maxRecDepth 20000 in
set_option maxHeartbeats 2000000 in
theorem v_X1_play (σ : KP) (p0 : Int32) (h : okZ (qScr σ) ∧ okC (qCourt σ) ∧ zC (qCourt σ) ∧ sAsked (cS (qCourt σ)) ≤ 999 ∧ 0 ≤ p0 ∧ p0 ≤ 96) : vc_X1_play σ p0 (fun r u => (r = ((playC (qScr σ) (qCourt σ) p0).1) ∧ u = ((((playC (qScr σ) (qCourt σ) p0).2), (qScr σ))))) := by
  obtain ⟨hz, hC, hz2, ha, hp⟩ := h
  have hf := fun f : Int32 => b2i_nar (decide (0 ≤ f) && decide (f < 6))
  unfold vc_X1_play
  refine ⟨hz, hz, hz, fun c => ⟨fun d => ?_, fun d => ?_⟩, fun n1 => ⟨fun c => ⟨hf _, ?_⟩, fun n2 => ⟨fun c => ⟨?_, ?_⟩, fun n3 => ⟨fun c => ?_, fun n4 => ⟨fun c => ⟨hz, hC.1, b2i_nar _, ?_⟩, fun n5 => ⟨fun c => ⟨⟨hz, hC, hz2, ha, hp⟩, b2i_nar _, ?_⟩, fun n6 => ?_⟩⟩⟩⟩⟩⟩
  · obtain ⟨d1, d2, d3⟩ := can_b d
    refine ⟨⟨hC, d1, d2, Int32.lt_trans d3 (by decide)⟩, ?_⟩
    have e : playC (qScr σ) (qCourt σ) p0 = (1, setSC (qCourt σ) (askS (cS (qCourt σ)) (digV (qScr σ) (p0 + 1)) (digV (qScr σ) (p0 + 2)))) := by
      rw [playC_e, if_neg (by rw [c]; decide), if_neg (by rw [c]; decide), if_neg (by rw [c]; decide), if_neg (by rw [c]; decide), if_pos c, if_neg d]
    rw [e]; exact ⟨rfl, rfl⟩
  · have e : playC (qScr σ) (qCourt σ) p0 = (0, qCourt σ) := by
      rw [playC_e, if_neg (by rw [c]; decide), if_neg (by rw [c]; decide), if_neg (by rw [c]; decide), if_neg (by rw [c]; decide), if_pos c, if_pos d]
    rw [e]; exact ⟨rfl, rfl⟩
  · rw [playC_e, if_pos c]; exact ⟨rfl, rfl⟩
  · unfold flipKI
    by_cases q1 : hasWI (cS (qCourt σ)) (digV (qScr σ) (p0 + 1)) = 0
    · rw [if_pos q1]; rfl
    · rw [if_neg q1]
      by_cases q2 : isFactI (digV (qScr σ) (p0 + 2)) = 0
      · rw [if_pos q2]; rfl
      · rw [if_neg q2]; rfl
  · rw [playC_e, if_neg n2, if_neg (by rw [c]; decide), if_neg (by rw [c]; decide), if_pos c]; exact ⟨rfl, rfl⟩
  · rw [playC_e, if_neg n2, if_neg (by rw [c]; decide), if_neg (by rw [c]; decide), if_neg n3, if_neg n1, if_pos c]; exact ⟨rfl, rfl⟩
  · rw [playC_e, if_neg n2, if_pos c]; exact ⟨rfl, rfl⟩
  · rw [playC_e, if_neg n2, if_neg n5, if_pos c]; exact ⟨rfl, rfl⟩
  · have e : playC (qScr σ) (qCourt σ) p0 = (0, qCourt σ) := by
      rw [playC_e, if_neg n2, if_neg n5, if_neg n6, if_neg n3, if_neg n1, if_neg n4]
    rw [e]; exact ⟨rfl, rfl⟩
set_option maxRecDepth 20000 in
set_option maxHeartbeats 2000000 in
theorem v_X2_playScript (σ : KX) (h : okX σ ∧ okZ (xScr σ)) : vc_X2_playScript σ (fun r u => ∃ (ex_trial : KC), (zC ex_trial) ∧ (r = (courtXV (xScr σ) (xNow σ)) ∧ u = (((courtXN (xScr σ) (xNow σ)), (xTaken σ), (ex_trial), (xScr σ), (xRow σ), (xRefus σ), (xKept σ), (xRowLen σ), (xIsTaken σ))))) := by
  obtain ⟨hX, hz⟩ := h
  obtain ⟨len, hl, ez⟩ := okZ_len hz
  have hG : goodC (xNow σ) := ⟨hX.1, hX.2.1, hX.2.2.2.2.2.2⟩
  unfold vc_X2_playScript
  intro T hT
  refine ⟨hz, fun c => ⟨⟨hX.2.2.2.1, hX.2.1⟩, ?_⟩, fun c => ?_⟩
  · have hV : courtXV (xScr σ) (xNow σ) = (playFrom (xScr σ) 97 0 0 (xNow σ)).1 := by unfold courtXV; rw [if_neg (Int32.not_le.mpr c)]
    have hN : courtXN (xScr σ) (xNow σ) = match (playFrom (xScr σ) 97 0 0 (xNow σ)).2 with | some r => r | none => xNow σ := by unfold courtXN; rw [if_neg (Int32.not_le.mpr c)]; cases (playFrom (xScr σ) 97 0 0 (xNow σ)).2 <;> rfl
    have key : ∀ (d k p : Nat) (t : KC), k + d = 97 → k ≤ 96 → p ≤ 200 → goodC t → playFrom (xScr σ) d (nI p) (nI k) t = playFrom (xScr σ) 97 0 0 (xNow σ) → T (nI p) (nI k) (xNow σ) t := by
      intro d
      induction d with
      | zero => intro k p t hk h96; omega
      | succ d ih =>
        intro k p t hk h96 hp hg he
        rw [playFrom] at he
        have ends : ¬ (nI p < zLen (xScr σ) ∧ nI k < 96) → (zC (xNow σ) ∧ zC t) ∧ ∃ ex_trial : KC, zC ex_trial ∧ (nI k = courtXV (xScr σ) (xNow σ) ∧ ((t, xTaken σ, t, xScr σ, xRow σ, xRefus σ, xKept σ, xRowLen σ, xIsTaken σ) : KX) = (courtXN (xScr σ) (xNow σ), xTaken σ, ex_trial, xScr σ, xRow σ, xRefus σ, xKept σ, xRowLen σ, xIsTaken σ)) := by
          intro q
          rw [if_neg q] at he
          refine ⟨⟨hG.2.1, hg.2.1⟩, t, hg.2.1, ?_, ?_⟩
          · rw [hV, ← he]
          · rw [hN, ← he]
        refine hT _ _ _ _ ⟨fun q => ends (fun z => absurd q (Int32.not_le.mpr z.1)), fun q => ⟨fun q2 => ends (fun z => absurd q2 (Int32.not_le.mpr z.2)), fun q2 => ?_⟩⟩
        have hlt : p < len := by
          have := Int32.not_le.mp q
          rw [ez] at this
          exact (nI_ltI (by omega) (by omega)).mp this
        have hk96 : k < 96 := (nI_ltI (b := 96) (by omega) (by decide)).mp (Int32.not_le.mp q2)
        rw [if_pos ⟨Int32.not_le.mp q, Int32.not_le.mp q2⟩] at he
        refine ⟨⟨hz, hg.1, hg.2.1, hg.2.2, nI_pos' (by omega), nI_le (b := 96) (by omega) (by decide)⟩, fun e => ⟨hz, ?_⟩, fun e => ?_⟩
        · simp only [e, if_false] at he
          obtain ⟨j, hj, ej⟩ := stLen_nat (xScr σ) (nI p)
          rw [ej, nI_add, nI_1] at he ⊢
          exact ih (k + 1) (p + j) _ (by omega) (by omega) (by omega) (play_good hg (nI p)) he
        · simp only [e, if_true] at he
          refine ⟨(playC (xScr σ) t (nI p)).2, (play_good hg (nI p)).2.1, ?_, ?_⟩
          · rw [hV, ← he]
          · rw [hN, ← he]
    exact key 97 0 0 (xNow σ) rfl (by decide) (by decide) hG rfl
  · refine ⟨xTrial σ, hX.2.2.2.1, ?_, ?_⟩
    · unfold courtXV; rw [if_pos (Int32.not_lt.mp c)]
    · unfold courtXN; rw [if_pos (Int32.not_lt.mp c)]
set_option maxRecDepth 20000 in
set_option maxHeartbeats 2000000 in
theorem v_X2_court (σ : KX) (h : okX σ ∧ okZ (xScr σ)) : vc_X2_court σ (fun r u => ∃ (ex_trial : KC), (zC ex_trial) ∧ (r = (courtXV (xScr σ) (xNow σ)) ∧ u = (((courtXN (xScr σ) (xNow σ)), (xTaken σ), (ex_trial), ((0), (zText (xScr σ))), (xRow σ), (xRefus σ), (xKept σ), (xRowLen σ), (xIsTaken σ))))) := by
  exact ⟨h, fun t hz => ⟨t, hz, rfl, rfl⟩⟩
