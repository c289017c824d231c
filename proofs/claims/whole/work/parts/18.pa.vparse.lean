set_option maxRecDepth 20000 in
set_option maxHeartbeats 2000000 in
theorem v_X3_passes_2 (σ : KM) (h : 0 ≤ kCur (mK σ) ∧ kCur (mK σ) ≤ 276 - 8) : vc_X3_passes_2 σ (fun u => u = ((((sCase (mS σ)), (sAsked (mS σ)), (sNq (mS σ)), (sNw (mS σ)), (sNh (mS σ)), (if kKeep (mK σ) = 0 then loadA (kKept (mK σ)) (kCur (mK σ)) 8 (sForm (mS σ)) else (sForm (mS σ))), (sFirst (mS σ)), (sSecond (mS σ)), (sKind (mS σ)), (sFigure (mS σ)), (sKnows (mS σ)), (sWhom (mS σ)), (sWhat (mS σ)), (sSaid (mS σ)), (sWhen (mS σ))), (mT σ), ((if kKeep (mK σ) = 0 then kKept (mK σ) else saveA (kKept (mK σ)) (kCur (mK σ)) 8 (sForm (mS σ))), (kHas (mK σ)), (kKeep (mK σ)), (kCur (mK σ) + 8)), (mF σ), (mRow σ), (mRowMany σ), (mLots σ), (mRefused σ)))) := by
  obtain ⟨c, hc, ec⟩ := nI_up (M := 276 - 8) (n := 268) (by decide) h
  unfold vc_X3_passes_2
  intro T hT
  rw [ec]
  refine pass_loop (n := 8) (c := c) (by decide) (by omega) (kKeep (mK σ)) (kKept (mK σ)) (sForm (mS σ)) T (fun k => ?_) (fun k => ?_) (fun k j hj kp s ih => ?_) (fun k j hj kp s ih => ?_)
  · refine hT _ _ _ _ ⟨fun _ => ?_, fun c => absurd (by decide) c⟩
    rw [if_pos k, if_pos k, ec, show (8 : Int32) = nI 8 from rfl, nI_add]
  · refine hT _ _ _ _ ⟨fun _ => ?_, fun c => absurd (by decide) c⟩
    rw [if_neg k, if_neg k, ec, show (8 : Int32) = nI 8 from rfl, nI_add]
  · refine hT _ _ _ _ ⟨fun z => absurd z (nle_nI (N := 8) (n := 8) (by decide) (by decide) hj), fun _ => ⟨fun _ => ⟨vin (by omega), vin hj, ?_⟩, fun z => absurd k z⟩⟩
    rw [nI_clamp (by omega), nI_clamp (by omega), nI_1, nI_1]; exact ih
  · refine hT _ _ _ _ ⟨fun z => absurd z (nle_nI (N := 8) (n := 8) (by decide) (by decide) hj), fun _ => ⟨fun z => absurd z k, fun _ => ⟨vin hj, vin (by omega), ?_⟩⟩⟩
    rw [nI_clamp (by omega), nI_clamp (by omega), nI_1, nI_1]; exact ih
set_option maxRecDepth 20000 in
set_option maxHeartbeats 2000000 in
theorem v_X3_passes_3 (σ : KM) (h : 0 ≤ kCur (mK σ) ∧ kCur (mK σ) ≤ 276 - 8) : vc_X3_passes_3 σ (fun u => u = ((((sCase (mS σ)), (sAsked (mS σ)), (sNq (mS σ)), (sNw (mS σ)), (sNh (mS σ)), (sForm (mS σ)), (if kKeep (mK σ) = 0 then loadA (kKept (mK σ)) (kCur (mK σ)) 8 (sFirst (mS σ)) else (sFirst (mS σ))), (sSecond (mS σ)), (sKind (mS σ)), (sFigure (mS σ)), (sKnows (mS σ)), (sWhom (mS σ)), (sWhat (mS σ)), (sSaid (mS σ)), (sWhen (mS σ))), (mT σ), ((if kKeep (mK σ) = 0 then kKept (mK σ) else saveA (kKept (mK σ)) (kCur (mK σ)) 8 (sFirst (mS σ))), (kHas (mK σ)), (kKeep (mK σ)), (kCur (mK σ) + 8)), (mF σ), (mRow σ), (mRowMany σ), (mLots σ), (mRefused σ)))) := by
  obtain ⟨c, hc, ec⟩ := nI_up (M := 276 - 8) (n := 268) (by decide) h
  unfold vc_X3_passes_3
  intro T hT
  rw [ec]
  refine pass_loop (n := 8) (c := c) (by decide) (by omega) (kKeep (mK σ)) (kKept (mK σ)) (sFirst (mS σ)) T (fun k => ?_) (fun k => ?_) (fun k j hj kp s ih => ?_) (fun k j hj kp s ih => ?_)
  · refine hT _ _ _ _ ⟨fun _ => ?_, fun c => absurd (by decide) c⟩
    rw [if_pos k, if_pos k, ec, show (8 : Int32) = nI 8 from rfl, nI_add]
  · refine hT _ _ _ _ ⟨fun _ => ?_, fun c => absurd (by decide) c⟩
    rw [if_neg k, if_neg k, ec, show (8 : Int32) = nI 8 from rfl, nI_add]
  · refine hT _ _ _ _ ⟨fun z => absurd z (nle_nI (N := 8) (n := 8) (by decide) (by decide) hj), fun _ => ⟨fun _ => ⟨vin (by omega), vin hj, ?_⟩, fun z => absurd k z⟩⟩
    rw [nI_clamp (by omega), nI_clamp (by omega), nI_1, nI_1]; exact ih
  · refine hT _ _ _ _ ⟨fun z => absurd z (nle_nI (N := 8) (n := 8) (by decide) (by decide) hj), fun _ => ⟨fun z => absurd z k, fun _ => ⟨vin hj, vin (by omega), ?_⟩⟩⟩
    rw [nI_clamp (by omega), nI_clamp (by omega), nI_1, nI_1]; exact ih
set_option maxRecDepth 20000 in
set_option maxHeartbeats 2000000 in
theorem v_X3_passes_4 (σ : KM) (h : 0 ≤ kCur (mK σ) ∧ kCur (mK σ) ≤ 276 - 8) : vc_X3_passes_4 σ (fun u => u = ((((sCase (mS σ)), (sAsked (mS σ)), (sNq (mS σ)), (sNw (mS σ)), (sNh (mS σ)), (sForm (mS σ)), (sFirst (mS σ)), (if kKeep (mK σ) = 0 then loadA (kKept (mK σ)) (kCur (mK σ)) 8 (sSecond (mS σ)) else (sSecond (mS σ))), (sKind (mS σ)), (sFigure (mS σ)), (sKnows (mS σ)), (sWhom (mS σ)), (sWhat (mS σ)), (sSaid (mS σ)), (sWhen (mS σ))), (mT σ), ((if kKeep (mK σ) = 0 then kKept (mK σ) else saveA (kKept (mK σ)) (kCur (mK σ)) 8 (sSecond (mS σ))), (kHas (mK σ)), (kKeep (mK σ)), (kCur (mK σ) + 8)), (mF σ), (mRow σ), (mRowMany σ), (mLots σ), (mRefused σ)))) := by
  obtain ⟨c, hc, ec⟩ := nI_up (M := 276 - 8) (n := 268) (by decide) h
  unfold vc_X3_passes_4
  intro T hT
  rw [ec]
  refine pass_loop (n := 8) (c := c) (by decide) (by omega) (kKeep (mK σ)) (kKept (mK σ)) (sSecond (mS σ)) T (fun k => ?_) (fun k => ?_) (fun k j hj kp s ih => ?_) (fun k j hj kp s ih => ?_)
  · refine hT _ _ _ _ ⟨fun _ => ?_, fun c => absurd (by decide) c⟩
    rw [if_pos k, if_pos k, ec, show (8 : Int32) = nI 8 from rfl, nI_add]
  · refine hT _ _ _ _ ⟨fun _ => ?_, fun c => absurd (by decide) c⟩
    rw [if_neg k, if_neg k, ec, show (8 : Int32) = nI 8 from rfl, nI_add]
  · refine hT _ _ _ _ ⟨fun z => absurd z (nle_nI (N := 8) (n := 8) (by decide) (by decide) hj), fun _ => ⟨fun _ => ⟨vin (by omega), vin hj, ?_⟩, fun z => absurd k z⟩⟩
    rw [nI_clamp (by omega), nI_clamp (by omega), nI_1, nI_1]; exact ih
  · refine hT _ _ _ _ ⟨fun z => absurd z (nle_nI (N := 8) (n := 8) (by decide) (by decide) hj), fun _ => ⟨fun z => absurd z k, fun _ => ⟨vin hj, vin (by omega), ?_⟩⟩⟩
    rw [nI_clamp (by omega), nI_clamp (by omega), nI_1, nI_1]; exact ih
set_option maxRecDepth 20000 in
set_option maxHeartbeats 2000000 in
theorem v_X3_passes_5 (σ : KM) (h : 0 ≤ kCur (mK σ) ∧ kCur (mK σ) ≤ 276 - 5) : vc_X3_passes_5 σ (fun u => u = ((((sCase (mS σ)), (sAsked (mS σ)), (sNq (mS σ)), (sNw (mS σ)), (sNh (mS σ)), (sForm (mS σ)), (sFirst (mS σ)), (sSecond (mS σ)), (if kKeep (mK σ) = 0 then loadA (kKept (mK σ)) (kCur (mK σ)) 5 (sKind (mS σ)) else (sKind (mS σ))), (sFigure (mS σ)), (sKnows (mS σ)), (sWhom (mS σ)), (sWhat (mS σ)), (sSaid (mS σ)), (sWhen (mS σ))), (mT σ), ((if kKeep (mK σ) = 0 then kKept (mK σ) else saveA (kKept (mK σ)) (kCur (mK σ)) 5 (sKind (mS σ))), (kHas (mK σ)), (kKeep (mK σ)), (kCur (mK σ) + 5)), (mF σ), (mRow σ), (mRowMany σ), (mLots σ), (mRefused σ)))) := by
  obtain ⟨c, hc, ec⟩ := nI_up (M := 276 - 5) (n := 271) (by decide) h
  unfold vc_X3_passes_5
  intro T hT
  rw [ec]
  refine pass_loop (n := 5) (c := c) (by decide) (by omega) (kKeep (mK σ)) (kKept (mK σ)) (sKind (mS σ)) T (fun k => ?_) (fun k => ?_) (fun k j hj kp s ih => ?_) (fun k j hj kp s ih => ?_)
  · refine hT _ _ _ _ ⟨fun _ => ?_, fun c => absurd (by decide) c⟩
    rw [if_pos k, if_pos k, ec, show (5 : Int32) = nI 5 from rfl, nI_add]
  · refine hT _ _ _ _ ⟨fun _ => ?_, fun c => absurd (by decide) c⟩
    rw [if_neg k, if_neg k, ec, show (5 : Int32) = nI 5 from rfl, nI_add]
  · refine hT _ _ _ _ ⟨fun z => absurd z (nle_nI (N := 5) (n := 5) (by decide) (by decide) hj), fun _ => ⟨fun _ => ⟨vin (by omega), vin hj, ?_⟩, fun z => absurd k z⟩⟩
    rw [nI_clamp (by omega), nI_clamp (by omega), nI_1, nI_1]; exact ih
  · refine hT _ _ _ _ ⟨fun z => absurd z (nle_nI (N := 5) (n := 5) (by decide) (by decide) hj), fun _ => ⟨fun z => absurd z k, fun _ => ⟨vin hj, vin (by omega), ?_⟩⟩⟩
    rw [nI_clamp (by omega), nI_clamp (by omega), nI_1, nI_1]; exact ih
set_option maxRecDepth 20000 in
set_option maxHeartbeats 2000000 in
theorem v_X3_passes_6 (σ : KM) (h : 0 ≤ kCur (mK σ) ∧ kCur (mK σ) ≤ 276 - 5) : vc_X3_passes_6 σ (fun u => u = ((((sCase (mS σ)), (sAsked (mS σ)), (sNq (mS σ)), (sNw (mS σ)), (sNh (mS σ)), (sForm (mS σ)), (sFirst (mS σ)), (sSecond (mS σ)), (sKind (mS σ)), (if kKeep (mK σ) = 0 then loadA (kKept (mK σ)) (kCur (mK σ)) 5 (sFigure (mS σ)) else (sFigure (mS σ))), (sKnows (mS σ)), (sWhom (mS σ)), (sWhat (mS σ)), (sSaid (mS σ)), (sWhen (mS σ))), (mT σ), ((if kKeep (mK σ) = 0 then kKept (mK σ) else saveA (kKept (mK σ)) (kCur (mK σ)) 5 (sFigure (mS σ))), (kHas (mK σ)), (kKeep (mK σ)), (kCur (mK σ) + 5)), (mF σ), (mRow σ), (mRowMany σ), (mLots σ), (mRefused σ)))) := by
  obtain ⟨c, hc, ec⟩ := nI_up (M := 276 - 5) (n := 271) (by decide) h
  unfold vc_X3_passes_6
  intro T hT
  rw [ec]
  refine pass_loop (n := 5) (c := c) (by decide) (by omega) (kKeep (mK σ)) (kKept (mK σ)) (sFigure (mS σ)) T (fun k => ?_) (fun k => ?_) (fun k j hj kp s ih => ?_) (fun k j hj kp s ih => ?_)
  · refine hT _ _ _ _ ⟨fun _ => ?_, fun c => absurd (by decide) c⟩
    rw [if_pos k, if_pos k, ec, show (5 : Int32) = nI 5 from rfl, nI_add]
  · refine hT _ _ _ _ ⟨fun _ => ?_, fun c => absurd (by decide) c⟩
    rw [if_neg k, if_neg k, ec, show (5 : Int32) = nI 5 from rfl, nI_add]
  · refine hT _ _ _ _ ⟨fun z => absurd z (nle_nI (N := 5) (n := 5) (by decide) (by decide) hj), fun _ => ⟨fun _ => ⟨vin (by omega), vin hj, ?_⟩, fun z => absurd k z⟩⟩
    rw [nI_clamp (by omega), nI_clamp (by omega), nI_1, nI_1]; exact ih
  · refine hT _ _ _ _ ⟨fun z => absurd z (nle_nI (N := 5) (n := 5) (by decide) (by decide) hj), fun _ => ⟨fun z => absurd z k, fun _ => ⟨vin hj, vin (by omega), ?_⟩⟩⟩
    rw [nI_clamp (by omega), nI_clamp (by omega), nI_1, nI_1]; exact ih
set_option maxRecDepth 20000 in
set_option maxHeartbeats 2000000 in
theorem v_X3_passes_7 (σ : KM) (h : 0 ≤ kCur (mK σ) ∧ kCur (mK σ) ≤ 276 - 5) : vc_X3_passes_7 σ (fun u => u = ((((sCase (mS σ)), (sAsked (mS σ)), (sNq (mS σ)), (sNw (mS σ)), (sNh (mS σ)), (sForm (mS σ)), (sFirst (mS σ)), (sSecond (mS σ)), (sKind (mS σ)), (sFigure (mS σ)), (if kKeep (mK σ) = 0 then loadA (kKept (mK σ)) (kCur (mK σ)) 5 (sKnows (mS σ)) else (sKnows (mS σ))), (sWhom (mS σ)), (sWhat (mS σ)), (sSaid (mS σ)), (sWhen (mS σ))), (mT σ), ((if kKeep (mK σ) = 0 then kKept (mK σ) else saveA (kKept (mK σ)) (kCur (mK σ)) 5 (sKnows (mS σ))), (kHas (mK σ)), (kKeep (mK σ)), (kCur (mK σ) + 5)), (mF σ), (mRow σ), (mRowMany σ), (mLots σ), (mRefused σ)))) := by
  obtain ⟨c, hc, ec⟩ := nI_up (M := 276 - 5) (n := 271) (by decide) h
  unfold vc_X3_passes_7
  intro T hT
  rw [ec]
  refine pass_loop (n := 5) (c := c) (by decide) (by omega) (kKeep (mK σ)) (kKept (mK σ)) (sKnows (mS σ)) T (fun k => ?_) (fun k => ?_) (fun k j hj kp s ih => ?_) (fun k j hj kp s ih => ?_)
  · refine hT _ _ _ _ ⟨fun _ => ?_, fun c => absurd (by decide) c⟩
    rw [if_pos k, if_pos k, ec, show (5 : Int32) = nI 5 from rfl, nI_add]
  · refine hT _ _ _ _ ⟨fun _ => ?_, fun c => absurd (by decide) c⟩
    rw [if_neg k, if_neg k, ec, show (5 : Int32) = nI 5 from rfl, nI_add]
  · refine hT _ _ _ _ ⟨fun z => absurd z (nle_nI (N := 5) (n := 5) (by decide) (by decide) hj), fun _ => ⟨fun _ => ⟨vin (by omega), vin hj, ?_⟩, fun z => absurd k z⟩⟩
    rw [nI_clamp (by omega), nI_clamp (by omega), nI_1, nI_1]; exact ih
  · refine hT _ _ _ _ ⟨fun z => absurd z (nle_nI (N := 5) (n := 5) (by decide) (by decide) hj), fun _ => ⟨fun z => absurd z k, fun _ => ⟨vin hj, vin (by omega), ?_⟩⟩⟩
    rw [nI_clamp (by omega), nI_clamp (by omega), nI_1, nI_1]; exact ih
set_option maxRecDepth 20000 in
set_option maxHeartbeats 2000000 in
theorem v_X3_passes_8 (σ : KM) (h : 0 ≤ kCur (mK σ) ∧ kCur (mK σ) ≤ 276 - 12) : vc_X3_passes_8 σ (fun u => u = ((((sCase (mS σ)), (sAsked (mS σ)), (sNq (mS σ)), (sNw (mS σ)), (sNh (mS σ)), (sForm (mS σ)), (sFirst (mS σ)), (sSecond (mS σ)), (sKind (mS σ)), (sFigure (mS σ)), (sKnows (mS σ)), (if kKeep (mK σ) = 0 then loadA (kKept (mK σ)) (kCur (mK σ)) 12 (sWhom (mS σ)) else (sWhom (mS σ))), (sWhat (mS σ)), (sSaid (mS σ)), (sWhen (mS σ))), (mT σ), ((if kKeep (mK σ) = 0 then kKept (mK σ) else saveA (kKept (mK σ)) (kCur (mK σ)) 12 (sWhom (mS σ))), (kHas (mK σ)), (kKeep (mK σ)), (kCur (mK σ) + 12)), (mF σ), (mRow σ), (mRowMany σ), (mLots σ), (mRefused σ)))) := by
  obtain ⟨c, hc, ec⟩ := nI_up (M := 276 - 12) (n := 264) (by decide) h
  unfold vc_X3_passes_8
  intro T hT
  rw [ec]
  refine pass_loop (n := 12) (c := c) (by decide) (by omega) (kKeep (mK σ)) (kKept (mK σ)) (sWhom (mS σ)) T (fun k => ?_) (fun k => ?_) (fun k j hj kp s ih => ?_) (fun k j hj kp s ih => ?_)
  · refine hT _ _ _ _ ⟨fun _ => ?_, fun c => absurd (by decide) c⟩
    rw [if_pos k, if_pos k, ec, show (12 : Int32) = nI 12 from rfl, nI_add]
  · refine hT _ _ _ _ ⟨fun _ => ?_, fun c => absurd (by decide) c⟩
    rw [if_neg k, if_neg k, ec, show (12 : Int32) = nI 12 from rfl, nI_add]
  · refine hT _ _ _ _ ⟨fun z => absurd z (nle_nI (N := 12) (n := 12) (by decide) (by decide) hj), fun _ => ⟨fun _ => ⟨vin (by omega), vin hj, ?_⟩, fun z => absurd k z⟩⟩
    rw [nI_clamp (by omega), nI_clamp (by omega), nI_1, nI_1]; exact ih
  · refine hT _ _ _ _ ⟨fun z => absurd z (nle_nI (N := 12) (n := 12) (by decide) (by decide) hj), fun _ => ⟨fun z => absurd z k, fun _ => ⟨vin hj, vin (by omega), ?_⟩⟩⟩
    rw [nI_clamp (by omega), nI_clamp (by omega), nI_1, nI_1]; exact ih
set_option maxRecDepth 20000 in
set_option maxHeartbeats 2000000 in
theorem v_X3_passes_9 (σ : KM) (h : 0 ≤ kCur (mK σ) ∧ kCur (mK σ) ≤ 276 - 12) : vc_X3_passes_9 σ (fun u => u = ((((sCase (mS σ)), (sAsked (mS σ)), (sNq (mS σ)), (sNw (mS σ)), (sNh (mS σ)), (sForm (mS σ)), (sFirst (mS σ)), (sSecond (mS σ)), (sKind (mS σ)), (sFigure (mS σ)), (sKnows (mS σ)), (sWhom (mS σ)), (if kKeep (mK σ) = 0 then loadA (kKept (mK σ)) (kCur (mK σ)) 12 (sWhat (mS σ)) else (sWhat (mS σ))), (sSaid (mS σ)), (sWhen (mS σ))), (mT σ), ((if kKeep (mK σ) = 0 then kKept (mK σ) else saveA (kKept (mK σ)) (kCur (mK σ)) 12 (sWhat (mS σ))), (kHas (mK σ)), (kKeep (mK σ)), (kCur (mK σ) + 12)), (mF σ), (mRow σ), (mRowMany σ), (mLots σ), (mRefused σ)))) := by
  obtain ⟨c, hc, ec⟩ := nI_up (M := 276 - 12) (n := 264) (by decide) h
  unfold vc_X3_passes_9
  intro T hT
  rw [ec]
  refine pass_loop (n := 12) (c := c) (by decide) (by omega) (kKeep (mK σ)) (kKept (mK σ)) (sWhat (mS σ)) T (fun k => ?_) (fun k => ?_) (fun k j hj kp s ih => ?_) (fun k j hj kp s ih => ?_)
  · refine hT _ _ _ _ ⟨fun _ => ?_, fun c => absurd (by decide) c⟩
    rw [if_pos k, if_pos k, ec, show (12 : Int32) = nI 12 from rfl, nI_add]
  · refine hT _ _ _ _ ⟨fun _ => ?_, fun c => absurd (by decide) c⟩
    rw [if_neg k, if_neg k, ec, show (12 : Int32) = nI 12 from rfl, nI_add]
  · refine hT _ _ _ _ ⟨fun z => absurd z (nle_nI (N := 12) (n := 12) (by decide) (by decide) hj), fun _ => ⟨fun _ => ⟨vin (by omega), vin hj, ?_⟩, fun z => absurd k z⟩⟩
    rw [nI_clamp (by omega), nI_clamp (by omega), nI_1, nI_1]; exact ih
  · refine hT _ _ _ _ ⟨fun z => absurd z (nle_nI (N := 12) (n := 12) (by decide) (by decide) hj), fun _ => ⟨fun z => absurd z k, fun _ => ⟨vin hj, vin (by omega), ?_⟩⟩⟩
    rw [nI_clamp (by omega), nI_clamp (by omega), nI_1, nI_1]; exact ih
set_option maxRecDepth 20000 in
set_option maxHeartbeats 2000000 in
theorem v_X3_passes_10 (σ : KM) (h : 0 ≤ kCur (mK σ) ∧ kCur (mK σ) ≤ 276 - 12) : vc_X3_passes_10 σ (fun u => u = ((((sCase (mS σ)), (sAsked (mS σ)), (sNq (mS σ)), (sNw (mS σ)), (sNh (mS σ)), (sForm (mS σ)), (sFirst (mS σ)), (sSecond (mS σ)), (sKind (mS σ)), (sFigure (mS σ)), (sKnows (mS σ)), (sWhom (mS σ)), (sWhat (mS σ)), (if kKeep (mK σ) = 0 then loadA (kKept (mK σ)) (kCur (mK σ)) 12 (sSaid (mS σ)) else (sSaid (mS σ))), (sWhen (mS σ))), (mT σ), ((if kKeep (mK σ) = 0 then kKept (mK σ) else saveA (kKept (mK σ)) (kCur (mK σ)) 12 (sSaid (mS σ))), (kHas (mK σ)), (kKeep (mK σ)), (kCur (mK σ) + 12)), (mF σ), (mRow σ), (mRowMany σ), (mLots σ), (mRefused σ)))) := by
  obtain ⟨c, hc, ec⟩ := nI_up (M := 276 - 12) (n := 264) (by decide) h
  unfold vc_X3_passes_10
  intro T hT
  rw [ec]
  refine pass_loop (n := 12) (c := c) (by decide) (by omega) (kKeep (mK σ)) (kKept (mK σ)) (sSaid (mS σ)) T (fun k => ?_) (fun k => ?_) (fun k j hj kp s ih => ?_) (fun k j hj kp s ih => ?_)
  · refine hT _ _ _ _ ⟨fun _ => ?_, fun c => absurd (by decide) c⟩
    rw [if_pos k, if_pos k, ec, show (12 : Int32) = nI 12 from rfl, nI_add]
  · refine hT _ _ _ _ ⟨fun _ => ?_, fun c => absurd (by decide) c⟩
    rw [if_neg k, if_neg k, ec, show (12 : Int32) = nI 12 from rfl, nI_add]
  · refine hT _ _ _ _ ⟨fun z => absurd z (nle_nI (N := 12) (n := 12) (by decide) (by decide) hj), fun _ => ⟨fun _ => ⟨vin (by omega), vin hj, ?_⟩, fun z => absurd k z⟩⟩
    rw [nI_clamp (by omega), nI_clamp (by omega), nI_1, nI_1]; exact ih
  · refine hT _ _ _ _ ⟨fun z => absurd z (nle_nI (N := 12) (n := 12) (by decide) (by decide) hj), fun _ => ⟨fun z => absurd z k, fun _ => ⟨vin hj, vin (by omega), ?_⟩⟩⟩
    rw [nI_clamp (by omega), nI_clamp (by omega), nI_1, nI_1]; exact ih
set_option maxRecDepth 20000 in
set_option maxHeartbeats 2000000 in
theorem v_X3_passes_11 (σ : KM) (h : 0 ≤ kCur (mK σ) ∧ kCur (mK σ) ≤ 276 - 12) : vc_X3_passes_11 σ (fun u => u = ((((sCase (mS σ)), (sAsked (mS σ)), (sNq (mS σ)), (sNw (mS σ)), (sNh (mS σ)), (sForm (mS σ)), (sFirst (mS σ)), (sSecond (mS σ)), (sKind (mS σ)), (sFigure (mS σ)), (sKnows (mS σ)), (sWhom (mS σ)), (sWhat (mS σ)), (sSaid (mS σ)), (if kKeep (mK σ) = 0 then loadA (kKept (mK σ)) (kCur (mK σ)) 12 (sWhen (mS σ)) else (sWhen (mS σ)))), (mT σ), ((if kKeep (mK σ) = 0 then kKept (mK σ) else saveA (kKept (mK σ)) (kCur (mK σ)) 12 (sWhen (mS σ))), (kHas (mK σ)), (kKeep (mK σ)), (kCur (mK σ) + 12)), (mF σ), (mRow σ), (mRowMany σ), (mLots σ), (mRefused σ)))) := by
  obtain ⟨c, hc, ec⟩ := nI_up (M := 276 - 12) (n := 264) (by decide) h
  unfold vc_X3_passes_11
  intro T hT
  rw [ec]
  refine pass_loop (n := 12) (c := c) (by decide) (by omega) (kKeep (mK σ)) (kKept (mK σ)) (sWhen (mS σ)) T (fun k => ?_) (fun k => ?_) (fun k j hj kp s ih => ?_) (fun k j hj kp s ih => ?_)
  · refine hT _ _ _ _ ⟨fun _ => ?_, fun c => absurd (by decide) c⟩
    rw [if_pos k, if_pos k, ec, show (12 : Int32) = nI 12 from rfl, nI_add]
  · refine hT _ _ _ _ ⟨fun _ => ?_, fun c => absurd (by decide) c⟩
    rw [if_neg k, if_neg k, ec, show (12 : Int32) = nI 12 from rfl, nI_add]
  · refine hT _ _ _ _ ⟨fun z => absurd z (nle_nI (N := 12) (n := 12) (by decide) (by decide) hj), fun _ => ⟨fun _ => ⟨vin (by omega), vin hj, ?_⟩, fun z => absurd k z⟩⟩
    rw [nI_clamp (by omega), nI_clamp (by omega), nI_1, nI_1]; exact ih
  · refine hT _ _ _ _ ⟨fun z => absurd z (nle_nI (N := 12) (n := 12) (by decide) (by decide) hj), fun _ => ⟨fun z => absurd z k, fun _ => ⟨vin hj, vin (by omega), ?_⟩⟩⟩
    rw [nI_clamp (by omega), nI_clamp (by omega), nI_1, nI_1]; exact ih
set_option maxRecDepth 20000 in
set_option maxHeartbeats 2000000 in
theorem v_X3_passOne (σ : KM) (p0 : Int32) (h : 0 ≤ kCur (mK σ) ∧ kCur (mK σ) ≤ 276 - 1) : vc_X3_passOne σ p0 (fun r u => (r = (if kKeep (mK σ) = 0 then kKept (mK σ) (kCur (mK σ)).toNatClampNeg else p0) ∧ u = (((mS σ), (mT σ), ((if kKeep (mK σ) = 0 then kKept (mK σ) else save1 (kKept (mK σ)) (kCur (mK σ)) p0), (kHas (mK σ)), (kKeep (mK σ)), (kCur (mK σ) + 1)), (mF σ), (mRow σ), (mRowMany σ), (mLots σ), (mRefused σ))))) := by
  have hv : vp_in (kCur (mK σ)) 276 := vin_lt (N := 276) (by decide) h.1 (Int32.lt_of_le_of_lt h.2 (by decide))
  unfold vc_X3_passOne save1
  grind (splits := 30)
