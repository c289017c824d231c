set_option maxRecDepth 20000 in
set_option maxHeartbeats 2000000 in
theorem v_X3_no (σ : KM) (p0 : Int32) (h : p0 < 0 ∧ -6 ≤ p0) : vc_X3_no σ p0 (fun r u => (r = (p0) ∧ u = (((mS σ), (mT σ), (mK σ), (mF σ), (mRow σ), (mRowMany σ), (mLots σ), (refuX (mRefused σ) p0))))) := by
  unfold vc_X3_no
  exact ⟨neg_vin h, neg_vin h, rfl, rfl⟩
set_option maxRecDepth 20000 in
set_option maxHeartbeats 2000000 in
theorem v_X3_lowest (σ : KM) (p0 : Int32) (h : p0 < 0 ∧ -6 ≤ p0) : vc_X3_lowest σ p0 (fun r u => (r = (4000000000000000000 - p0.toInt64) ∧ u = (((mS σ), (mT σ), (mK σ), (mF σ), (mRow σ), (mRowMany σ), (mLots σ), (refuX (mRefused σ) p0))))) := by
  unfold vc_X3_lowest
  exact ⟨neg_vin h, neg_vin h, rfl, rfl⟩
set_option maxRecDepth 20000 in
set_option maxHeartbeats 2000000 in
theorem v_X3_isIn (p0 : Int32) (p1 : Int32) (p2 : Int32) : vc_X3_isIn p0 p1 p2 (fun r => r = (isInM p0 p1 p2)) := by
  unfold vc_X3_isIn isInM b2i; grind
set_option maxRecDepth 20000 in
set_option maxHeartbeats 2000000 in
theorem v_X3_bound (p0 : Int32) (p1 : Int32) (p2 : Int32) : vc_X3_bound p0 p1 p2 (fun r => r = (boundI p0 p1 p2)) := by
  unfold vc_X3_bound boundI; grind
set_option maxRecDepth 20000 in
set_option maxHeartbeats 2000000 in
theorem v_X3_has (p0 : Int32) (p1 : Int32) : vc_X3_has p0 p1 (fun r => r = (b2i (hasB p0 p1))) := by
  unfold vc_X3_has hasB b2i; grind
set_option maxRecDepth 20000 in
set_option maxHeartbeats 2000000 in
theorem v_X3_bits (p0 : Int32) : vc_X3_bits p0 (fun r => r = (bitsI p0)) := by
  unfold vc_X3_bits
  intro T hT
  refine upN 31 (fun j => T (sumN (fun k => (p0 >>> (nI k &&& 31)) &&& 1) j) (nI j)) ?_ (fun j hj ih => ?_) 0 (Nat.zero_le _)
  · exact hT _ _ ⟨fun _ => rfl, fun c => absurd (by decide) c⟩
  · exact hT _ _ ⟨fun c => absurd c (nle_nI (N := 31) (n := 31) (by decide) (by decide) hj), fun _ => by rw [nI_1]; exact ih⟩
set_option maxRecDepth 20000 in
set_option maxHeartbeats 2000000 in
theorem v_X3_isFact (p0 : Int32) : vc_X3_isFact p0 (fun r => r = (isFactI p0)) := by
  unfold vc_X3_isFact isFactI b2i; grind
set_option maxRecDepth 20000 in
set_option maxHeartbeats 2000000 in
theorem v_X3_isQuestion (σ : KM) (p0 : Int32) : vc_X3_isQuestion σ p0 (fun r => r = (isQuestionI (mS σ) p0)) := by
  unfold vc_X3_isQuestion isQuestionI b2i; grind
set_option maxRecDepth 20000 in
set_option maxHeartbeats 2000000 in
theorem v_X3_isWitness (σ : KM) (p0 : Int32) : vc_X3_isWitness σ p0 (fun r => r = (isWitnessI (mS σ) p0)) := by
  unfold vc_X3_isWitness isWitnessI b2i; grind
set_option maxRecDepth 20000 in
set_option maxHeartbeats 2000000 in
theorem v_X3_letter (σ : KM) (p0 : Int32) (h : 0 ≤ tTaped (mT σ) ∧ tTaped (mT σ) ≤ 96) : vc_X3_letter σ p0 (fun r u => (r = (rsX (whyLetter (tTaped (mT σ)) p0) (tTaped (mT σ) + 1)) ∧ u = (((mS σ), ((if whyLetter (tTaped (mT σ)) p0 = 0 then upd (tTape (mT σ)) (tTaped (mT σ)).toNatClampNeg p0 else tTape (mT σ)), (tLetter (mT σ)), (tLetterAt (mT σ)), (tTold (mT σ)), (if whyLetter (tTaped (mT σ)) p0 = 0 then tTaped (mT σ) + 1 else tTaped (mT σ)), (tAt (mT σ)), (tStm (mT σ))), (mK σ), (mF σ), (mRow σ), (mRowMany σ), (mLots σ), (rfX (mRefused σ) (whyLetter (tTaped (mT σ)) p0)))))) := by
  have n1 : ((-1) : Int32) < 0 ∧ -6 ≤ ((-1) : Int32) := by decide
  have n2 : ((-2) : Int32) < 0 ∧ -6 ≤ ((-2) : Int32) := by decide
  have n3 : ((-3) : Int32) < 0 ∧ -6 ≤ ((-3) : Int32) := by decide
  have n6 : ((-6) : Int32) < 0 ∧ -6 ≤ ((-6) : Int32) := by decide
  have hb := @bound_neg p0 0 255
  have hv : ¬ tTaped (mT σ) = 96 → vp_in (tTaped (mT σ)) 96 := fun c => vin_lt (N := 96) (by decide) h.1 (Int32.lt_of_le_of_ne h.2 c)
  unfold vc_X3_letter whyLetter rsX rfX; grind
set_option maxRecDepth 20000 in
set_option maxHeartbeats 2000000 in
theorem v_X3_isSo (σ : KM) (p0 : Int32) (p1 : Int32) (h : vp_in p0 8) : vc_X3_isSo σ p0 p1 (fun r => r = (b2i (soB (mS σ) p0 p1))) := by
  have hn := b2i_nar (hasB p1 (sFirst (mS σ) p0.toNatClampNeg))
  unfold vc_X3_isSo soB; grind (splits := 40) [b2i]
set_option maxRecDepth 20000 in
set_option maxHeartbeats 2000000 in
theorem v_X3_plain (σ : KM) (p0 : Int32) (p1 : Int32) (p2 : Int32) (h : vp_in p0 5 ∧ vp_in p1 8) : vc_X3_plain σ p0 p1 p2 (fun r => r = (plainI (mS σ) p0 p1 p2)) := by
  unfold vc_X3_plain plainI; grind [b2i]
set_option maxRecDepth 20000 in
set_option maxHeartbeats 2000000 in
theorem v_X3_answerOf (σ : KM) (p0 : Int32) (p1 : Int32) (p2 : Int32) (p3 : Int32) (h : okS (mS σ) ∧ inW (mS σ) p0 ∧ inQ (mS σ) p1) : vc_X3_answerOf σ p0 p1 p2 p3 (fun r => r = (ansI (mS σ) p0 p1 p2 p3)) := by
  have h1 := inW_vin h.1 h.2.1
  have h2 := inQ_vin h.1 h.2.2
  have h3 := (okS_w h.1 h.2.1).2.1
  have h4 : ¬ sFigure (mS σ) p0.toNatClampNeg + 1 = 0 := fig_ne h3
  have h5 : ¬ sNq (mS σ) = 0 := fun c => by have := h.2.2; rw [inQ, c] at this; exact absurd (Int32.lt_of_le_of_lt this.1 this.2) (by decide)
  have h6 := inQ_vin h.1 (onward_in h.1 h.2.2 (j := 1) (by decide))
  rw [onwardI, if_pos (nq_pos h.2.2)] at h6
  have h6 : vp_in (p1 + 1 - (p1 + 1) / sNq (mS σ) * sNq (mS σ)) 8 := h6
  clear h
  unfold vc_X3_answerOf ansI; grind (splits := 40)
set_option maxRecDepth 20000 in
set_option maxHeartbeats 2000000 in
theorem v_X3_asksOne (σ : KM) (p0 : Int32) (p1 : Int32) (h : okS (mS σ) ∧ inW (mS σ) p0 ∧ inQ (mS σ) p1 ∧ sAsked (mS σ) < 5000) : vc_X3_asksOne σ p0 p1 (fun r u => (r = (askV (mS σ) p0 p1) ∧ u = (((askS (mS σ) p0 p1), (mT σ), (mK σ), (mF σ), (mRow σ), (mRowMany σ), (mLots σ), (mRefused σ))))) := by
  obtain ⟨hS, hW, hQ, ha⟩ := h
  obtain ⟨n, hn, en⟩ := okS_nh hS
  unfold vc_X3_asksOne
  intro T hT
  refine ⟨fun c => ?_, fun c => ?_⟩
  · have hn2 : n < 12 := by
      rcases Nat.lt_or_ge n 12 with q | q
      · exact q
      · exact absurd (by rw [en, show n = 12 by omega]; rfl) c
    have hv : vp_in (nI n) 12 := vin hn2
    have hm := okS_mid hS ha (n := nI n) ⟨nI_pos' (by omega), nI_le (b := 12) (by omega) (by decide)⟩ (a := upd (sWhom (mS σ)) n p0) (b := upd (sWhat (mS σ)) n p1) (c := sSaid (mS σ)) (d := sWhen (mS σ)) (fun k hk hk2 => by
      have hkn : k < n := (nI_ltI (by omega) (by omega)).mp hk
      unfold upd
      rw [if_neg (by omega), if_neg (by omega)]
      exact okS_hN hS en hn hkn)
    have e1 : nI n + 1 - 1 = nI n := by rw [nI_1, nI_pred]
    rw [en, e1, nI_clamp (by omega)]
    refine ⟨hv, hv, ⟨hm, hW, hQ⟩, hv, hv, hv, ?_, ?_⟩
    · rw [pk_us]; rfl
    · unfold askS shF shN; rw [if_neg c, if_neg c, if_neg c, if_neg c, if_neg c, en, nI_clamp (by omega)]; rfl
  · have e11 : sNh (mS σ) - 1 = nI 11 := by rw [c]; rfl
    rw [e11]
    have h0 : ∀ j, j ≤ 11 → T (nI j) (sAsked (mS σ) + 1) (nI 11) (shj j (sSaid (mS σ))) (shj j (sWhat (mS σ))) (shj j (sWhen (mS σ))) (shj j (sWhom (mS σ))) := by
      refine upN 11 _ ?_ (fun j hj ih => ?_)
      · refine hT _ _ _ _ _ _ _ ⟨fun _ => ?_, fun d => absurd (Int32.le_refl _) d⟩
        have hv : vp_in (nI 11) 12 := vin (by decide)
        have e1 : nI 11 + 1 - 1 = nI 11 := rfl
        have e12 : n = 12 := by
          have := en.symm.trans c
          exact (nI_eq (b := 12) (by omega) (by decide)).mp this
        have hm := okS_mid hS ha (n := nI 11) ⟨by decide, by decide⟩ (a := upd (shj 11 (sWhom (mS σ))) 11 p0) (b := upd (shj 11 (sWhat (mS σ))) 11 p1) (c := shj 11 (sSaid (mS σ))) (d := shj 11 (sWhen (mS σ))) (fun k hk hk2 => by
          have hkn : k < 11 := (nI_ltI (by omega) (by omega)).mp hk
          unfold upd shj
          have hne : ¬ k = 11 := by omega
          rw [if_neg hne, if_neg hne, if_pos hkn, if_pos hkn, if_pos hkn, if_pos hkn]
          exact okS_hN hS en hn (by omega))
        rw [e1]
        have ec : (nI 11).toNatClampNeg = 11 := nI_clamp (by decide)
        rw [ec]
        refine ⟨hv, hv, ⟨hm, hW, hQ⟩, hv, hv, hv, ?_, ?_⟩
        · rw [pk_us]; rfl
        · unfold askS shF shN; rw [if_pos c, if_pos c, if_pos c, if_pos c, if_pos c]; rfl
      · refine hT _ _ _ _ _ _ _ ⟨fun d => absurd d (nI_ge hj (by decide)), fun _ => ?_⟩
        have hv : vp_in (nI j) 12 := vin (by omega)
        have hv1 : vp_in (nI (j + 1)) 12 := vin (by omega)
        rw [nI_1, nI_clamp (by omega), nI_clamp (by omega), shj_step, shj_step, shj_step, shj_step]
        simp only [hv, hv1, true_and]
        exact ih
    have := h0 0 (by omega)
    rw [shj_0, shj_0, shj_0, shj_0] at this
    exact this
set_option maxRecDepth 20000 in
set_option maxHeartbeats 2000000 in
theorem v_X3_fact (σ : KM) (p0 : Int32) : vc_X3_fact σ p0 (fun r u => (r = (rsX (whyFact p0) ((sCase (mS σ) >>> (p0 &&& 31)) &&& 1)) ∧ u = (((mS σ), (mT σ), (mK σ), (mF σ), (mRow σ), (mRowMany σ), (mLots σ), (rfX (mRefused σ) (whyFact p0)))))) := by
  have n1 : ((-1) : Int32) < 0 ∧ -6 ≤ ((-1) : Int32) := by decide
  have n2 : ((-2) : Int32) < 0 ∧ -6 ≤ ((-2) : Int32) := by decide
  have n3 : ((-3) : Int32) < 0 ∧ -6 ≤ ((-3) : Int32) := by decide
  have n6 : ((-6) : Int32) < 0 ∧ -6 ≤ ((-6) : Int32) := by decide
  unfold vc_X3_fact whyFact rsX rfX; grind
set_option maxRecDepth 20000 in
set_option maxHeartbeats 2000000 in
theorem v_X3_question (σ : KM) (p0 : Int32) (p1 : Int32) (h : okS (mS σ)) : vc_X3_question σ p0 p1 (fun r u => (r = (rsX (whyQuestion (mS σ) p0 p1) (questionV (mS σ) p0 p1)) ∧ u = (((mS σ), (mT σ), (mK σ), (mF σ), (mRow σ), (mRowMany σ), (mLots σ), (rfX (mRefused σ) (whyQuestion (mS σ) p0 p1)))))) := by
  have n1 : ((-1) : Int32) < 0 ∧ -6 ≤ ((-1) : Int32) := by decide
  have n2 : ((-2) : Int32) < 0 ∧ -6 ≤ ((-2) : Int32) := by decide
  have n3 : ((-3) : Int32) < 0 ∧ -6 ≤ ((-3) : Int32) := by decide
  have n6 : ((-6) : Int32) < 0 ∧ -6 ≤ ((-6) : Int32) := by decide
  have hq := @isQ_in (mS σ) p0
  have hq2 : ¬ isQuestionI (mS σ) p0 = 0 → vp_in p0 8 := fun c => inQ_vin h (isQ_in c)
  clear h hq
  unfold vc_X3_question whyQuestion questionV rsX rfX; grind (splits := 30) [b2i]
set_option maxRecDepth 20000 in
set_option maxHeartbeats 2000000 in
theorem v_X3_witness (σ : KM) (p0 : Int32) (p1 : Int32) (h : okS (mS σ)) : vc_X3_witness σ p0 p1 (fun r u => (r = (rsX (whyWitness (mS σ) p0 p1) (witnessV (mS σ) p0 p1)) ∧ u = (((mS σ), (mT σ), (mK σ), (mF σ), (mRow σ), (mRowMany σ), (mLots σ), (rfX (mRefused σ) (whyWitness (mS σ) p0 p1)))))) := by
  have n1 : ((-1) : Int32) < 0 ∧ -6 ≤ ((-1) : Int32) := by decide
  have n2 : ((-2) : Int32) < 0 ∧ -6 ≤ ((-2) : Int32) := by decide
  have n3 : ((-3) : Int32) < 0 ∧ -6 ≤ ((-3) : Int32) := by decide
  have n6 : ((-6) : Int32) < 0 ∧ -6 ≤ ((-6) : Int32) := by decide
  have hw := @isW_in (mS σ) p0
  have hw2 : ¬ isWitnessI (mS σ) p0 = 0 → vp_in p0 5 := fun c => inW_vin h (isW_in c)
  clear h hw
  unfold vc_X3_witness whyWitness witnessV rsX rfX; grind (splits := 30)
set_option maxRecDepth 20000 in
set_option maxHeartbeats 2000000 in
theorem v_X3_asks (σ : KM) (p0 : Int32) (p1 : Int32) (h : okS (mS σ) ∧ sAsked (mS σ) < 5000) : vc_X3_asks σ p0 p1 (fun r u => (r = (rsX (whyAsks (mS σ) p0 p1) (askV (mS σ) p0 p1)) ∧ u = (((if whyAsks (mS σ) p0 p1 = 0 then askS (mS σ) p0 p1 else mS σ), (mT σ), (mK σ), (mF σ), (mRow σ), (mRowMany σ), (mLots σ), (rfX (mRefused σ) (whyAsks (mS σ) p0 p1)))))) := by
  have n1 : ((-1) : Int32) < 0 ∧ -6 ≤ ((-1) : Int32) := by decide
  have n2 : ((-2) : Int32) < 0 ∧ -6 ≤ ((-2) : Int32) := by decide
  have n3 : ((-3) : Int32) < 0 ∧ -6 ≤ ((-3) : Int32) := by decide
  have n6 : ((-6) : Int32) < 0 ∧ -6 ≤ ((-6) : Int32) := by decide
  have hw := @isW_in (mS σ) p0
  have hq := @isQ_in (mS σ) p1
  unfold vc_X3_asks whyAsks rsX rfX; grind (splits := 30)
set_option maxRecDepth 20000 in
set_option maxHeartbeats 2000000 in
theorem v_X3_heard (σ : KM) (p0 : Int32) (p1 : Int32) (h : okS (mS σ)) : vc_X3_heard σ p0 p1 (fun r u => (r = (rsX (whyHeard (mS σ) p0 p1) (heardV (mS σ) p0 p1)) ∧ u = (((mS σ), (mT σ), (mK σ), (mF σ), (mRow σ), (mRowMany σ), (mLots σ), (rfX (mRefused σ) (whyHeard (mS σ) p0 p1)))))) := by
  have n1 : ((-1) : Int32) < 0 ∧ -6 ≤ ((-1) : Int32) := by decide
  have n2 : ((-2) : Int32) < 0 ∧ -6 ≤ ((-2) : Int32) := by decide
  have n3 : ((-3) : Int32) < 0 ∧ -6 ≤ ((-3) : Int32) := by decide
  have n6 : ((-6) : Int32) < 0 ∧ -6 ≤ ((-6) : Int32) := by decide
  have hh := @okS_h (mS σ) h p0
  have hh : 0 ≤ p0 → p0 < sNh (mS σ) → vp_in p0 12 := fun a b => (hh a b).1
  clear h
  unfold vc_X3_heard whyHeard heardV rsX rfX; grind (splits := 30)
set_option maxRecDepth 20000 in
set_option maxHeartbeats 2000000 in
theorem v_X3_sets (σ : KM) (p0 : Int32) : vc_X3_sets σ p0 (fun r u => (r = (rsX (boundI p0 0 63) (sCase (mS σ))) ∧ u = (((if boundI p0 0 63 = 0 then sSetCase (mS σ) p0 else mS σ), (mT σ), (mK σ), (mF σ), (mRow σ), (mRowMany σ), (mLots σ), (rfX (mRefused σ) (boundI p0 0 63)))))) := by
  have hb := @bound_neg p0 0 63
  unfold vc_X3_sets rsX rfX sSetCase; grind
set_option maxRecDepth 20000 in
set_option maxHeartbeats 2000000 in
theorem v_X3_knows (σ : KM) (p0 : Int32) (p1 : Int32) (h : okS (mS σ)) : vc_X3_knows σ p0 p1 (fun r u => (r = (rsX (whyKnows (mS σ) p0 p1) (sKnows (mS σ) p0.toNatClampNeg)) ∧ u = (((if whyKnows (mS σ) p0 p1 = 0 then sSetKnows (mS σ) (upd (sKnows (mS σ)) p0.toNatClampNeg p1) else mS σ), (mT σ), (mK σ), (mF σ), (mRow σ), (mRowMany σ), (mLots σ), (rfX (mRefused σ) (whyKnows (mS σ) p0 p1)))))) := by
  have n1 : ((-1) : Int32) < 0 ∧ -6 ≤ ((-1) : Int32) := by decide
  have n2 : ((-2) : Int32) < 0 ∧ -6 ≤ ((-2) : Int32) := by decide
  have n3 : ((-3) : Int32) < 0 ∧ -6 ≤ ((-3) : Int32) := by decide
  have n6 : ((-6) : Int32) < 0 ∧ -6 ≤ ((-6) : Int32) := by decide
  have hb := @bound_neg p1 0 63
  have hw := @isW_in (mS σ) p0
  have hw2 : ¬ isWitnessI (mS σ) p0 = 0 → vp_in p0 5 := fun c => inW_vin h (isW_in c)
  clear h hw
  unfold vc_X3_knows whyKnows rsX rfX sSetKnows; grind (splits := 30)
set_option maxRecDepth 20000 in
set_option maxHeartbeats 2000000 in
theorem v_X3_turn (σ : KM) (p0 : Int32) (p1 : Int32) (p2 : Int32) (h : okS (mS σ)) : vc_X3_turn σ p0 p1 p2 (fun r u => (r = (rsX (whyTurn (mS σ) p0 p1 p2) (10 * sKind (mS σ) p0.toNatClampNeg + sFigure (mS σ) p0.toNatClampNeg)) ∧ u = (((if whyTurn (mS σ) p0 p1 p2 = 0 then sSetKF (mS σ) (upd (sKind (mS σ)) p0.toNatClampNeg p1) (upd (sFigure (mS σ)) p0.toNatClampNeg p2) else mS σ), (mT σ), (mK σ), (mF σ), (mRow σ), (mRowMany σ), (mLots σ), (rfX (mRefused σ) (whyTurn (mS σ) p0 p1 p2)))))) := by
  have n1 : ((-1) : Int32) < 0 ∧ -6 ≤ ((-1) : Int32) := by decide
  have n2 : ((-2) : Int32) < 0 ∧ -6 ≤ ((-2) : Int32) := by decide
  have n3 : ((-3) : Int32) < 0 ∧ -6 ≤ ((-3) : Int32) := by decide
  have n6 : ((-6) : Int32) < 0 ∧ -6 ≤ ((-6) : Int32) := by decide
  have hb := @bound_neg p2 0 9
  have hw := @isW_in (mS σ) p0
  have hw2 : ¬ isWitnessI (mS σ) p0 = 0 → vp_in p0 5 := fun c => inW_vin h (isW_in c)
  clear h hw
  unfold vc_X3_turn whyTurn rsX rfX sSetKF; grind (splits := 30)
set_option maxRecDepth 20000 in
set_option maxHeartbeats 2000000 in
theorem v_X3_empties (σ : KM) : vc_X3_empties σ (fun r u => (r = (sNh (mS σ)) ∧ u = (((sSetNh (mS σ) 0), (mT σ), (mK σ), (mF σ), (mRow σ), (mRowMany σ), (mLots σ), (mRefused σ))))) := by
  unfold vc_X3_empties sSetNh; grind
set_option maxRecDepth 20000 in
set_option maxHeartbeats 2000000 in
theorem v_X3_answer (σ : KM) (p0 : Int32) (p1 : Int32) (p2 : Int32) (h : okS (mS σ)) : vc_X3_answer σ p0 p1 p2 (fun r u => (r = (rsX (whyAnswer (mS σ) p0 p1 p2) (ansI (mS σ) p0 p1 (if p2 < 0 then sCase (mS σ) else p2) (sAsked (mS σ) + 1))) ∧ u = (((mS σ), (mT σ), (mK σ), (mF σ), (mRow σ), (mRowMany σ), (mLots σ), (rfX (mRefused σ) (whyAnswer (mS σ) p0 p1 p2)))))) := by
  have n1 : ((-1) : Int32) < 0 ∧ -6 ≤ ((-1) : Int32) := by decide
  have n2 : ((-2) : Int32) < 0 ∧ -6 ≤ ((-2) : Int32) := by decide
  have n3 : ((-3) : Int32) < 0 ∧ -6 ≤ ((-3) : Int32) := by decide
  have n6 : ((-6) : Int32) < 0 ∧ -6 ≤ ((-6) : Int32) := by decide
  have hb := @bound_neg p2 (-1) 63
  have hw := @isW_in (mS σ) p0
  have hq := @isQ_in (mS σ) p1
  unfold vc_X3_answer whyAnswer rsX rfX; grind (splits := 30)
set_option maxRecDepth 20000 in
set_option maxHeartbeats 2000000 in
theorem v_X3_fitsAll (σ : KM) (p0 : Int32) (h : okS (mS σ)) : vc_X3_fitsAll σ p0 (fun r => r = (b2i (fitsAllB (mS σ) p0))) := by
  obtain ⟨n, hn, en⟩ := okS_nh h
  unfold vc_X3_fitsAll
  intro T hT
  refine all_loop (n := n) (fun k => hitB (mS σ) (sWhat (mS σ) k) p0 k) (fun j => T (nI j)) (fun b => (if b then (1 : Int32) else 0) = b2i (fitsAllB (mS σ) p0)) (fun q => ?_) (fun j hj h1 h0 => ?_) ?_
  · exact hT _ ⟨fun _ => q, fun c => absurd (le_nI en) c⟩
  · obtain ⟨a1, a2, -⟩ := okS_hN h en hn hj
    refine hT _ ⟨fun c => absurd c (nle_nI en (by omega) hj), fun _ => ?_⟩
    have hv : vp_in (nI j) 12 := vin (by omega)
    rw [nI_clamp (by omega), nI_1]
    refine ⟨hv, hv, hv, ⟨h, a1, a2⟩, hv, fun c => h1 (by simp [hitB, c]), fun c => h0 (by simp [hitB, c])⟩
  · rw [fitsAllB, en, nI_clamp (by omega)]; rfl
set_option maxRecDepth 20000 in
set_option maxHeartbeats 2000000 in
theorem v_X3_couldSay (σ : KM) (p0 : Int32) (p1 : Int32) (h : okS (mS σ) ∧ 0 ≤ p0 ∧ p0 < sNh (mS σ)) : vc_X3_couldSay σ p0 p1 (fun r => r = (b2i (couldB (mS σ) p0.toNatClampNeg p1))) := by
  obtain ⟨a0, a1, a2, -⟩ := okS_h h.1 h.2.1 h.2.2
  obtain ⟨n, hn, en⟩ := okS_nq h.1
  unfold vc_X3_couldSay
  intro T hT
  refine any_loop (n := n) (fun q => hitB (mS σ) (nI q) p1 p0.toNatClampNeg) (fun j => T (nI j)) (fun b => (if b then (1 : Int32) else 0) = b2i (couldB (mS σ) p0.toNatClampNeg p1)) (fun q => ?_) (fun j hj h1 h0 => ?_) ?_
  · exact hT _ ⟨fun _ => q, fun c => absurd (le_nI en) c⟩
  · refine hT _ ⟨fun c => absurd c (nle_nI en (by omega) hj), fun _ => ⟨a0, a0, ⟨h.1, a1, inQ_nI en hn hj⟩, a0, fun c => ?_, fun c => h0 (by simp [hitB, c])⟩⟩
    rw [nI_1]; exact h1 (by simp [hitB, c])
  · rw [couldB, en, nI_clamp (by omega)]; rfl
set_option maxRecDepth 20000 in
set_option maxHeartbeats 2000000 in
theorem v_X3_fitsJury (σ : KM) (p0 : Int32) (h : okS (mS σ)) : vc_X3_fitsJury σ p0 (fun r => r = (b2i (fitsJuryB (mS σ) p0))) := by
  obtain ⟨n, hn, en⟩ := okS_nh h
  unfold vc_X3_fitsJury
  intro T hT
  refine all_loop (n := n) (fun k => couldB (mS σ) k p0) (fun j => T (nI j)) (fun b => (if b then (1 : Int32) else 0) = b2i (fitsJuryB (mS σ) p0)) (fun q => ?_) (fun j hj h1 h0 => ?_) ?_
  · exact hT _ ⟨fun _ => q, fun c => absurd (le_nI en) c⟩
  · have hc : (nI j).toNatClampNeg = j := nI_clamp (by omega)
    refine hT _ ⟨fun c => absurd c (nle_nI en (by omega) hj), fun _ => ⟨⟨h, nI_pos' (by omega), by rw [en]; exact nI_lt hj (by omega)⟩, ?_⟩⟩
    rw [hc, nI_1]
    grind [b2i]
  · rw [fitsJuryB, en, nI_clamp (by omega)]; rfl
set_option maxRecDepth 20000 in
set_option maxHeartbeats 2000000 in
theorem v_X3_findFit (σ : KM) (p0 : Int32) (h : okS (mS σ) ∧ (p0 = 0 ∨ p0 = 1)) : vc_X3_findFit σ p0 (fun u => u = (((mS σ), (mT σ), (mK σ), ((fitM (mS σ) p0 (fFit (mF σ))), (fLeft (mF σ)), (fLeftBy (mF σ))), (mRow σ), (mRowMany σ), (mLots σ), (mRefused σ)))) := by
  unfold vc_X3_findFit
  intro T hT
  refine tab_loop (n := 64) (fitOf (mS σ) p0) (fFit (mF σ)) (fun j s => T (nI j) s) ?_ (fun j hj s hs ih => ?_)
  · exact hT _ _ ⟨fun _ => rfl, fun c => absurd (by decide) c⟩
  · have hc : (nI j).toNatClampNeg = j := nI_clamp (by omega)
    have hv : vp_in (nI j) 64 := vin hj
    refine hT _ _ ⟨fun c => absurd c (nle_nI (N := 64) (n := 64) (by decide) (by decide) hj), fun _ => ?_⟩
    rw [hc, nI_1]
    have h1 := h.1
    unfold fitOf at ih
    grind [b2i]
set_option maxRecDepth 20000 in
set_option maxHeartbeats 2000000 in
theorem v_X3_manyIn (σ : FI) : vc_X3_manyIn σ (fun r => r = (sumN σ 64)) := by
  unfold vc_X3_manyIn
  intro T hT
  refine sum_up (n := 64) σ (fun j a => T a (nI j)) ?_ (fun j hj a ih => ?_)
  · exact hT _ _ ⟨fun _ => rfl, fun c => absurd (by decide) c⟩
  · refine hT _ _ ⟨fun c => absurd c (nle_nI (N := 64) (n := 64) (by decide) (by decide) hj), fun _ => ⟨vin hj, ?_⟩⟩
    rw [nI_clamp (by omega), nI_1]; exact ih
set_option maxRecDepth 20000 in
set_option maxHeartbeats 2000000 in
theorem v_X3_leastIn (σ : FI) : vc_X3_leastIn σ (fun r => r = (leastOf σ)) := by
  unfold vc_X3_leastIn
  intro T hT
  refine first_loop (n := 64) (fun k => decide (σ k = 1)) (fun j => T (nI j)) (fun o => (match o with | none => (-9 : Int32) | some k => nI k) = leastOf σ) 0 (fun q => ?_) (fun j _ hj h1 h0 => ?_) rfl
  · exact hT _ ⟨fun _ => q, fun c => absurd (by decide) c⟩
  · refine hT _ ⟨fun c => absurd c (nle_nI (N := 64) (n := 64) (by decide) (by decide) (by omega)), fun _ => ⟨vin (by omega), ?_⟩⟩
    rw [nI_clamp (by omega), nI_1]
    exact ⟨fun c => h1 (by simp [c]), fun c => h0 (by simp [c])⟩
set_option maxRecDepth 20000 in
set_option maxHeartbeats 2000000 in
theorem v_X3_sureIn (σ : FI) : vc_X3_sureIn σ (fun r => r = (sureOf σ)) := by
  unfold vc_X3_sureIn
  intro T hT
  refine upN 64 (fun j => T (andN σ j) (orN σ j) (nI j)) ?_ (fun j hj ih => ?_) 0 (Nat.zero_le _)
  · refine hT _ _ _ ⟨fun _ => ?_, fun c => absurd (by decide) c⟩
    unfold sureOf; grind
  · refine hT _ _ _ ⟨fun c => absurd c (nle_nI (N := 64) (n := 64) (by decide) (by decide) hj), fun _ => ?_⟩
    have hv : vp_in (nI j) 64 := vin hj
    rw [nI_clamp (by omega), nI_1]
    simp only [andN, orN] at ih
    grind
set_option maxRecDepth 20000 in
set_option maxHeartbeats 2000000 in
theorem v_X3_manyOrLeast (σ : KM) (p0 : Int32) : vc_X3_manyOrLeast σ p0 (fun r u => (r = (rsX (why01 p0) (if p0 = 0 then sumN (fFit (mF σ)) 64 else leastOf (fFit (mF σ)))) ∧ u = (((mS σ), (mT σ), (mK σ), (mF σ), (mRow σ), (mRowMany σ), (mLots σ), (rfX (mRefused σ) (why01 p0)))))) := by
  have n1 : ((-1) : Int32) < 0 ∧ -6 ≤ ((-1) : Int32) := by decide
  have n2 : ((-2) : Int32) < 0 ∧ -6 ≤ ((-2) : Int32) := by decide
  have n3 : ((-3) : Int32) < 0 ∧ -6 ≤ ((-3) : Int32) := by decide
  have n6 : ((-6) : Int32) < 0 ∧ -6 ≤ ((-6) : Int32) := by decide
  unfold vc_X3_manyOrLeast why01 rsX rfX; grind
set_option maxRecDepth 20000 in
set_option maxHeartbeats 2000000 in
theorem v_X3_fits (σ : KM) (p0 : Int32) (h : okS (mS σ)) : vc_X3_fits σ p0 (fun r u => (r = (rsX (why01 p0) (if p0 = 0 then sumN (fitM (mS σ) 0 (fFit (mF σ))) 64 else leastOf (fitM (mS σ) 0 (fFit (mF σ))))) ∧ u = (((mS σ), (mT σ), (mK σ), ((fitM (mS σ) 0 (fFit (mF σ))), (fLeft (mF σ)), (fLeftBy (mF σ))), (mRow σ), (mRowMany σ), (mLots σ), (rfX (mRefused σ) (why01 p0)))))) := by
  exact ⟨⟨h, Or.inl rfl⟩, rfl, rfl⟩
set_option maxRecDepth 20000 in
set_option maxHeartbeats 2000000 in
theorem v_X3_jury (σ : KM) (p0 : Int32) (h : okS (mS σ)) : vc_X3_jury σ p0 (fun r u => (r = (rsX (why01 p0) (if p0 = 0 then sumN (fitM (mS σ) 1 (fFit (mF σ))) 64 else leastOf (fitM (mS σ) 1 (fFit (mF σ))))) ∧ u = (((mS σ), (mT σ), (mK σ), (((fitM (mS σ) 1 (fFit (mF σ)))), (fLeft (mF σ)), (fLeftBy (mF σ))), (mRow σ), (mRowMany σ), (mLots σ), (rfX (mRefused σ) (why01 p0)))))) := by
  exact ⟨⟨h, Or.inr rfl⟩, rfl, rfl⟩
set_option maxRecDepth 20000 in
set_option maxHeartbeats 2000000 in
theorem v_X3_sure (σ : KM) (p0 : Int32) (h : okS (mS σ)) : vc_X3_sure σ p0 (fun r u => ∃ (ex_F : KF), (r = (rsX (why01 p0) (sureOf (fitM (mS σ) p0 (fFit (mF σ))))) ∧ u = (((mS σ), (mT σ), (mK σ), (ex_F), (mRow σ), (mRowMany σ), (mLots σ), (rfX (mRefused σ) (why01 p0)))))) := by
  have n1 : ((-1) : Int32) < 0 ∧ -6 ≤ ((-1) : Int32) := by decide
  have n2 : ((-2) : Int32) < 0 ∧ -6 ≤ ((-2) : Int32) := by decide
  have n3 : ((-3) : Int32) < 0 ∧ -6 ≤ ((-3) : Int32) := by decide
  have n6 : ((-6) : Int32) < 0 ∧ -6 ≤ ((-6) : Int32) := by decide
  unfold vc_X3_sure
  refine ⟨fun c => ?_, fun c => ⟨n2, mF σ, rsX_n (by unfold why01; rw [if_pos c]) (by decide), by rw [rfX_n (c := -2) (by unfold why01; rw [if_pos c]) (by decide)]⟩⟩
  have hw : why01 p0 = 0 := by unfold why01; rw [if_neg c]
  have hp : p0 = 0 ∨ p0 = 1 := Classical.not_not.mp (fun d => c ((isInM_01 p0).mpr d))
  rw [← rsX_0 hw, rfX_0 hw]
  exact ⟨fun d => ⟨⟨h, Or.inl rfl⟩, _, by rw [hp.resolve_right d], rfl⟩, fun d => ⟨⟨h, Or.inr rfl⟩, _, by rw [d], rfl⟩⟩
