set_option maxRecDepth 20000 in
set_option maxHeartbeats 2000000 in
theorem v_X0_becomes_30_4 (σ : K3) (h : zC (nTrial σ) ∧ zC (nNow σ)) : vc_X0_becomes_30_4 σ (fun u => u = (((nNow σ), (nTaken σ), (nNow σ)))) := by
  unfold vc_X0_becomes_30_4
  have e1 : va_cpy (sForm (cS (nNow σ))) (sForm (cS (nTrial σ))) (0 : Int32).toNatClampNeg (0 : Int32).toNatClampNeg (8 : Int32).toNatClampNeg = sForm (cS (nNow σ)) := cpy_all _ _ 8 (fun k hk => by rw [(h.1.1.1 k hk).1, (h.2.1.1 k hk).1])
  have e2 : va_cpy (sFirst (cS (nNow σ))) (sFirst (cS (nTrial σ))) (0 : Int32).toNatClampNeg (0 : Int32).toNatClampNeg (8 : Int32).toNatClampNeg = sFirst (cS (nNow σ)) := cpy_all _ _ 8 (fun k hk => by rw [(h.1.1.1 k hk).2.1, (h.2.1.1 k hk).2.1])
  have e3 : va_cpy (sSecond (cS (nNow σ))) (sSecond (cS (nTrial σ))) (0 : Int32).toNatClampNeg (0 : Int32).toNatClampNeg (8 : Int32).toNatClampNeg = sSecond (cS (nNow σ)) := cpy_all _ _ 8 (fun k hk => by rw [(h.1.1.1 k hk).2.2, (h.2.1.1 k hk).2.2])
  have e4 : va_cpy (sKind (cS (nNow σ))) (sKind (cS (nTrial σ))) (0 : Int32).toNatClampNeg (0 : Int32).toNatClampNeg (5 : Int32).toNatClampNeg = sKind (cS (nNow σ)) := cpy_all _ _ 5 (fun k hk => by rw [(h.1.1.2.1 k hk).1, (h.2.1.2.1 k hk).1])
  have e5 : va_cpy (sFigure (cS (nNow σ))) (sFigure (cS (nTrial σ))) (0 : Int32).toNatClampNeg (0 : Int32).toNatClampNeg (5 : Int32).toNatClampNeg = sFigure (cS (nNow σ)) := cpy_all _ _ 5 (fun k hk => by rw [(h.1.1.2.1 k hk).2.1, (h.2.1.2.1 k hk).2.1])
  have e6 : va_cpy (sKnows (cS (nNow σ))) (sKnows (cS (nTrial σ))) (0 : Int32).toNatClampNeg (0 : Int32).toNatClampNeg (5 : Int32).toNatClampNeg = sKnows (cS (nNow σ)) := cpy_all _ _ 5 (fun k hk => by rw [(h.1.1.2.1 k hk).2.2, (h.2.1.2.1 k hk).2.2])
  have e7 : va_cpy (sWhom (cS (nNow σ))) (sWhom (cS (nTrial σ))) (0 : Int32).toNatClampNeg (0 : Int32).toNatClampNeg (12 : Int32).toNatClampNeg = sWhom (cS (nNow σ)) := cpy_all _ _ 12 (fun k hk => by rw [(h.1.1.2.2 k hk).1, (h.2.1.2.2 k hk).1])
  have e8 : va_cpy (sWhat (cS (nNow σ))) (sWhat (cS (nTrial σ))) (0 : Int32).toNatClampNeg (0 : Int32).toNatClampNeg (12 : Int32).toNatClampNeg = sWhat (cS (nNow σ)) := cpy_all _ _ 12 (fun k hk => by rw [(h.1.1.2.2 k hk).2.1, (h.2.1.2.2 k hk).2.1])
  have e9 : va_cpy (sSaid (cS (nNow σ))) (sSaid (cS (nTrial σ))) (0 : Int32).toNatClampNeg (0 : Int32).toNatClampNeg (12 : Int32).toNatClampNeg = sSaid (cS (nNow σ)) := cpy_all _ _ 12 (fun k hk => by rw [(h.1.1.2.2 k hk).2.2.1, (h.2.1.2.2 k hk).2.2.1])
  have e10 : va_cpy (sWhen (cS (nNow σ))) (sWhen (cS (nTrial σ))) (0 : Int32).toNatClampNeg (0 : Int32).toNatClampNeg (12 : Int32).toNatClampNeg = sWhen (cS (nNow σ)) := cpy_all _ _ 12 (fun k hk => by rw [(h.1.1.2.2 k hk).2.2.2, (h.2.1.2.2 k hk).2.2.2])
  have e11 : va_cpy (cNeeded (nNow σ)) (cNeeded (nTrial σ)) (0 : Int32).toNatClampNeg (0 : Int32).toNatClampNeg (8 : Int32).toNatClampNeg = cNeeded (nNow σ) := cpy_all _ _ 8 (fun k hk => by rw [(h.1.2 k hk).1, (h.2.2 k hk).1])
  have e12 : va_cpy (cTruth (nNow σ)) (cTruth (nTrial σ)) (0 : Int32).toNatClampNeg (0 : Int32).toNatClampNeg (8 : Int32).toNatClampNeg = cTruth (nNow σ) := cpy_all _ _ 8 (fun k hk => by rw [(h.1.2 k hk).2, (h.2.2 k hk).2])
  rw [e1, e2, e3, e4, e5, e6, e7, e8, e9, e10, e11, e12]
set_option maxRecDepth 20000 in
set_option maxHeartbeats 2000000 in
theorem v_X0_becomes_4_30 (σ : K3) (h : zC (nNow σ) ∧ zC (nTrial σ)) : vc_X0_becomes_4_30 σ (fun u => u = (((nTrial σ), (nTaken σ), (nTrial σ)))) := by
  unfold vc_X0_becomes_4_30
  have e1 : va_cpy (sForm (cS (nTrial σ))) (sForm (cS (nNow σ))) (0 : Int32).toNatClampNeg (0 : Int32).toNatClampNeg (8 : Int32).toNatClampNeg = sForm (cS (nTrial σ)) := cpy_all _ _ 8 (fun k hk => by rw [(h.1.1.1 k hk).1, (h.2.1.1 k hk).1])
  have e2 : va_cpy (sFirst (cS (nTrial σ))) (sFirst (cS (nNow σ))) (0 : Int32).toNatClampNeg (0 : Int32).toNatClampNeg (8 : Int32).toNatClampNeg = sFirst (cS (nTrial σ)) := cpy_all _ _ 8 (fun k hk => by rw [(h.1.1.1 k hk).2.1, (h.2.1.1 k hk).2.1])
  have e3 : va_cpy (sSecond (cS (nTrial σ))) (sSecond (cS (nNow σ))) (0 : Int32).toNatClampNeg (0 : Int32).toNatClampNeg (8 : Int32).toNatClampNeg = sSecond (cS (nTrial σ)) := cpy_all _ _ 8 (fun k hk => by rw [(h.1.1.1 k hk).2.2, (h.2.1.1 k hk).2.2])
  have e4 : va_cpy (sKind (cS (nTrial σ))) (sKind (cS (nNow σ))) (0 : Int32).toNatClampNeg (0 : Int32).toNatClampNeg (5 : Int32).toNatClampNeg = sKind (cS (nTrial σ)) := cpy_all _ _ 5 (fun k hk => by rw [(h.1.1.2.1 k hk).1, (h.2.1.2.1 k hk).1])
  have e5 : va_cpy (sFigure (cS (nTrial σ))) (sFigure (cS (nNow σ))) (0 : Int32).toNatClampNeg (0 : Int32).toNatClampNeg (5 : Int32).toNatClampNeg = sFigure (cS (nTrial σ)) := cpy_all _ _ 5 (fun k hk => by rw [(h.1.1.2.1 k hk).2.1, (h.2.1.2.1 k hk).2.1])
  have e6 : va_cpy (sKnows (cS (nTrial σ))) (sKnows (cS (nNow σ))) (0 : Int32).toNatClampNeg (0 : Int32).toNatClampNeg (5 : Int32).toNatClampNeg = sKnows (cS (nTrial σ)) := cpy_all _ _ 5 (fun k hk => by rw [(h.1.1.2.1 k hk).2.2, (h.2.1.2.1 k hk).2.2])
  have e7 : va_cpy (sWhom (cS (nTrial σ))) (sWhom (cS (nNow σ))) (0 : Int32).toNatClampNeg (0 : Int32).toNatClampNeg (12 : Int32).toNatClampNeg = sWhom (cS (nTrial σ)) := cpy_all _ _ 12 (fun k hk => by rw [(h.1.1.2.2 k hk).1, (h.2.1.2.2 k hk).1])
  have e8 : va_cpy (sWhat (cS (nTrial σ))) (sWhat (cS (nNow σ))) (0 : Int32).toNatClampNeg (0 : Int32).toNatClampNeg (12 : Int32).toNatClampNeg = sWhat (cS (nTrial σ)) := cpy_all _ _ 12 (fun k hk => by rw [(h.1.1.2.2 k hk).2.1, (h.2.1.2.2 k hk).2.1])
  have e9 : va_cpy (sSaid (cS (nTrial σ))) (sSaid (cS (nNow σ))) (0 : Int32).toNatClampNeg (0 : Int32).toNatClampNeg (12 : Int32).toNatClampNeg = sSaid (cS (nTrial σ)) := cpy_all _ _ 12 (fun k hk => by rw [(h.1.1.2.2 k hk).2.2.1, (h.2.1.2.2 k hk).2.2.1])
  have e10 : va_cpy (sWhen (cS (nTrial σ))) (sWhen (cS (nNow σ))) (0 : Int32).toNatClampNeg (0 : Int32).toNatClampNeg (12 : Int32).toNatClampNeg = sWhen (cS (nTrial σ)) := cpy_all _ _ 12 (fun k hk => by rw [(h.1.1.2.2 k hk).2.2.2, (h.2.1.2.2 k hk).2.2.2])
  have e11 : va_cpy (cNeeded (nTrial σ)) (cNeeded (nNow σ)) (0 : Int32).toNatClampNeg (0 : Int32).toNatClampNeg (8 : Int32).toNatClampNeg = cNeeded (nTrial σ) := cpy_all _ _ 8 (fun k hk => by rw [(h.1.2 k hk).1, (h.2.2 k hk).1])
  have e12 : va_cpy (cTruth (nTrial σ)) (cTruth (nNow σ)) (0 : Int32).toNatClampNeg (0 : Int32).toNatClampNeg (8 : Int32).toNatClampNeg = cTruth (nTrial σ) := cpy_all _ _ 8 (fun k hk => by rw [(h.1.2 k hk).2, (h.2.2 k hk).2])
  rw [e1, e2, e3, e4, e5, e6, e7, e8, e9, e10, e11, e12]
set_option maxRecDepth 20000 in
set_option maxHeartbeats 2000000 in
theorem v_X0_becomes_17_4 (σ : K3) (h : zC (nTaken σ) ∧ zC (nNow σ)) : vc_X0_becomes_17_4 σ (fun u => u = (((nNow σ), (nNow σ), (nTrial σ)))) := by
  unfold vc_X0_becomes_17_4
  have e1 : va_cpy (sForm (cS (nNow σ))) (sForm (cS (nTaken σ))) (0 : Int32).toNatClampNeg (0 : Int32).toNatClampNeg (8 : Int32).toNatClampNeg = sForm (cS (nNow σ)) := cpy_all _ _ 8 (fun k hk => by rw [(h.1.1.1 k hk).1, (h.2.1.1 k hk).1])
  have e2 : va_cpy (sFirst (cS (nNow σ))) (sFirst (cS (nTaken σ))) (0 : Int32).toNatClampNeg (0 : Int32).toNatClampNeg (8 : Int32).toNatClampNeg = sFirst (cS (nNow σ)) := cpy_all _ _ 8 (fun k hk => by rw [(h.1.1.1 k hk).2.1, (h.2.1.1 k hk).2.1])
  have e3 : va_cpy (sSecond (cS (nNow σ))) (sSecond (cS (nTaken σ))) (0 : Int32).toNatClampNeg (0 : Int32).toNatClampNeg (8 : Int32).toNatClampNeg = sSecond (cS (nNow σ)) := cpy_all _ _ 8 (fun k hk => by rw [(h.1.1.1 k hk).2.2, (h.2.1.1 k hk).2.2])
  have e4 : va_cpy (sKind (cS (nNow σ))) (sKind (cS (nTaken σ))) (0 : Int32).toNatClampNeg (0 : Int32).toNatClampNeg (5 : Int32).toNatClampNeg = sKind (cS (nNow σ)) := cpy_all _ _ 5 (fun k hk => by rw [(h.1.1.2.1 k hk).1, (h.2.1.2.1 k hk).1])
  have e5 : va_cpy (sFigure (cS (nNow σ))) (sFigure (cS (nTaken σ))) (0 : Int32).toNatClampNeg (0 : Int32).toNatClampNeg (5 : Int32).toNatClampNeg = sFigure (cS (nNow σ)) := cpy_all _ _ 5 (fun k hk => by rw [(h.1.1.2.1 k hk).2.1, (h.2.1.2.1 k hk).2.1])
  have e6 : va_cpy (sKnows (cS (nNow σ))) (sKnows (cS (nTaken σ))) (0 : Int32).toNatClampNeg (0 : Int32).toNatClampNeg (5 : Int32).toNatClampNeg = sKnows (cS (nNow σ)) := cpy_all _ _ 5 (fun k hk => by rw [(h.1.1.2.1 k hk).2.2, (h.2.1.2.1 k hk).2.2])
  have e7 : va_cpy (sWhom (cS (nNow σ))) (sWhom (cS (nTaken σ))) (0 : Int32).toNatClampNeg (0 : Int32).toNatClampNeg (12 : Int32).toNatClampNeg = sWhom (cS (nNow σ)) := cpy_all _ _ 12 (fun k hk => by rw [(h.1.1.2.2 k hk).1, (h.2.1.2.2 k hk).1])
  have e8 : va_cpy (sWhat (cS (nNow σ))) (sWhat (cS (nTaken σ))) (0 : Int32).toNatClampNeg (0 : Int32).toNatClampNeg (12 : Int32).toNatClampNeg = sWhat (cS (nNow σ)) := cpy_all _ _ 12 (fun k hk => by rw [(h.1.1.2.2 k hk).2.1, (h.2.1.2.2 k hk).2.1])
  have e9 : va_cpy (sSaid (cS (nNow σ))) (sSaid (cS (nTaken σ))) (0 : Int32).toNatClampNeg (0 : Int32).toNatClampNeg (12 : Int32).toNatClampNeg = sSaid (cS (nNow σ)) := cpy_all _ _ 12 (fun k hk => by rw [(h.1.1.2.2 k hk).2.2.1, (h.2.1.2.2 k hk).2.2.1])
  have e10 : va_cpy (sWhen (cS (nNow σ))) (sWhen (cS (nTaken σ))) (0 : Int32).toNatClampNeg (0 : Int32).toNatClampNeg (12 : Int32).toNatClampNeg = sWhen (cS (nNow σ)) := cpy_all _ _ 12 (fun k hk => by rw [(h.1.1.2.2 k hk).2.2.2, (h.2.1.2.2 k hk).2.2.2])
  have e11 : va_cpy (cNeeded (nNow σ)) (cNeeded (nTaken σ)) (0 : Int32).toNatClampNeg (0 : Int32).toNatClampNeg (8 : Int32).toNatClampNeg = cNeeded (nNow σ) := cpy_all _ _ 8 (fun k hk => by rw [(h.1.2 k hk).1, (h.2.2 k hk).1])
  have e12 : va_cpy (cTruth (nNow σ)) (cTruth (nTaken σ)) (0 : Int32).toNatClampNeg (0 : Int32).toNatClampNeg (8 : Int32).toNatClampNeg = cTruth (nNow σ) := cpy_all _ _ 8 (fun k hk => by rw [(h.1.2 k hk).2, (h.2.2 k hk).2])
  rw [e1, e2, e3, e4, e5, e6, e7, e8, e9, e10, e11, e12]
set_option maxRecDepth 20000 in
set_option maxHeartbeats 2000000 in
theorem v_X0_becomes_4_17 (σ : K3) (h : zC (nNow σ) ∧ zC (nTaken σ)) : vc_X0_becomes_4_17 σ (fun u => u = (((nTaken σ), (nTaken σ), (nTrial σ)))) := by
  unfold vc_X0_becomes_4_17
  have e1 : va_cpy (sForm (cS (nTaken σ))) (sForm (cS (nNow σ))) (0 : Int32).toNatClampNeg (0 : Int32).toNatClampNeg (8 : Int32).toNatClampNeg = sForm (cS (nTaken σ)) := cpy_all _ _ 8 (fun k hk => by rw [(h.1.1.1 k hk).1, (h.2.1.1 k hk).1])
  have e2 : va_cpy (sFirst (cS (nTaken σ))) (sFirst (cS (nNow σ))) (0 : Int32).toNatClampNeg (0 : Int32).toNatClampNeg (8 : Int32).toNatClampNeg = sFirst (cS (nTaken σ)) := cpy_all _ _ 8 (fun k hk => by rw [(h.1.1.1 k hk).2.1, (h.2.1.1 k hk).2.1])
  have e3 : va_cpy (sSecond (cS (nTaken σ))) (sSecond (cS (nNow σ))) (0 : Int32).toNatClampNeg (0 : Int32).toNatClampNeg (8 : Int32).toNatClampNeg = sSecond (cS (nTaken σ)) := cpy_all _ _ 8 (fun k hk => by rw [(h.1.1.1 k hk).2.2, (h.2.1.1 k hk).2.2])
  have e4 : va_cpy (sKind (cS (nTaken σ))) (sKind (cS (nNow σ))) (0 : Int32).toNatClampNeg (0 : Int32).toNatClampNeg (5 : Int32).toNatClampNeg = sKind (cS (nTaken σ)) := cpy_all _ _ 5 (fun k hk => by rw [(h.1.1.2.1 k hk).1, (h.2.1.2.1 k hk).1])
  have e5 : va_cpy (sFigure (cS (nTaken σ))) (sFigure (cS (nNow σ))) (0 : Int32).toNatClampNeg (0 : Int32).toNatClampNeg (5 : Int32).toNatClampNeg = sFigure (cS (nTaken σ)) := cpy_all _ _ 5 (fun k hk => by rw [(h.1.1.2.1 k hk).2.1, (h.2.1.2.1 k hk).2.1])
  have e6 : va_cpy (sKnows (cS (nTaken σ))) (sKnows (cS (nNow σ))) (0 : Int32).toNatClampNeg (0 : Int32).toNatClampNeg (5 : Int32).toNatClampNeg = sKnows (cS (nTaken σ)) := cpy_all _ _ 5 (fun k hk => by rw [(h.1.1.2.1 k hk).2.2, (h.2.1.2.1 k hk).2.2])
  have e7 : va_cpy (sWhom (cS (nTaken σ))) (sWhom (cS (nNow σ))) (0 : Int32).toNatClampNeg (0 : Int32).toNatClampNeg (12 : Int32).toNatClampNeg = sWhom (cS (nTaken σ)) := cpy_all _ _ 12 (fun k hk => by rw [(h.1.1.2.2 k hk).1, (h.2.1.2.2 k hk).1])
  have e8 : va_cpy (sWhat (cS (nTaken σ))) (sWhat (cS (nNow σ))) (0 : Int32).toNatClampNeg (0 : Int32).toNatClampNeg (12 : Int32).toNatClampNeg = sWhat (cS (nTaken σ)) := cpy_all _ _ 12 (fun k hk => by rw [(h.1.1.2.2 k hk).2.1, (h.2.1.2.2 k hk).2.1])
  have e9 : va_cpy (sSaid (cS (nTaken σ))) (sSaid (cS (nNow σ))) (0 : Int32).toNatClampNeg (0 : Int32).toNatClampNeg (12 : Int32).toNatClampNeg = sSaid (cS (nTaken σ)) := cpy_all _ _ 12 (fun k hk => by rw [(h.1.1.2.2 k hk).2.2.1, (h.2.1.2.2 k hk).2.2.1])
  have e10 : va_cpy (sWhen (cS (nTaken σ))) (sWhen (cS (nNow σ))) (0 : Int32).toNatClampNeg (0 : Int32).toNatClampNeg (12 : Int32).toNatClampNeg = sWhen (cS (nTaken σ)) := cpy_all _ _ 12 (fun k hk => by rw [(h.1.1.2.2 k hk).2.2.2, (h.2.1.2.2 k hk).2.2.2])
  have e11 : va_cpy (cNeeded (nTaken σ)) (cNeeded (nNow σ)) (0 : Int32).toNatClampNeg (0 : Int32).toNatClampNeg (8 : Int32).toNatClampNeg = cNeeded (nTaken σ) := cpy_all _ _ 8 (fun k hk => by rw [(h.1.2 k hk).1, (h.2.2 k hk).1])
  have e12 : va_cpy (cTruth (nTaken σ)) (cTruth (nNow σ)) (0 : Int32).toNatClampNeg (0 : Int32).toNatClampNeg (8 : Int32).toNatClampNeg = cTruth (nTaken σ) := cpy_all _ _ 8 (fun k hk => by rw [(h.1.2 k hk).2, (h.2.2 k hk).2])
  rw [e1, e2, e3, e4, e5, e6, e7, e8, e9, e10, e11, e12]
set_option maxRecDepth 20000 in
set_option maxHeartbeats 2000000 in
theorem v_X0_dropFirstHeard (σ : KC) : vc_X0_dropFirstHeard σ (fun u => u = (((mkS (sCase (cS σ)) (sAsked (cS σ)) (sNq (cS σ)) (sNw (cS σ)) 11 (sForm (cS σ)) (sFirst (cS σ)) (sSecond (cS σ)) (sKind (cS σ)) (sFigure (cS σ)) (sKnows (cS σ)) (dropF (sWhom (cS σ))) (dropF (sWhat (cS σ))) (dropF (sSaid (cS σ))) (dropF (sWhen (cS σ)))), (cNeeded σ), (cTruth σ)))) := by
  have e : ∀ f : FI, va_cpy f f (1 : Int32).toNatClampNeg (0 : Int32).toNatClampNeg (11 : Int32).toNatClampNeg = dropF f := cpy_drop
  unfold vc_X0_dropFirstHeard
  rw [e, e, e, e]
  rfl
set_option maxRecDepth 20000 in
set_option maxHeartbeats 2000000 in
theorem v_X0_flipFact (σ : KC) (p0 : Int32) : vc_X0_flipFact σ p0 (fun r u => (r = (isFactI p0) ∧ u = (((if isFactI p0 = 0 then cS σ else sSetCase (cS σ) (sCase (cS σ) ^^^ (1 <<< (p0 &&& 31)))), (cNeeded σ), (cTruth σ))))) := by
  unfold vc_X0_flipFact sSetCase
  have hb : ∀ z : Bool, ¬ b2i z = 0 → b2i z = 1 := by decide
  have h1 := hb (decide (0 ≤ p0) && decide (p0 < 6))
  have h2 : ¬ isFactI p0 = 0 → isFactI p0 = 1 := h1
  grind
set_option maxRecDepth 20000 in
set_option maxHeartbeats 2000000 in
theorem v_X0_addQuestion (σ : KC) (p0 : Int32) (p1 : Int32) (p2 : Int32) (h : okS (cS σ)) : vc_X0_addQuestion σ p0 p1 p2 (fun r u => (r = (b2i (qOkB (cS σ) p0 p1 p2)) ∧ u = (if qOkB (cS σ) p0 p1 p2 then addQC σ p0 p1 p2 else σ))) := by
  have hv : sNq (cS σ) < 8 → vp_in (sNq (cS σ)) 8 := fun c => vin_lt (N := 8) (by decide) h.2.2.1.1 c
  clear h
  unfold vc_X0_addQuestion qOkB addQC addQ sSetQ neededI mkS
  grind (splits := 40) [b2i]
set_option maxRecDepth 20000 in
set_option maxHeartbeats 2000000 in
theorem v_X0_addWitness (σ : KC) (p0 : Int32) (p1 : Int32) (p2 : Int32) (h : okS (cS σ)) : vc_X0_addWitness σ p0 p1 p2 (fun r u => (r = (b2i (wOkB (cS σ) p0 p1 p2)) ∧ u = (((if wOkB (cS σ) p0 p1 p2 then addW (cS σ) p0 p1 p2 else cS σ), (cNeeded σ), (cTruth σ))))) := by
  have hv : sNw (cS σ) < 5 → vp_in (sNw (cS σ)) 5 := fun c => vin_lt (N := 5) (by decide) h.2.2.2.1.1 c
  clear h
  unfold vc_X0_addWitness wOkB addW sSetW mkS
  grind (splits := 40) [b2i]
set_option maxRecDepth 20000 in
set_option maxHeartbeats 2000000 in
theorem v_X0_flipKnown (σ : KC) (p0 : Int32) (p1 : Int32) : vc_X0_flipKnown σ p0 p1 (fun r u => (r = (flipKI (cS σ) p0 p1) ∧ u = (((if flipKI (cS σ) p0 p1 = 0 then cS σ else sSetKnows (cS σ) (upd (sKnows (cS σ)) p0.toNatClampNeg (sKnows (cS σ) p0.toNatClampNeg ^^^ (1 <<< (p1 &&& 31))))), (cNeeded σ), (cTruth σ))))) := by
  have h1 := @vinW (cS σ) p0
  unfold vc_X0_flipKnown flipKI sSetKnows mkS
  grind (splits := 40)
set_option maxRecDepth 20000 in
set_option maxHeartbeats 2000000 in
theorem v_X1_add (σ : KZ) (p0 : Int32) (h : 0 ≤ zLen σ ∧ zLen σ ≤ 96) : vc_X1_add σ p0 (fun u => u = (if zLen σ < 96 then (zLen σ + 1, upd (zText σ) (zLen σ).toNatClampNeg (vp_nar .char p0)) else σ)) := by
  have h1 : zLen σ < 96 → vp_in (zLen σ) 96 := fun c => vin_lt (N := 96) (by decide) h.1 c
  unfold vc_X1_add
  grind
set_option maxRecDepth 20000 in
set_option maxHeartbeats 2000000 in
theorem v_X2_sizeOrLeast (p0 : Int64) (p1 : Int32) : vc_X2_sizeOrLeast p0 p1 (fun r => r = (sizeOrLeastI p0 p1)) := by
  unfold vc_X2_sizeOrLeast sizeOrLeastI
  simp only [cmp_z]
  grind
set_option maxRecDepth 20000 in
set_option maxHeartbeats 2000000 in
theorem v_X2_commonDivisor (p0 : Int32) (p1 : Int32) (h : 0 < p0 ∧ 0 < p1) : vc_X2_commonDivisor p0 p1 (fun r => r = (gcdI p0 p1)) := by
  obtain ⟨a, ha, rfl⟩ := nI_of (Int32.not_lt.mpr (Int32.le_of_lt h.1))
  obtain ⟨b, hb, rfl⟩ := nI_of (Int32.not_lt.mpr (Int32.le_of_lt h.2))
  have ha0 : 0 < a := (nI_ltI (a := 0) (by decide) ha).mp h.1
  unfold vc_X2_commonDivisor
  intro T hT
  have eg : gcdI (nI a) (nI b) = nI (Nat.gcd a b) := by unfold gcdI; rw [nI_clamp ha, nI_clamp hb]
  have g1 : 0 < Nat.gcd a b := Nat.gcd_pos_of_pos_left b ha0
  have g2 : Nat.gcd a b ≤ a := Nat.gcd_le_left b ha0
  rw [eg] at hT
  have key : ∀ (k y x i : Nat), y < 2 ^ k → x < 2 ^ 31 → y < 2 ^ 31 → 0 < x → Nat.gcd x y = Nat.gcd a b → i + 2 * k ≤ 100 → T (nI x) (nI y) (nI i) := by
    have fin : ∀ (x i : Nat), x < 2 ^ 31 → 0 < x → i ≤ 100 → Nat.gcd x 0 = Nat.gcd a b → T (nI x) (nI 0) (nI i) := by
      intro x i hx hx0 hi e
      rw [Nat.gcd_zero_right] at e
      have hend : ∀ r : Int32, ((nI x ≤ 0 → (fun r => r = nI (Nat.gcd a b)) 1) ∧ (¬ nI x ≤ 0 → (fun r => r = nI (Nat.gcd a b)) (nI x))) := fun _ => ⟨fun c => absurd c (nI_nle hx0 hx), fun _ => by show _ = _; rw [e]⟩
      exact hT _ _ _ ⟨fun _ => hend 0, fun _ => ⟨fun _ => hend 0, fun c => absurd (by decide) c⟩⟩
    intro k
    induction k with
    | zero =>
      intro y x i hy hx _ hx0 e hi
      obtain rfl : y = 0 := by omega
      exact fin x i hx hx0 (by omega) e
    | succ k ih =>
      intro y x i hy hx hy2 hx0 e hi
      rcases Nat.eq_zero_or_pos y with rfl | hy0
      · exact fin x i hx hx0 (by omega) e
      · have step : ∀ (x y i : Nat), x < 2 ^ 31 → y < 2 ^ 31 → 0 < y → i < 100 → T (nI y) (nI (x % y)) (nI (i + 1)) → T (nI x) (nI y) (nI i) := by
          intro x y i hx hy hy0 hi h1
          refine hT _ _ _ ⟨fun c => absurd c (nle_nI (N := 100) (n := 100) (by decide) (by decide) hi), fun _ => ⟨fun c => absurd c (nI_nle hy0 hy), fun _ => ⟨nI_ne0 hy0 hy, ?_⟩⟩⟩
          rw [pk_rem hx hy0 hy, nI_1]; exact h1
        have m1 := Nat.mod_lt x hy0
        have e1 : Nat.gcd y (x % y) = Nat.gcd a b := by rw [← e, Nat.gcd_comm x y, Nat.gcd_rec y x, Nat.gcd_comm]
        refine step x y i hx hy2 hy0 (by omega) ?_
        rcases Nat.eq_zero_or_pos (x % y) with z | z
        · rw [z] at e1 ⊢
          exact fin y (i + 1) hy2 hy0 (by omega) e1
        · have m2 := Nat.mod_lt y z
          have m3 := mod_half z (show x % y ≤ y by omega)
          refine step y (x % y) (i + 1) hy2 (by omega) z (by omega) ?_
          exact ih (y % (x % y)) (x % y) (i + 2) (by rw [Nat.pow_succ] at hy; omega) (by omega) (by omega) z (by rw [← e1, Nat.gcd_comm y (x % y), Nat.gcd_rec (x % y) y, Nat.gcd_comm]) (by omega)
  exact key 31 b a 0 hb ha hb ha0 rfl (by decide)
set_option maxRecDepth 20000 in
set_option maxHeartbeats 2000000 in
theorem v_X2_inLeastTerms (p0 : Int32) (p1 : Int32) (p2 : Int32) : vc_X2_inLeastTerms p0 p1 p2 (fun r => r = (leastTermsL p0 p1 p2)) := by
  have hg : 0 < p0 → 0 < p1 → ¬ gcdI p0 p1 = 0 := by
    intro h0 h1
    obtain ⟨a, ha, rfl⟩ := nI_of (Int32.not_lt.mpr (Int32.le_of_lt h0))
    obtain ⟨b, hb, rfl⟩ := nI_of (Int32.not_lt.mpr (Int32.le_of_lt h1))
    have ha0 : 0 < a := (nI_ltI (a := 0) (by decide) ha).mp h0
    unfold gcdI
    rw [nI_clamp ha, nI_clamp hb]
    have g2 : Nat.gcd a b ≤ a := Nat.gcd_le_left b ha0
    exact nI_ne0 (Nat.gcd_pos_of_pos_left b ha0) (by omega)
  unfold vc_X2_inLeastTerms leastTermsL
  grind (splits := 30)
set_option maxRecDepth 20000 in
set_option maxHeartbeats 2000000 in
theorem v_X2_drawOn (p0 : Int32) : vc_X2_drawOn p0 (fun r => r = (drawOnI p0)) := by
  unfold vc_X2_drawOn drawOnI
  intro z1 e1 z2 e2
  subst e1 e2
  rfl
set_option maxRecDepth 20000 in
set_option maxHeartbeats 2000000 in
theorem v_X2_drawBelow (p0 : Int32) (p1 : Int32) : vc_X2_drawBelow p0 p1 (fun r => r = (drawBelowI p0 p1)) := by
  unfold vc_X2_drawBelow drawBelowI
  refine ⟨fun c => by rw [if_neg (Int32.not_lt.mpr c)], fun c => ?_⟩
  intro z e
  subst e
  have h0 : 0 < p1 := Int32.not_le.mp c
  exact ⟨fun q => by rw [q] at h0; exact absurd h0 (by decide), by rw [if_pos h0]⟩
set_option maxRecDepth 20000 in
set_option maxHeartbeats 2000000 in
theorem v_X2_refused (σ : KX) (p0 : Int32) (h : p0 < 0 ∧ -6 ≤ p0) : vc_X2_refused σ p0 (fun r u => (r = (p0) ∧ u = (((xNow σ), (xTaken σ), (xTrial σ), (xScr σ), (xRow σ), (refuX (xRefus σ) p0), (xKept σ), (xRowLen σ), (xIsTaken σ))))) := by
  unfold vc_X2_refused
  have h1 := neg_vin h
  have h2 := h.2
  have h3 : -6 ≤ p0 := h2
  unfold refuX
  grind
set_option maxRecDepth 20000 in
set_option maxHeartbeats 2000000 in
theorem v_X2_longRefused (σ : KX) (p0 : Int32) (h : p0 < 0 ∧ -6 ≤ p0) : vc_X2_longRefused σ p0 (fun r u => (r = (4000000000000000000 - p0.toInt64) ∧ u = (((xNow σ), (xTaken σ), (xTrial σ), (xScr σ), (xRow σ), (refuX (xRefus σ) p0), (xKept σ), (xRowLen σ), (xIsTaken σ))))) := by
  unfold vc_X2_longRefused
  exact ⟨h, rfl, rfl⟩
set_option maxRecDepth 20000 in
set_option maxHeartbeats 2000000 in
theorem v_X2_worstLeft (σ : KX) (p0 : Int64) (p1 : Int32) (p2 : Int32) (h : okX σ) : vc_X2_worstLeft σ p0 p1 p2 (fun r => r = (worstX (xNow σ) p0 p1 p2)) := by
  unfold vc_X2_worstLeft
  intro T hT
  have st : ∀ (x : Int32) (j : Nat), j < 3 → T (jmax x (popc (p0 &&& sayingL (xNow σ) p1 p2 (sAsked (cS (xNow σ)) + 1) (nI j)))) (nI (j + 1)) → T x (nI j) := by
    intro x j hj hT2
    refine hT _ _ ⟨fun c => absurd c (nle_nI (N := 3) (n := 3) (by decide) (by decide) hj), fun _ => ⟨h.1, ?_⟩⟩
    rw [nI_1]; exact hT2
  exact st 0 0 (by decide) (st _ 1 (by decide) (st _ 2 (by decide) (hT _ _ ⟨fun _ => rfl, fun c => absurd (by decide) c⟩)))
set_option maxRecDepth 20000 in
set_option maxHeartbeats 2000000 in
theorem v_X2_bestAsking (σ : KX) (p0 : Int32) (h : okX σ) : vc_X2_bestAsking σ p0 (fun r => r = (if p0 = 0 then (bestX (xNow σ) (fittingL (xNow σ))).1 else (bestX (xNow σ) (fittingL (xNow σ))).2)) := by
  obtain ⟨nw, hnw, enw⟩ := okS_nw h.1.1
  obtain ⟨nq, hnq, enq⟩ := okS_nq h.1.1
  unfold vc_X2_bestAsking
  intro T19 T34 h19 h34
  refine ⟨h.1, ?_⟩
  refine fold_up (n := nw) (fun w b => foldN (fun q b => bestStepX (xNow σ) (fittingL (xNow σ)) (nI w) (nI q) b) (sNq (cS (xNow σ))).toNatClampNeg b) ((-9, -9) : Int32 × Int32) (fun j b => T19 (fittingL (xNow σ)) b.1 b.2 (nI j)) ?_ (fun w hw b ih => ?_)
  · refine h19 _ _ _ _ ⟨fun _ => ?_, fun d => absurd (le_nI enw) d⟩
    have e : bestX (xNow σ) (fittingL (xNow σ)) = foldN (fun w b => foldN (fun q b => bestStepX (xNow σ) (fittingL (xNow σ)) (nI w) (nI q) b) (sNq (cS (xNow σ))).toNatClampNeg b) nw ((-9, -9) : Int32 × Int32) := by unfold bestX; rw [enw, nI_clamp (by omega)]
    rw [e]
    exact ⟨fun d => by rw [if_neg d], fun d => by rw [if_pos d]⟩
  · refine h19 _ _ _ _ ⟨fun d => absurd d (nle_nI enw (by omega) hw), fun _ => ?_⟩
    rw [enq, nI_clamp (by omega)] at ih
    refine fold_up (n := nq) (fun q b => bestStepX (xNow σ) (fittingL (xNow σ)) (nI w) (nI q) b) b (fun j b => T34 (fittingL (xNow σ)) b.1 b.2 (nI w) (nI j)) ?_ (fun q hq b ih2 => ?_)
    · refine h34 _ _ _ _ _ ⟨fun _ => ?_, fun d => absurd (le_nI enq) d⟩
      rw [nI_1]; exact ih
    · refine h34 _ _ _ _ _ ⟨fun d => absurd d (nle_nI enq (by omega) hq), fun _ => ⟨h, ?_⟩⟩
      rw [nI_1]
      unfold bestStepX at ih2
      refine ⟨fun e => by rw [if_pos (Or.inl e)] at ih2; exact ih2, fun e => ⟨fun f => ?_, fun f => ?_⟩⟩
      · rw [if_neg] at ih2
        · exact ih2
        · rintro (z | z)
          · exact e z
          · exact absurd z (Int32.not_lt.mpr f)
      · rw [if_pos (Or.inr (Int32.not_le.mp f))] at ih2; exact ih2
set_option maxRecDepth 20000 in
set_option maxHeartbeats 2000000 in
theorem v_X2_isHidden (σ : KX) (p0 : Int32) (h : okX σ) : vc_X2_isHidden σ p0 (fun r => r = (b2i (hiddenBX (xNow σ) p0))) := by
  obtain ⟨n, hn, en⟩ := okS_nw h.1.1
  unfold vc_X2_isHidden
  intro T hT
  refine all_loop (n := n) (fun w => decide (replyI (xNow σ) (nI w) p0 (sAsked (cS (xNow σ)) + 1) (sCase (cS (xNow σ))) = 2)) (fun j => T (nI j)) (fun b => (if b then (1 : Int32) else 0) = b2i (hiddenBX (xNow σ) p0)) (fun q => ?_) (fun j hj h1 h0 => ?_) ?_
  · exact hT _ ⟨fun _ => q, fun c => absurd (le_nI en) c⟩
  · refine hT _ ⟨fun c => absurd c (nle_nI en (by omega) hj), fun _ => ⟨h.1, ?_⟩⟩
    rw [nI_1]
    exact ⟨fun c => h1 (by simp [c]), fun c => h0 (by simp [c])⟩
  · rw [hiddenBX, en, nI_clamp (by omega)]; rfl
set_option maxRecDepth 20000 in
set_option maxHeartbeats 2000000 in
theorem v_X2_leftBehind (σ : KX) (p0 : Int64) (p1 : Int32) (p2 : Int32) (p3 : Int32) (h : okX σ) : vc_X2_leftBehind σ p0 p1 p2 p3 (fun r => r = (leftBehindX (xNow σ) p0 p1 p2 p3)) := by
  exact ⟨h.1, h.1, rfl⟩
set_option maxRecDepth 20000 in
set_option maxHeartbeats 2000000 in
theorem v_X2_isByRow (σ : KX) (p0 : Int32) (h : okC (xTrial σ) ∧ 0 ≤ xRowLen σ ∧ xRowLen σ ≤ 12) : vc_X2_isByRow σ p0 (fun r => r = (b2i (rowBX (xTrial σ) (xRow σ) (xRowLen σ) p0))) := by
  obtain ⟨hC, r0, r12⟩ := h
  obtain ⟨n, hn, en⟩ := nI_up (M := 12) (n := 12) (by decide) ⟨r0, r12⟩
  unfold vc_X2_isByRow
  intro T hT
  refine all_loop (n := n) (fun q => decide (replyI (xTrial σ) p0 (nI q) (sAsked (cS (xTrial σ)) + 1) (sCase (cS (xTrial σ))) = xRow σ q)) (fun j => T (nI j)) (fun b => (if b then (1 : Int32) else 0) = b2i (rowBX (xTrial σ) (xRow σ) (xRowLen σ) p0)) (fun q => ?_) (fun j hj h1 h0 => ?_) ?_
  · exact hT _ ⟨fun _ => q, fun c => absurd (le_nI en) c⟩
  · refine hT _ ⟨fun c => absurd c (nle_nI en (by omega) hj), fun _ => ⟨hC, vin (by omega), ?_⟩⟩
    rw [nI_clamp (by omega), nI_1]
    exact ⟨fun c => h1 (by simp [c]), fun c => h0 (by simp [c])⟩
  · rw [rowBX, en, nI_clamp (by omega)]; rfl
set_option maxRecDepth 20000 in
set_option maxHeartbeats 2000000 in
theorem v_X2_firstWrongInRow (σ : KX) (h : okX σ) : vc_X2_firstWrongInRow σ (fun r => r = (wrongX (cS (xNow σ)) (xRow σ) (xRowLen σ))) := by
  obtain ⟨n, hn, en⟩ := nI_up (M := 12) (n := 12) (by decide) h.2.2.2.2.2.1
  unfold vc_X2_firstWrongInRow
  intro T hT
  refine first_loop (n := n) (fun k => decide (hasPI (cS (xNow σ)) (nI k) = 0) || !decide (sSaid (cS (xNow σ)) k = xRow σ k)) (fun j => T (nI j)) (fun o => (match o with | some k => nI k | none => (-9 : Int32)) = wrongX (cS (xNow σ)) (xRow σ) (xRowLen σ)) 0 (fun q => ?_) (fun j _ hj h1 h0 => ?_) ?_
  · exact hT _ ⟨fun _ => q, fun c => absurd (by rw [Nat.zero_add]; exact le_nI en) c⟩
  · refine hT _ ⟨fun c => absurd c (nle_nI en (by omega) (by omega)), fun _ => ⟨fun c => h0 (by simp [c]), fun c => ?_⟩⟩
    have hv : vp_in (nI j) 12 := vin (by omega)
    rw [nI_clamp (by omega), nI_1]
    exact ⟨hv, hv, fun d => h1 (by simp [c, d]), fun d => h0 (by simp [d])⟩
  · rw [wrongX, en, nI_clamp (by omega)]; rfl
set_option maxRecDepth 20000 in
set_option maxHeartbeats 2000000 in
theorem v_X2_hidden (σ : KX) (h : okX σ) : vc_X2_hidden σ (fun r => r = (hiddenX (xNow σ))) := by
  obtain ⟨n, hn, en⟩ := okS_nq h.1.1
  unfold vc_X2_hidden
  intro T hT
  refine set_up (n := n) (fun q => hiddenBX (xNow σ) (nI q)) (fun j a => T a (nI j)) ?_ (fun j hj a ih => ?_)
  · refine hT _ _ ⟨fun _ => ?_, fun c => absurd (le_nI en) c⟩
    rw [hiddenX, en, nI_clamp (by omega)]
  · refine hT _ _ ⟨fun c => absurd c (nle_nI en (by omega) hj), fun _ => ⟨h, ?_⟩⟩
    rw [nI_1]
    exact ⟨fun d => by simpa [b2i_z.mp d] using ih, fun d => by simpa [b2i_ne.mp d] using ih⟩
