set_option maxRecDepth 20000 in
set_option maxHeartbeats 2000000 in
theorem v_X0_becomes_30_4 (σ : K3) (h : zC (nTrial σ) ∧ zC (nNow σ)) : vc_X0_becomes_30_4 σ (fun u => u = (((nNow σ), (nTaken σ), (nNow σ)))) := by
  unfold vc_X0_becomes_30_4
  have e1 : va_cpy (sForm (cS (nNow σ))) (sForm (cS (nTrial σ))) (0 : Int32).toNatClampNeg (0 : Int32).toNatClampNeg (8 : Int32).toNatClampNeg = sForm (cS (nNow σ)) := cpy_all _ _ 8 (fun k hk => by rw [(h.1.1.1 k hk).1, (h.2.1.1 k hk).1])
  have e2 : va_cpy (sFirst (cS (nNow σ))) (sFirst (cS (nTrial σ))) (0 : Int32).toNatClampNeg (0 : Int32).toNatClampNeg (8 : Int32).toNatClampNeg = sFirst (cS (nNow σ)) := cpy_all _ _ 8 (fun k hk => by rw [(h.1.1.1 k hk).2.1, (h.2.1.1 k hk).2.1])
  have e3 : va_cpy (sSecond (cS (nNow σ))) (sSecond (cS (nTrial σ))) (0 : Int32).toNatClampNeg (0 : Int32).toNatClampNeg (8 : Int32).toNatClampNeg = sSecond (cS (nNow σ)) := cpy_all _ _ 8 (fun k hk => by rw [(h.1.1.1 k hk).2.2, (h.2.1.1 k hk).2.2])
  have e4 : va_cpy (sKind (cS (nNow σ))) (sKind (cS (nTrial σ))) (0 : Int32).toNatClampNeg (0 : Int32).toNatClampNeg (5 : Int32).toNatClampNeg = sKind (cS (nNow σ)) := cpy_all _ _ 5 (fun k hk => by rw [(h.1.1.2.1 k hk).1, (h.2.1.2.1 k hk).1])
  have e5 : va_cpy (sFigure (cS (nNow σ))) (sFigure (cS (nTrial σ))) (0 : Int32).toNatClampNeg (0 : Int32).toNatClampNeg (5 : Int32).toNatClampNeg = sFigure (cS (nNow σ)) := cpy_all _ _ 5 (fun k hk => by rw [(h.1.1.2.1 k hk).2.1, (h.2.1.2.1 k hk).2.1])
  have e6 : va_cpy (sKnows (cS (nNow σ))) (sKnows (cS (nTrial σ))) (0 : Int32).toNatClampNeg (0 : Int32).toNatClampNeg (5 : Int32).toNatClampNeg = sKnows (cS (nNow σ)) := cpy_all _ _ 5 (fun k hk => by rw [(h.1.1.2.1 k hk).2.2, (h.2.1.2.1 k hk).2.2])
  have e7 : va_cpy (sWhom (cS (nNow σ))) (sWhom (cS (nTrial σ))) (0 : Int32).toNatClampNeg (0 : Int32).toNatClampNeg (12 : Int32).toNatClampNeg = sWhom (cS (nNow σ)) := cpy_all _ _ 12 (fun k hk => by rw [(h.1.1.2.2 k hk).1, (h.2.1.2.2 k hk).1])
  have e8 : va_cpy (sWhat (cS (nNow σ))) (sWhat (cS (nTrial σ))) (0 : Int32).toNatClampNeg (0 : Int32).toNatClampNeg (12 : Int32).toNatClampNeg = sWhat (cS (nNow σ)) := cpy_all _ _ 12 (fun k hk => by rw [(h.1.1.2.2 k hk).2.1, (h.2.1.2.2 k hk).2.1])
  have e9 : va_cpy (sSaid (cS (nNow σ))) (sSaid (cS (nTrial σ))) (0 : Int32).toNatClampNeg (0 : Int32).toNatClampNeg (12 : Int32).toNatClampNeg = sSaid (cS (nNow σ)) := cpy_all _ _ 12 (fun k hk => by rw [(h.1.1.2.2 k hk).2.2.1, (h.2.1.2.2 k hk).2.2.1])
  have e10 : va_cpy (sWhen (cS (nNow σ))) (sWhen (cS (nTrial σ))) (0 : Int32).toNatClampNeg (0 : Int32).toNatClampNeg (12 : Int32).toNatClampNeg = sWhen (cS (nNow σ)) := cpy_all _ _ 12 (fun k hk => by rw [(h.1.1.2.2 k hk).2.2.2, (h.2.1.2.2 k hk).2.2.2])
  have e11 : va_cpy (cNeeded (nNow σ)) (cNeeded (nTrial σ)) (0 : Int32).toNatClampNeg (0 : Int32).toNatClampNeg (8 : Int32).toNatClampNeg = cNeeded (nNow σ) := cpy_all _ _ 8 (fun k hk => by rw [(h.1.2 k hk).1, (h.2.2 k hk).1])
  have e12 : va_cpy (cTruth (nNow σ)) (cTruth (nTrial σ)) (0 : Int32).toNatClampNeg (0 : Int32).toNatClampNeg (8 : Int32).toNatClampNeg = cTruth (nNow σ) := cpy_all _ _ 8 (fun k hk => by rw [(h.1.2 k hk).2, (h.2.2 k hk).2])
  rw [e1, e2, e3, e4, e5, e6, e7, e8, e9, e10, e11, e12]
set_option maxRecDepth 20000 in
set_option maxHeartbeats 2000000 in
theorem v_X0_becomes_4_30 (σ : K3) (h : zC (nNow σ) ∧ zC (nTrial σ)) : vc_X0_becomes_4_30 σ (fun u => u = (((nTrial σ), (nTaken σ), (nTrial σ)))) := by
  unfold vc_X0_becomes_4_30
  have e1 : va_cpy (sForm (cS (nTrial σ))) (sForm (cS (nNow σ))) (0 : Int32).toNatClampNeg (0 : Int32).toNatClampNeg (8 : Int32).toNatClampNeg = sForm (cS (nTrial σ)) := cpy_all _ _ 8 (fun k hk => by rw [(h.1.1.1 k hk).1, (h.2.1.1 k hk).1])
  have e2 : va_cpy (sFirst (cS (nTrial σ))) (sFirst (cS (nNow σ))) (0 : Int32).toNatClampNeg (0 : Int32).toNatClampNeg (8 : Int32).toNatClampNeg = sFirst (cS (nTrial σ)) := cpy_all _ _ 8 (fun k hk => by rw [(h.1.1.1 k hk).2.1, (h.2.1.1 k hk).2.1])
  have e3 : va_cpy (sSecond (cS (nTrial σ))) (sSecond (cS (nNow σ))) (0 : Int32).toNatClampNeg (0 : Int32).toNatClampNeg (8 : Int32).toNatClampNeg = sSecond (cS (nTrial σ)) := cpy_all _ _ 8 (fun k hk => by rw [(h.1.1.1 k hk).2.2, (h.2.1.1 k hk).2.2])
  have e4 : va_cpy (sKind (cS (nTrial σ))) (sKind (cS (nNow σ))) (0 : Int32).toNatClampNeg (0 : Int32).toNatClampNeg (5 : Int32).toNatClampNeg = sKind (cS (nTrial σ)) := cpy_all _ _ 5 (fun k hk => by rw [(h.1.1.2.1 k hk).1, (h.2.1.2.1 k hk).1])
  have e5 : va_cpy (sFigure (cS (nTrial σ))) (sFigure (cS (nNow σ))) (0 : Int32).toNatClampNeg (0 : Int32).toNatClampNeg (5 : Int32).toNatClampNeg = sFigure (cS (nTrial σ)) := cpy_all _ _ 5 (fun k hk => by rw [(h.1.1.2.1 k hk).2.1, (h.2.1.2.1 k hk).2.1])
  have e6 : va_cpy (sKnows (cS (nTrial σ))) (sKnows (cS (nNow σ))) (0 : Int32).toNatClampNeg (0 : Int32).toNatClampNeg (5 : Int32).toNatClampNeg = sKnows (cS (nTrial σ)) := cpy_all _ _ 5 (fun k hk => by rw [(h.1.1.2.1 k hk).2.2, (h.2.1.2.1 k hk).2.2])
  have e7 : va_cpy (sWhom (cS (nTrial σ))) (sWhom (cS (nNow σ))) (0 : Int32).toNatClampNeg (0 : Int32).toNatClampNeg (12 : Int32).toNatClampNeg = sWhom (cS (nTrial σ)) := cpy_all _ _ 12 (fun k hk => by rw [(h.1.1.2.2 k hk).1, (h.2.1.2.2 k hk).1])
  have e8 : va_cpy (sWhat (cS (nTrial σ))) (sWhat (cS (nNow σ))) (0 : Int32).toNatClampNeg (0 : Int32).toNatClampNeg (12 : Int32).toNatClampNeg = sWhat (cS (nTrial σ)) := cpy_all _ _ 12 (fun k hk => by rw [(h.1.1.2.2 k hk).2.1, (h.2.1.2.2 k hk).2.1])
  have e9 : va_cpy (sSaid (cS (nTrial σ))) (sSaid (cS (nNow σ))) (0 : Int32).toNatClampNeg (0 : Int32).toNatClampNeg (12 : Int32).toNatClampNeg = sSaid (cS (nTrial σ)) := cpy_all _ _ 12 (fun k hk => by rw [(h.1.1.2.2 k hk).2.2.1, (h.2.1.2.2 k hk).2.2.1])
  have e10 : va_cpy (sWhen (cS (nTrial σ))) (sWhen (cS (nNow σ))) (0 : Int32).toNatClampNeg (0 : Int32).toNatClampNeg (12 : Int32).toNatClampNeg = sWhen (cS (nTrial σ)) := cpy_all _ _ 12 (fun k hk => by rw [(h.1.1.2.2 k hk).2.2.2, (h.2.1.2.2 k hk).2.2.2])
  have e11 : va_cpy (cNeeded (nTrial σ)) (cNeeded (nNow σ)) (0 : Int32).toNatClampNeg (0 : Int32).toNatClampNeg (8 : Int32).toNatClampNeg = cNeeded (nTrial σ) := cpy_all _ _ 8 (fun k hk => by rw [(h.1.2 k hk).1, (h.2.2 k hk).1])
  have e12 : va_cpy (cTruth (nTrial σ)) (cTruth (nNow σ)) (0 : Int32).toNatClampNeg (0 : Int32).toNatClampNeg (8 : Int32).toNatClampNeg = cTruth (nTrial σ) := cpy_all _ _ 8 (fun k hk => by rw [(h.1.2 k hk).2, (h.2.2 k hk).2])
  rw [e1, e2, e3, e4, e5, e6, e7, e8, e9, e10, e11, e12]
set_option maxRecDepth 20000 in
set_option maxHeartbeats 2000000 in
theorem v_X0_becomes_17_4 (σ : K3) (h : zC (nTaken σ) ∧ zC (nNow σ)) : vc_X0_becomes_17_4 σ (fun u => u = (((nNow σ), (nNow σ), (nTrial σ)))) := by
  unfold vc_X0_becomes_17_4
  have e1 : va_cpy (sForm (cS (nNow σ))) (sForm (cS (nTaken σ))) (0 : Int32).toNatClampNeg (0 : Int32).toNatClampNeg (8 : Int32).toNatClampNeg = sForm (cS (nNow σ)) := cpy_all _ _ 8 (fun k hk => by rw [(h.1.1.1 k hk).1, (h.2.1.1 k hk).1])
  have e2 : va_cpy (sFirst (cS (nNow σ))) (sFirst (cS (nTaken σ))) (0 : Int32).toNatClampNeg (0 : Int32).toNatClampNeg (8 : Int32).toNatClampNeg = sFirst (cS (nNow σ)) := cpy_all _ _ 8 (fun k hk => by rw [(h.1.1.1 k hk).2.1, (h.2.1.1 k hk).2.1])
  have e3 : va_cpy (sSecond (cS (nNow σ))) (sSecond (cS (nTaken σ))) (0 : Int32).toNatClampNeg (0 : Int32).toNatClampNeg (8 : Int32).toNatClampNeg = sSecond (cS (nNow σ)) := cpy_all _ _ 8 (fun k hk => by rw [(h.1.1.1 k hk).2.2, (h.2.1.1 k hk).2.2])
  have e4 : va_cpy (sKind (cS (nNow σ))) (sKind (cS (nTaken σ))) (0 : Int32).toNatClampNeg (0 : Int32).toNatClampNeg (5 : Int32).toNatClampNeg = sKind (cS (nNow σ)) := cpy_all _ _ 5 (fun k hk => by rw [(h.1.1.2.1 k hk).1, (h.2.1.2.1 k hk).1])
  have e5 : va_cpy (sFigure (cS (nNow σ))) (sFigure (cS (nTaken σ))) (0 : Int32).toNatClampNeg (0 : Int32).toNatClampNeg (5 : Int32).toNatClampNeg = sFigure (cS (nNow σ)) := cpy_all _ _ 5 (fun k hk => by rw [(h.1.1.2.1 k hk).2.1, (h.2.1.2.1 k hk).2.1])
  have e6 : va_cpy (sKnows (cS (nNow σ))) (sKnows (cS (nTaken σ))) (0 : Int32).toNatClampNeg (0 : Int32).toNatClampNeg (5 : Int32).toNatClampNeg = sKnows (cS (nNow σ)) := cpy_all _ _ 5 (fun k hk => by rw [(h.1.1.2.1 k hk).2.2, (h.2.1.2.1 k hk).2.2])
  have e7 : va_cpy (sWhom (cS (nNow σ))) (sWhom (cS (nTaken σ))) (0 : Int32).toNatClampNeg (0 : Int32).toNatClampNeg (12 : Int32).toNatClampNeg = sWhom (cS (nNow σ)) := cpy_all _ _ 12 (fun k hk => by rw [(h.1.1.2.2 k hk).1, (h.2.1.2.2 k hk).1])
  have e8 : va_cpy (sWhat (cS (nNow σ))) (sWhat (cS (nTaken σ))) (0 : Int32).toNatClampNeg (0 : Int32).toNatClampNeg (12 : Int32).toNatClampNeg = sWhat (cS (nNow σ)) := cpy_all _ _ 12 (fun k hk => by rw [(h.1.1.2.2 k hk).2.1, (h.2.1.2.2 k hk).2.1])
  have e9 : va_cpy (sSaid (cS (nNow σ))) (sSaid (cS (nTaken σ))) (0 : Int32).toNatClampNeg (0 : Int32).toNatClampNeg (12 : Int32).toNatClampNeg = sSaid (cS (nNow σ)) := cpy_all _ _ 12 (fun k hk => by rw [(h.1.1.2.2 k hk).2.2.1, (h.2.1.2.2 k hk).2.2.1])
  have e10 : va_cpy (sWhen (cS (nNow σ))) (sWhen (cS (nTaken σ))) (0 : Int32).toNatClampNeg (0 : Int32).toNatClampNeg (12 : Int32).toNatClampNeg = sWhen (cS (nNow σ)) := cpy_all _ _ 12 (fun k hk => by rw [(h.1.1.2.2 k hk).2.2.2, (h.2.1.2.2 k hk).2.2.2])
  have e11 : va_cpy (cNeeded (nNow σ)) (cNeeded (nTaken σ)) (0 : Int32).toNatClampNeg (0 : Int32).toNatClampNeg (8 : Int32).toNatClampNeg = cNeeded (nNow σ) := cpy_all _ _ 8 (fun k hk => by rw [(h.1.2 k hk).1, (h.2.2 k hk).1])
  have e12 : va_cpy (cTruth (nNow σ)) (cTruth (nTaken σ)) (0 : Int32).toNatClampNeg (0 : Int32).toNatClampNeg (8 : Int32).toNatClampNeg = cTruth (nNow σ) := cpy_all _ _ 8 (fun k hk => by rw [(h.1.2 k hk).2, (h.2.2 k hk).2])
  rw [e1, e2, e3, e4, e5, e6, e7, e8, e9, e10, e11, e12]
set_option maxRecDepth 20000 in
set_option maxHeartbeats 2000000 in
theorem v_X0_becomes_4_17 (σ : K3) (h : zC (nNow σ) ∧ zC (nTaken σ)) : vc_X0_becomes_4_17 σ (fun u => u = (((nTaken σ), (nTaken σ), (nTrial σ)))) := by
  unfold vc_X0_becomes_4_17
  have e1 : va_cpy (sForm (cS (nTaken σ))) (sForm (cS (nNow σ))) (0 : Int32).toNatClampNeg (0 : Int32).toNatClampNeg (8 : Int32).toNatClampNeg = sForm (cS (nTaken σ)) := cpy_all _ _ 8 (fun k hk => by rw [(h.1.1.1 k hk).1, (h.2.1.1 k hk).1])
  have e2 : va_cpy (sFirst (cS (nTaken σ))) (sFirst (cS (nNow σ))) (0 : Int32).toNatClampNeg (0 : Int32).toNatClampNeg (8 : Int32).toNatClampNeg = sFirst (cS (nTaken σ)) := cpy_all _ _ 8 (fun k hk => by rw [(h.1.1.1 k hk).2.1, (h.2.1.1 k hk).2.1])
  have e3 : va_cpy (sSecond (cS (nTaken σ))) (sSecond (cS (nNow σ))) (0 : Int32).toNatClampNeg (0 : Int32).toNatClampNeg (8 : Int32).toNatClampNeg = sSecond (cS (nTaken σ)) := cpy_all _ _ 8 (fun k hk => by rw [(h.1.1.1 k hk).2.2, (h.2.1.1 k hk).2.2])
  have e4 : va_cpy (sKind (cS (nTaken σ))) (sKind (cS (nNow σ))) (0 : Int32).toNatClampNeg (0 : Int32).toNatClampNeg (5 : Int32).toNatClampNeg = sKind (cS (nTaken σ)) := cpy_all _ _ 5 (fun k hk => by rw [(h.1.1.2.1 k hk).1, (h.2.1.2.1 k hk).1])
  have e5 : va_cpy (sFigure (cS (nTaken σ))) (sFigure (cS (nNow σ))) (0 : Int32).toNatClampNeg (0 : Int32).toNatClampNeg (5 : Int32).toNatClampNeg = sFigure (cS (nTaken σ)) := cpy_all _ _ 5 (fun k hk => by rw [(h.1.1.2.1 k hk).2.1, (h.2.1.2.1 k hk).2.1])
  have e6 : va_cpy (sKnows (cS (nTaken σ))) (sKnows (cS (nNow σ))) (0 : Int32).toNatClampNeg (0 : Int32).toNatClampNeg (5 : Int32).toNatClampNeg = sKnows (cS (nTaken σ)) := cpy_all _ _ 5 (fun k hk => by rw [(h.1.1.2.1 k hk).2.2, (h.2.1.2.1 k hk).2.2])
  have e7 : va_cpy (sWhom (cS (nTaken σ))) (sWhom (cS (nNow σ))) (0 : Int32).toNatClampNeg (0 : Int32).toNatClampNeg (12 : Int32).toNatClampNeg = sWhom (cS (nTaken σ)) := cpy_all _ _ 12 (fun k hk => by rw [(h.1.1.2.2 k hk).1, (h.2.1.2.2 k hk).1])
  have e8 : va_cpy (sWhat (cS (nTaken σ))) (sWhat (cS (nNow σ))) (0 : Int32).toNatClampNeg (0 : Int32).toNatClampNeg (12 : Int32).toNatClampNeg = sWhat (cS (nTaken σ)) := cpy_all _ _ 12 (fun k hk => by rw [(h.1.1.2.2 k hk).2.1, (h.2.1.2.2 k hk).2.1])
  have e9 : va_cpy (sSaid (cS (nTaken σ))) (sSaid (cS (nNow σ))) (0 : Int32).toNatClampNeg (0 : Int32).toNatClampNeg (12 : Int32).toNatClampNeg = sSaid (cS (nTaken σ)) := cpy_all _ _ 12 (fun k hk => by rw [(h.1.1.2.2 k hk).2.2.1, (h.2.1.2.2 k hk).2.2.1])
  have e10 : va_cpy (sWhen (cS (nTaken σ))) (sWhen (cS (nNow σ))) (0 : Int32).toNatClampNeg (0 : Int32).toNatClampNeg (12 : Int32).toNatClampNeg = sWhen (cS (nTaken σ)) := cpy_all _ _ 12 (fun k hk => by rw [(h.1.1.2.2 k hk).2.2.2, (h.2.1.2.2 k hk).2.2.2])
  have e11 : va_cpy (cNeeded (nTaken σ)) (cNeeded (nNow σ)) (0 : Int32).toNatClampNeg (0 : Int32).toNatClampNeg (8 : Int32).toNatClampNeg = cNeeded (nTaken σ) := cpy_all _ _ 8 (fun k hk => by rw [(h.1.2 k hk).1, (h.2.2 k hk).1])
  have e12 : va_cpy (cTruth (nTaken σ)) (cTruth (nNow σ)) (0 : Int32).toNatClampNeg (0 : Int32).toNatClampNeg (8 : Int32).toNatClampNeg = cTruth (nTaken σ) := cpy_all _ _ 8 (fun k hk => by rw [(h.1.2 k hk).2, (h.2.2 k hk).2])
  rw [e1, e2, e3, e4, e5, e6, e7, e8, e9, e10, e11, e12]
set_option maxRecDepth 20000 in
set_option maxHeartbeats 2000000 in
theorem v_X0_dropFirstHeard (σ : KC) : vc_X0_dropFirstHeard σ (fun u => u = (((mkS (sCase (cS σ)) (sAsked (cS σ)) (sNq (cS σ)) (sNw (cS σ)) 11 (sForm (cS σ)) (sFirst (cS σ)) (sSecond (cS σ)) (sKind (cS σ)) (sFigure (cS σ)) (sKnows (cS σ)) (dropF (sWhom (cS σ))) (dropF (sWhat (cS σ))) (dropF (sSaid (cS σ))) (dropF (sWhen (cS σ)))), (cNeeded σ), (cTruth σ)))) := by
  have e : ∀ f : FI, va_cpy f f (1 : Int32).toNatClampNeg (0 : Int32).toNatClampNeg (11 : Int32).toNatClampNeg = dropF f := cpy_drop
  unfold vc_X0_dropFirstHeard
  rw [e, e, e, e]
set_option maxRecDepth 20000 in
set_option maxHeartbeats 2000000 in
theorem v_X0_ask (σ : KC) (p0 : Int32) (p1 : Int32) (h : okC σ ∧ inW (cS σ) p0 ∧ inQ (cS σ) p1 ∧ sAsked (cS σ) < 5000) : vc_X0_ask σ p0 p1 (fun r u => (r = (askV (cS σ) p0 p1) ∧ u = (((askS (cS σ) p0 p1), (cNeeded σ), (cTruth σ))))) := by
  obtain ⟨hC, hW, hQ, ha⟩ := h
  obtain ⟨n, hn, en⟩ := okS_nh hC.1
  have hm : okC (mkS (sCase (cS σ)) (sAsked (cS σ) + 1) (sNq (cS σ)) (sNw (cS σ)) (sNh (cS σ)) (sForm (cS σ)) (sFirst (cS σ)) (sSecond (cS σ)) (sKind (cS σ)) (sFigure (cS σ)) (sKnows (cS σ)) (sWhom (cS σ)) (sWhat (cS σ)) (sSaid (cS σ)) (sWhen (cS σ)), cNeeded σ, cTruth σ) := ⟨okS_mid hC.1 ha hC.1.2.2.2.2.1 (fun k hk hk2 => hC.1.2.2.2.2.2.2.2 k hk hk2), hC.2⟩
  have e := (reply_case hm hW hQ (sAsked (cS σ) + 1)).trans (show _ = askV (cS σ) p0 p1 from rfl)
  simp only [mkS] at e
  unfold vc_X0_ask
  refine ⟨hm, fun c => ?_, fun c => ?_⟩
  · have hv : vp_in (sNh (cS σ)) 12 := vin_lt (N := 12) (by decide) hC.1.2.2.2.2.1.1 c
    have c2 : ¬ sNh (cS σ) = 12 := fun q => by rw [q] at c; exact absurd c (by decide)
    refine ⟨hv, hv, hv, hv, e, ?_⟩
    unfold askS shF shN
    rw [if_neg c2, if_neg c2, if_neg c2, if_neg c2, if_neg c2, ← e]
  · have c2 : sNh (cS σ) = 12 := Int32.le_antisymm hC.1.2.2.2.2.1.2 (Int32.not_lt.mp c)
    have hv : vp_in 11 12 := vin (k := 11) (n := 12) (by decide)
    refine ⟨hv, hv, hv, hv, e, ?_⟩
    unfold askS shF shN
    rw [if_pos c2, if_pos c2, if_pos c2, if_pos c2, if_pos c2, ← e]
    rfl
set_option maxRecDepth 20000 in
set_option maxHeartbeats 2000000 in
theorem v_X0_flipFact (σ : KC) (p0 : Int32) : vc_X0_flipFact σ p0 (fun r u => (r = (isFactI p0) ∧ u = (((if isFactI p0 = 0 then cS σ else sSetCase (cS σ) (sCase (cS σ) ^^^ (1 <<< (p0 &&& 31)))), (cNeeded σ), (cTruth σ))))) := by
  unfold vc_X0_flipFact sSetCase
  have hb : ∀ z : Bool, ¬ b2i z = 0 → b2i z = 1 := by decide
  have h1 := hb (decide (0 ≤ p0) && decide (p0 < 6))
  have h2 : ¬ isFactI p0 = 0 → isFactI p0 = 1 := h1
  grind
set_option maxRecDepth 20000 in
set_option maxHeartbeats 2000000 in
theorem v_X0_addQuestion (σ : KC) (p0 : Int32) (p1 : Int32) (p2 : Int32) (h : okS (cS σ)) : vc_X0_addQuestion σ p0 p1 p2 (fun r u => (r = (b2i (qOkB (cS σ) p0 p1 p2)) ∧ u = (if qOkB (cS σ) p0 p1 p2 then addQC σ p0 p1 p2 else σ))) := by
  have hv : sNq (cS σ) < 8 → vp_in (sNq (cS σ)) 8 := fun c => vin_lt (N := 8) (by decide) h.2.2.1.1 c
  clear h
  unfold vc_X0_addQuestion qOkB addQC addQ sSetQ neededI mkS
  grind (splits := 40) [b2i]
set_option maxRecDepth 20000 in
set_option maxHeartbeats 2000000 in
theorem v_X0_addWitness (σ : KC) (p0 : Int32) (p1 : Int32) (p2 : Int32) (h : okS (cS σ)) : vc_X0_addWitness σ p0 p1 p2 (fun r u => (r = (b2i (wOkB (cS σ) p0 p1 p2)) ∧ u = (((if wOkB (cS σ) p0 p1 p2 then addW (cS σ) p0 p1 p2 else cS σ), (cNeeded σ), (cTruth σ))))) := by
  have hv : sNw (cS σ) < 5 → vp_in (sNw (cS σ)) 5 := fun c => vin_lt (N := 5) (by decide) h.2.2.2.1.1 c
  clear h
  unfold vc_X0_addWitness wOkB addW sSetW mkS
  grind (splits := 40) [b2i]
set_option maxRecDepth 20000 in
set_option maxHeartbeats 2000000 in
theorem v_X0_flipKnown (σ : KC) (p0 : Int32) (p1 : Int32) : vc_X0_flipKnown σ p0 p1 (fun r u => (r = (flipKI (cS σ) p0 p1) ∧ u = (((if flipKI (cS σ) p0 p1 = 0 then cS σ else sSetKnows (cS σ) (upd (sKnows (cS σ)) p0.toNatClampNeg (sKnows (cS σ) p0.toNatClampNeg ^^^ (1 <<< (p1 &&& 31))))), (cNeeded σ), (cTruth σ))))) := by
  have h1 := @vinW (cS σ) p0
  unfold vc_X0_flipKnown flipKI sSetKnows mkS
  grind (splits := 40)
set_option maxRecDepth 20000 in
set_option maxHeartbeats 2000000 in
theorem v_X1_add (σ : KZ) (p0 : Int32) (h : 0 ≤ zLen σ ∧ zLen σ ≤ 96) : vc_X1_add σ p0 (fun u => u = (if zLen σ < 96 then (zLen σ + 1, upd (zText σ) (zLen σ).toNatClampNeg (vp_nar .char p0)) else σ)) := by
  have h1 : zLen σ < 96 → vp_in (zLen σ) 96 := fun c => vin_lt (N := 96) (by decide) h.1 c
  unfold vc_X1_add
  grind
set_option maxRecDepth 20000 in
set_option maxHeartbeats 2000000 in
theorem v_X2_sizeOrLeast (p0 : Int64) (p1 : Int32) : vc_X2_sizeOrLeast p0 p1 (fun r => r = (sizeOrLeastI p0 p1)) := by
  unfold vc_X2_sizeOrLeast sizeOrLeastI
  simp only [cmp_z]
  grind
set_option maxRecDepth 20000 in
set_option maxHeartbeats 2000000 in
theorem v_X2_commonDivisor (p0 : Int32) (p1 : Int32) (h : 0 < p0 ∧ 0 < p1) : vc_X2_commonDivisor p0 p1 (fun r => r = (gcdI p0 p1)) := by
  obtain ⟨a, ha, rfl⟩ := nI_of (Int32.not_lt.mpr (Int32.le_of_lt h.1))
  obtain ⟨b, hb, rfl⟩ := nI_of (Int32.not_lt.mpr (Int32.le_of_lt h.2))
  have ha0 : 0 < a := (nI_ltI (a := 0) (by decide) ha).mp h.1
  unfold vc_X2_commonDivisor
  intro T hT
  have eg : gcdI (nI a) (nI b) = nI (Nat.gcd a b) := by unfold gcdI; rw [nI_clamp ha, nI_clamp hb]
  have g1 : 0 < Nat.gcd a b := Nat.gcd_pos_of_pos_left b ha0
  have g2 : Nat.gcd a b ≤ a := Nat.gcd_le_left b ha0
  rw [eg] at hT
  have key : ∀ (k y x i : Nat), y < 2 ^ k → x < 2 ^ 31 → y < 2 ^ 31 → 0 < x → Nat.gcd x y = Nat.gcd a b → i + 2 * k ≤ 100 → T (nI x) (nI y) (nI i) := by
    have fin : ∀ (x i : Nat), x < 2 ^ 31 → 0 < x → i ≤ 100 → Nat.gcd x 0 = Nat.gcd a b → T (nI x) (nI 0) (nI i) := by
      intro x i hx hx0 hi e
      rw [Nat.gcd_zero_right] at e
      have hend : ∀ r : Int32, ((nI x ≤ 0 → (fun r => r = nI (Nat.gcd a b)) 1) ∧ (¬ nI x ≤ 0 → (fun r => r = nI (Nat.gcd a b)) (nI x))) := fun _ => ⟨fun c => absurd c (nI_nle hx0 hx), fun _ => by show _ = _; rw [e]⟩
      exact hT _ _ _ ⟨fun _ => hend 0, fun _ => ⟨fun _ => hend 0, fun c => absurd (by decide) c⟩⟩
    intro k
    induction k with
    | zero =>
      intro y x i hy hx _ hx0 e hi
      obtain rfl : y = 0 := by omega
      exact fin x i hx hx0 (by omega) e
    | succ k ih =>
      intro y x i hy hx hy2 hx0 e hi
      rcases Nat.eq_zero_or_pos y with rfl | hy0
      · exact fin x i hx hx0 (by omega) e
      · have step : ∀ (x y i : Nat), x < 2 ^ 31 → y < 2 ^ 31 → 0 < y → i < 100 → T (nI y) (nI (x % y)) (nI (i + 1)) → T (nI x) (nI y) (nI i) := by
          intro x y i hx hy hy0 hi h1
          refine hT _ _ _ ⟨fun c => absurd c (nle_nI (N := 100) (n := 100) (by decide) (by decide) hi), fun _ => ⟨fun c => absurd c (nI_nle hy0 hy), fun _ => ⟨nI_ne0 hy0 hy, ?_⟩⟩⟩
          rw [pk_rem hx hy0 hy, nI_1]; exact h1
        have m1 := Nat.mod_lt x hy0
        have e1 : Nat.gcd y (x % y) = Nat.gcd a b := by rw [← e, Nat.gcd_comm x y, Nat.gcd_rec y x, Nat.gcd_comm]
        refine step x y i hx hy2 hy0 (by omega) ?_
        rcases Nat.eq_zero_or_pos (x % y) with z | z
        · rw [z] at e1 ⊢
          exact fin y (i + 1) hy2 hy0 (by omega) e1
        · have m2 := Nat.mod_lt y z
          have m3 := mod_half z (show x % y ≤ y by omega)
          refine step y (x % y) (i + 1) hy2 (by omega) z (by omega) ?_
          exact ih (y % (x % y)) (x % y) (i + 2) (by rw [Nat.pow_succ] at hy; omega) (by omega) (by omega) z (by rw [← e1, Nat.gcd_comm y (x % y), Nat.gcd_rec (x % y) y, Nat.gcd_comm]) (by omega)
  exact key 31 b a 0 hb ha hb ha0 rfl (by decide)
set_option maxRecDepth 20000 in
set_option maxHeartbeats 2000000 in
theorem v_X2_inLeastTerms (p0 : Int32) (p1 : Int32) (p2 : Int32) : vc_X2_inLeastTerms p0 p1 p2 (fun r => r = (leastTermsL p0 p1 p2)) := by
  have hg : 0 < p0 → 0 < p1 → ¬ gcdI p0 p1 = 0 := by
    intro h0 h1
    obtain ⟨a, ha, rfl⟩ := nI_of (Int32.not_lt.mpr (Int32.le_of_lt h0))
    obtain ⟨b, hb, rfl⟩ := nI_of (Int32.not_lt.mpr (Int32.le_of_lt h1))
    have ha0 : 0 < a := (nI_ltI (a := 0) (by decide) ha).mp h0
    unfold gcdI
    rw [nI_clamp ha, nI_clamp hb]
    have g2 : Nat.gcd a b ≤ a := Nat.gcd_le_left b ha0
    exact nI_ne0 (Nat.gcd_pos_of_pos_left b ha0) (by omega)
  unfold vc_X2_inLeastTerms leastTermsL
  grind (splits := 30)
set_option maxRecDepth 20000 in
set_option maxHeartbeats 2000000 in
theorem v_X2_drawOn (p0 : Int32) : vc_X2_drawOn p0 (fun r => r = (drawOnI p0)) := by
  unfold vc_X2_drawOn drawOnI
  intro z1 e1 z2 e2
  subst e1 e2
  rfl
set_option maxRecDepth 20000 in
set_option maxHeartbeats 2000000 in
theorem v_X2_drawBelow (p0 : Int32) (p1 : Int32) : vc_X2_drawBelow p0 p1 (fun r => r = (drawBelowI p0 p1)) := by
  unfold vc_X2_drawBelow drawBelowI
  refine ⟨fun c => by rw [if_neg (Int32.not_lt.mpr c)], fun c => ?_⟩
  intro z e
  subst e
  have h0 : 0 < p1 := Int32.not_le.mp c
  exact ⟨fun q => by rw [q] at h0; exact absurd h0 (by decide), by rw [if_pos h0]⟩
set_option maxRecDepth 20000 in
set_option maxHeartbeats 2000000 in
theorem v_X2_refused (σ : KX) (p0 : Int32) (h : p0 < 0 ∧ -6 ≤ p0) : vc_X2_refused σ p0 (fun r u => (r = (p0) ∧ u = (((xNow σ), (xTaken σ), (xTrial σ), (xScr σ), (xRow σ), (refuX (xRefus σ) p0), (xKept σ), (xRowLen σ), (xIsTaken σ))))) := by
  unfold vc_X2_refused
  have h1 := neg_vin h
  have h2 := h.2
  have h3 : -6 ≤ p0 := h2
  unfold refuX
  grind
set_option maxRecDepth 20000 in
set_option maxHeartbeats 2000000 in
theorem v_X2_longRefused (σ : KX) (p0 : Int32) (h : p0 < 0 ∧ -6 ≤ p0) : vc_X2_longRefused σ p0 (fun r u => (r = (4000000000000000000 - p0.toInt64) ∧ u = (((xNow σ), (xTaken σ), (xTrial σ), (xScr σ), (xRow σ), (refuX (xRefus σ) p0), (xKept σ), (xRowLen σ), (xIsTaken σ))))) := by
  unfold vc_X2_longRefused
  exact ⟨h, rfl, rfl⟩
set_option maxRecDepth 20000 in
set_option maxHeartbeats 2000000 in
theorem v_X2_worstLeft (σ : KX) (p0 : Int64) (p1 : Int32) (p2 : Int32) (h : okX σ) : vc_X2_worstLeft σ p0 p1 p2 (fun r => r = (worstX (xNow σ) p0 p1 p2)) := by
  unfold vc_X2_worstLeft
  intro T hT
  have st : ∀ (x : Int32) (j : Nat), j < 3 → T (jmax x (popc (p0 &&& sayingL (xNow σ) p1 p2 (sAsked (cS (xNow σ)) + 1) (nI j)))) (nI (j + 1)) → T x (nI j) := by
    intro x j hj hT2
    refine hT _ _ ⟨fun c => absurd c (nle_nI (N := 3) (n := 3) (by decide) (by decide) hj), fun _ => ⟨h.1, ?_⟩⟩
    rw [nI_1]; exact hT2
  exact st 0 0 (by decide) (st _ 1 (by decide) (st _ 2 (by decide) (hT _ _ ⟨fun _ => rfl, fun c => absurd (by decide) c⟩)))
set_option maxRecDepth 20000 in
set_option maxHeartbeats 2000000 in
theorem v_X2_bestAsking (σ : KX) (p0 : Int32) (h : okX σ) : vc_X2_bestAsking σ p0 (fun r => r = (if p0 = 0 then (bestX (xNow σ) (fittingL (xNow σ))).1 else (bestX (xNow σ) (fittingL (xNow σ))).2)) := by
  obtain ⟨nw, hnw, enw⟩ := okS_nw h.1.1
  obtain ⟨nq, hnq, enq⟩ := okS_nq h.1.1
  unfold vc_X2_bestAsking
  intro T19 T34 h19 h34
  refine ⟨h.1, ?_⟩
  refine fold_up (n := nw) (fun w b => foldN (fun q b => bestStepX (xNow σ) (fittingL (xNow σ)) (nI w) (nI q) b) (sNq (cS (xNow σ))).toNatClampNeg b) ((-9, -9) : Int32 × Int32) (fun j b => T19 (fittingL (xNow σ)) b.1 b.2 (nI j)) ?_ (fun w hw b ih => ?_)
  · refine h19 _ _ _ _ ⟨fun _ => ?_, fun d => absurd (le_nI enw) d⟩
    have e : bestX (xNow σ) (fittingL (xNow σ)) = foldN (fun w b => foldN (fun q b => bestStepX (xNow σ) (fittingL (xNow σ)) (nI w) (nI q) b) (sNq (cS (xNow σ))).toNatClampNeg b) nw ((-9, -9) : Int32 × Int32) := by unfold bestX; rw [enw, nI_clamp (by omega)]
    rw [e]
    exact ⟨fun d => by rw [if_neg d], fun d => by rw [if_pos d]⟩
  · refine h19 _ _ _ _ ⟨fun d => absurd d (nle_nI enw (by omega) hw), fun _ => ?_⟩
    rw [enq, nI_clamp (by omega)] at ih
    refine fold_up (n := nq) (fun q b => bestStepX (xNow σ) (fittingL (xNow σ)) (nI w) (nI q) b) b (fun j b => T34 (fittingL (xNow σ)) b.1 b.2 (nI w) (nI j)) ?_ (fun q hq b ih2 => ?_)
    · refine h34 _ _ _ _ _ ⟨fun _ => ?_, fun d => absurd (le_nI enq) d⟩
      rw [nI_1]; exact ih
    · refine h34 _ _ _ _ _ ⟨fun d => absurd d (nle_nI enq (by omega) hq), fun _ => ⟨h, ?_⟩⟩
      rw [nI_1]
      unfold bestStepX at ih2
      refine ⟨fun e => by rw [if_pos (Or.inl e)] at ih2; exact ih2, fun e => ⟨fun f => ?_, fun f => ?_⟩⟩
      · rw [if_neg] at ih2
        · exact ih2
        · rintro (z | z)
          · exact e z
          · exact absurd z (Int32.not_lt.mpr f)
      · rw [if_pos (Or.inr (Int32.not_le.mp f))] at ih2; exact ih2
set_option maxRecDepth 20000 in
set_option maxHeartbeats 2000000 in
theorem v_X2_fillKept (σ : KX) (p0 : Int32) (h : okX σ) : vc_X2_fillKept σ p0 (fun u => u = (((xNow σ), (xTaken σ), (xTrial σ), (xScr σ), (xRow σ), (xRefus σ), (keptX (xNow σ) p0 (xKept σ)), (xRowLen σ), (xIsTaken σ)))) := by
  obtain ⟨n, hn, en⟩ := okS_nq h.1.1
  have ec : (sNq (cS (xNow σ))).toNatClampNeg = n := by rw [en, nI_clamp (by omega)]
  unfold vc_X2_fillKept
  intro T2 T9 h2 h9
  have row : ∀ j, j < 4 → T2 (nI (j + 1)) (fun k => if k < 8 * (j + 1) ∧ k % 8 < n then keepingL (xNow σ) p0 (nI (k % 8)) (sAsked (cS (xNow σ)) + 1 + nI (k / 8)) else xKept σ k) → T2 (nI j) (fun k => if k < 8 * j ∧ k % 8 < n then keepingL (xNow σ) p0 (nI (k % 8)) (sAsked (cS (xNow σ)) + 1 + nI (k / 8)) else xKept σ k) := by
    intro j hj hT
    refine h2 _ _ ⟨fun c => absurd c (nle_nI (N := 4) (n := 4) (by decide) (by decide) hj), fun _ => ?_⟩
    refine upN n (fun i => T9 (nI j) (nI i) (fun k => if k < 8 * j + i ∧ k % 8 < n then keepingL (xNow σ) p0 (nI (k % 8)) (sAsked (cS (xNow σ)) + 1 + nI (k / 8)) else xKept σ k)) ?_ (fun i hi ih => ?_) 0 (Nat.zero_le _)
    · refine h9 _ _ _ ⟨fun _ => ?_, fun c => absurd (le_nI en) c⟩
      rw [nI_1]
      have e : (fun k => if k < 8 * j + n ∧ k % 8 < n then keepingL (xNow σ) p0 (nI (k % 8)) (sAsked (cS (xNow σ)) + 1 + nI (k / 8)) else xKept σ k) = (fun k => if k < 8 * (j + 1) ∧ k % 8 < n then keepingL (xNow σ) p0 (nI (k % 8)) (sAsked (cS (xNow σ)) + 1 + nI (k / 8)) else xKept σ k) := by
        funext k
        have : (k < 8 * j + n ∧ k % 8 < n) ↔ (k < 8 * (j + 1) ∧ k % 8 < n) := by omega
        simp only [this]
      rw [e]; exact hT
    · have e1 : nI j * 8 + nI i = nI (8 * j + i) := by rw [show (8 : Int32) = nI 8 from rfl, pk_mul, nI_add, Nat.mul_comm]
      refine h9 _ _ _ ⟨fun c => absurd c (nle_nI en (by omega) hi), fun _ => ⟨h.1, ?_⟩⟩
      rw [e1, nI_clamp (by omega), nI_1]
      refine ⟨vin (by omega), ?_⟩
      have e2 := kj_step (g := fun k => keepingL (xNow σ) p0 (nI (k % 8)) (sAsked (cS (xNow σ)) + 1 + nI (k / 8))) (old := xKept σ) (nq := n) (m := 8 * j + i) (by omega)
      have e3 : (8 * j + i) % 8 = i := by omega
      have e4 : (8 * j + i) / 8 = j := by omega
      simp only [e3, e4] at e2
      rw [e2]
      exact ih
  have e0 : (fun k => if k < 8 * 0 ∧ k % 8 < n then keepingL (xNow σ) p0 (nI (k % 8)) (sAsked (cS (xNow σ)) + 1 + nI (k / 8)) else xKept σ k) = xKept σ := by funext k; rw [if_neg (by omega)]
  have e4 : keptX (xNow σ) p0 (xKept σ) = (fun k => if k < 8 * 4 ∧ k % 8 < n then keepingL (xNow σ) p0 (nI (k % 8)) (sAsked (cS (xNow σ)) + 1 + nI (k / 8)) else xKept σ k) := by unfold keptX; rw [ec]
  have r0 := row 0 (by decide) (row 1 (by decide) (row 2 (by decide) (row 3 (by decide) (by
    refine h2 _ _ ⟨fun _ => ?_, fun c => absurd (by decide) c⟩
    rw [e4]))))
  rw [e0] at r0
  exact r0
set_option maxRecDepth 20000 in
set_option maxHeartbeats 2000000 in
theorem v_X2_waysSure_0 (σ : FL) (p1 : Int32) (p2 : Int64) (p3 : Int64) (p4 : Int32) (p5 : Int32) (h : 0 ≤ p1 ∧ p1 ≤ 8 ∧ 0 ≤ p4 ∧ p4 ≤ p5 ∧ p5 ≤ 4 ∧ p5 - p4 ≤ 0) : vc_X2_waysSure_0 σ p1 p2 p3 p4 p5 (fun r => r = (waysN σ p1.toNatClampNeg p3 (p5 - p4).toNatClampNeg p4.toNatClampNeg p2)) := by
  obtain ⟨q0, q1, a0, a1, a2, a3⟩ := h
  obtain ⟨q, hq, rfl⟩ := nI_up (M := 8) (n := 8) (by decide) ⟨q0, q1⟩
  obtain ⟨b, hb, rfl⟩ := nI_up (M := 4) (n := 4) (by decide) ⟨Int32.le_trans a0 a1, a2⟩
  obtain ⟨a, ha, rfl⟩ := le_of_nI a0 a1 (by omega)
  rw [pk_sub ha] at a3 ⊢
  have hd : b - a ≤ 0 := (nI_leI (b := 0) (by omega) (by decide)).mp a3
  rw [nI_clamp (show q < 2 ^ 31 by omega), nI_clamp (show b - a < 2 ^ 31 by omega), nI_clamp (show a < 2 ^ 31 by omega)]
  have hend : b = a → ((isSureI p2 p3 = 0 → (0 : Int32) = waysN σ q p3 (b - a) a p2) ∧ (¬ isSureI p2 p3 = 0 → (1 : Int32) = waysN σ q p3 (b - a) a p2)) := by
    intro e
    rw [show b - a = 0 by omega, waysN]
    have hs : isSureI p2 p3 = 0 ∨ isSureI p2 p3 = 1 := by unfold isSureI b2i; split; exact Or.inr rfl; exact Or.inl rfl
    exact ⟨fun z => z.symm, fun z => (hs.resolve_left z).symm⟩
  unfold vc_X2_waysSure_0
  intro T hT
  refine ⟨fun c => ?_, fun c => ?_⟩
  · have e : b = a := by have := (nI_leI (by omega) (by omega)).mp c; omega
    exact hend e
  · exact absurd (nI_le (show b ≤ a by omega) (by omega)) c
set_option maxRecDepth 20000 in
set_option maxHeartbeats 2000000 in
theorem v_X2_waysSure_1 (σ : FL) (p1 : Int32) (p2 : Int64) (p3 : Int64) (p4 : Int32) (p5 : Int32) (h : 0 ≤ p1 ∧ p1 ≤ 8 ∧ 0 ≤ p4 ∧ p4 ≤ p5 ∧ p5 ≤ 4 ∧ p5 - p4 ≤ 1) : vc_X2_waysSure_1 σ p1 p2 p3 p4 p5 (fun r => r = (waysN σ p1.toNatClampNeg p3 (p5 - p4).toNatClampNeg p4.toNatClampNeg p2)) := by
  obtain ⟨q0, q1, a0, a1, a2, a3⟩ := h
  obtain ⟨q, hq, rfl⟩ := nI_up (M := 8) (n := 8) (by decide) ⟨q0, q1⟩
  obtain ⟨b, hb, rfl⟩ := nI_up (M := 4) (n := 4) (by decide) ⟨Int32.le_trans a0 a1, a2⟩
  obtain ⟨a, ha, rfl⟩ := le_of_nI a0 a1 (by omega)
  rw [pk_sub ha] at a3 ⊢
  have hd : b - a ≤ 1 := (nI_leI (b := 1) (by omega) (by decide)).mp a3
  rw [nI_clamp (show q < 2 ^ 31 by omega), nI_clamp (show b - a < 2 ^ 31 by omega), nI_clamp (show a < 2 ^ 31 by omega)]
  have hend : b = a → ((isSureI p2 p3 = 0 → (0 : Int32) = waysN σ q p3 (b - a) a p2) ∧ (¬ isSureI p2 p3 = 0 → (1 : Int32) = waysN σ q p3 (b - a) a p2)) := by
    intro e
    rw [show b - a = 0 by omega, waysN]
    have hs : isSureI p2 p3 = 0 ∨ isSureI p2 p3 = 1 := by unfold isSureI b2i; split; exact Or.inr rfl; exact Or.inl rfl
    exact ⟨fun z => z.symm, fun z => (hs.resolve_left z).symm⟩
  unfold vc_X2_waysSure_1
  intro T hT
  refine ⟨fun c => ?_, fun c => ?_⟩
  · have e : b = a := by have := (nI_leI (by omega) (by omega)).mp c; omega
    exact hend e
  · have hab : a < b := Nat.lt_of_not_le (fun z => c (nI_le z (by omega)))
    refine ⟨fun _ => ?_, fun d => absurd (nI_lt (b := 4) (show a < 4 by omega) (by decide)) d⟩
    obtain ⟨dd, hdd⟩ : ∃ dd, b - a = dd + 1 := ⟨b - a - 1, by omega⟩
    refine sum_up (n := q) (fun i => waysN σ q p3 dd (a + 1) (p2 &&& σ (a * 8 + i))) (fun j x => T x (nI j)) ?_ (fun j hj x ih => ?_)
    · refine hT _ _ ⟨fun _ => ?_, fun c => absurd (Int32.le_refl _) c⟩
      rw [hdd, waysN]
    · have e1 : nI a * 8 + nI j = nI (a * 8 + j) := by rw [show (8 : Int32) = nI 8 from rfl, pk_mul, nI_add]
      refine hT _ _ ⟨fun c => absurd c (nI_ge hj (by omega)), fun _ => ?_⟩
      rw [e1, nI_1, nI_1, pk_sub (show a + 1 ≤ b by omega)]
      refine ⟨vin (by omega), ⟨q0, q1, nI_pos' (by omega), nI_le (by omega) (by omega), a2, nI_le (b := 0) (by omega) (by decide)⟩, ?_⟩
      rw [nI_clamp (show q < 2 ^ 31 by omega), nI_clamp (show b - (a + 1) < 2 ^ 31 by omega), nI_clamp (show a + 1 < 2 ^ 31 by omega), nI_clamp (show a * 8 + j < 2 ^ 31 by omega), show b - (a + 1) = dd by omega]
      exact ih
set_option maxRecDepth 20000 in
set_option maxHeartbeats 2000000 in
theorem v_X2_waysSure_2 (σ : FL) (p1 : Int32) (p2 : Int64) (p3 : Int64) (p4 : Int32) (p5 : Int32) (h : 0 ≤ p1 ∧ p1 ≤ 8 ∧ 0 ≤ p4 ∧ p4 ≤ p5 ∧ p5 ≤ 4 ∧ p5 - p4 ≤ 2) : vc_X2_waysSure_2 σ p1 p2 p3 p4 p5 (fun r => r = (waysN σ p1.toNatClampNeg p3 (p5 - p4).toNatClampNeg p4.toNatClampNeg p2)) := by
  obtain ⟨q0, q1, a0, a1, a2, a3⟩ := h
  obtain ⟨q, hq, rfl⟩ := nI_up (M := 8) (n := 8) (by decide) ⟨q0, q1⟩
  obtain ⟨b, hb, rfl⟩ := nI_up (M := 4) (n := 4) (by decide) ⟨Int32.le_trans a0 a1, a2⟩
  obtain ⟨a, ha, rfl⟩ := le_of_nI a0 a1 (by omega)
  rw [pk_sub ha] at a3 ⊢
  have hd : b - a ≤ 2 := (nI_leI (b := 2) (by omega) (by decide)).mp a3
  rw [nI_clamp (show q < 2 ^ 31 by omega), nI_clamp (show b - a < 2 ^ 31 by omega), nI_clamp (show a < 2 ^ 31 by omega)]
  have hend : b = a → ((isSureI p2 p3 = 0 → (0 : Int32) = waysN σ q p3 (b - a) a p2) ∧ (¬ isSureI p2 p3 = 0 → (1 : Int32) = waysN σ q p3 (b - a) a p2)) := by
    intro e
    rw [show b - a = 0 by omega, waysN]
    have hs : isSureI p2 p3 = 0 ∨ isSureI p2 p3 = 1 := by unfold isSureI b2i; split; exact Or.inr rfl; exact Or.inl rfl
    exact ⟨fun z => z.symm, fun z => (hs.resolve_left z).symm⟩
  unfold vc_X2_waysSure_2
  intro T hT
  refine ⟨fun c => ?_, fun c => ?_⟩
  · have e : b = a := by have := (nI_leI (by omega) (by omega)).mp c; omega
    exact hend e
  · have hab : a < b := Nat.lt_of_not_le (fun z => c (nI_le z (by omega)))
    refine ⟨fun _ => ?_, fun d => absurd (nI_lt (b := 4) (show a < 4 by omega) (by decide)) d⟩
    obtain ⟨dd, hdd⟩ : ∃ dd, b - a = dd + 1 := ⟨b - a - 1, by omega⟩
    refine sum_up (n := q) (fun i => waysN σ q p3 dd (a + 1) (p2 &&& σ (a * 8 + i))) (fun j x => T x (nI j)) ?_ (fun j hj x ih => ?_)
    · refine hT _ _ ⟨fun _ => ?_, fun c => absurd (Int32.le_refl _) c⟩
      rw [hdd, waysN]
    · have e1 : nI a * 8 + nI j = nI (a * 8 + j) := by rw [show (8 : Int32) = nI 8 from rfl, pk_mul, nI_add]
      refine hT _ _ ⟨fun c => absurd c (nI_ge hj (by omega)), fun _ => ?_⟩
      rw [e1, nI_1, nI_1, pk_sub (show a + 1 ≤ b by omega)]
      refine ⟨vin (by omega), ⟨q0, q1, nI_pos' (by omega), nI_le (by omega) (by omega), a2, nI_le (b := 1) (by omega) (by decide)⟩, ?_⟩
      rw [nI_clamp (show q < 2 ^ 31 by omega), nI_clamp (show b - (a + 1) < 2 ^ 31 by omega), nI_clamp (show a + 1 < 2 ^ 31 by omega), nI_clamp (show a * 8 + j < 2 ^ 31 by omega), show b - (a + 1) = dd by omega]
      exact ih
set_option maxRecDepth 20000 in
set_option maxHeartbeats 2000000 in
theorem v_X2_waysSure_3 (σ : FL) (p1 : Int32) (p2 : Int64) (p3 : Int64) (p4 : Int32) (p5 : Int32) (h : 0 ≤ p1 ∧ p1 ≤ 8 ∧ 0 ≤ p4 ∧ p4 ≤ p5 ∧ p5 ≤ 4 ∧ p5 - p4 ≤ 3) : vc_X2_waysSure_3 σ p1 p2 p3 p4 p5 (fun r => r = (waysN σ p1.toNatClampNeg p3 (p5 - p4).toNatClampNeg p4.toNatClampNeg p2)) := by
  obtain ⟨q0, q1, a0, a1, a2, a3⟩ := h
  obtain ⟨q, hq, rfl⟩ := nI_up (M := 8) (n := 8) (by decide) ⟨q0, q1⟩
  obtain ⟨b, hb, rfl⟩ := nI_up (M := 4) (n := 4) (by decide) ⟨Int32.le_trans a0 a1, a2⟩
  obtain ⟨a, ha, rfl⟩ := le_of_nI a0 a1 (by omega)
  rw [pk_sub ha] at a3 ⊢
  have hd : b - a ≤ 3 := (nI_leI (b := 3) (by omega) (by decide)).mp a3
  rw [nI_clamp (show q < 2 ^ 31 by omega), nI_clamp (show b - a < 2 ^ 31 by omega), nI_clamp (show a < 2 ^ 31 by omega)]
  have hend : b = a → ((isSureI p2 p3 = 0 → (0 : Int32) = waysN σ q p3 (b - a) a p2) ∧ (¬ isSureI p2 p3 = 0 → (1 : Int32) = waysN σ q p3 (b - a) a p2)) := by
    intro e
    rw [show b - a = 0 by omega, waysN]
    have hs : isSureI p2 p3 = 0 ∨ isSureI p2 p3 = 1 := by unfold isSureI b2i; split; exact Or.inr rfl; exact Or.inl rfl
    exact ⟨fun z => z.symm, fun z => (hs.resolve_left z).symm⟩
  unfold vc_X2_waysSure_3
  intro T hT
  refine ⟨fun c => ?_, fun c => ?_⟩
  · have e : b = a := by have := (nI_leI (by omega) (by omega)).mp c; omega
    exact hend e
  · have hab : a < b := Nat.lt_of_not_le (fun z => c (nI_le z (by omega)))
    refine ⟨fun _ => ?_, fun d => absurd (nI_lt (b := 4) (show a < 4 by omega) (by decide)) d⟩
    obtain ⟨dd, hdd⟩ : ∃ dd, b - a = dd + 1 := ⟨b - a - 1, by omega⟩
    refine sum_up (n := q) (fun i => waysN σ q p3 dd (a + 1) (p2 &&& σ (a * 8 + i))) (fun j x => T x (nI j)) ?_ (fun j hj x ih => ?_)
    · refine hT _ _ ⟨fun _ => ?_, fun c => absurd (Int32.le_refl _) c⟩
      rw [hdd, waysN]
    · have e1 : nI a * 8 + nI j = nI (a * 8 + j) := by rw [show (8 : Int32) = nI 8 from rfl, pk_mul, nI_add]
      refine hT _ _ ⟨fun c => absurd c (nI_ge hj (by omega)), fun _ => ?_⟩
      rw [e1, nI_1, nI_1, pk_sub (show a + 1 ≤ b by omega)]
      refine ⟨vin (by omega), ⟨q0, q1, nI_pos' (by omega), nI_le (by omega) (by omega), a2, nI_le (b := 2) (by omega) (by decide)⟩, ?_⟩
      rw [nI_clamp (show q < 2 ^ 31 by omega), nI_clamp (show b - (a + 1) < 2 ^ 31 by omega), nI_clamp (show a + 1 < 2 ^ 31 by omega), nI_clamp (show a * 8 + j < 2 ^ 31 by omega), show b - (a + 1) = dd by omega]
      exact ih
set_option maxRecDepth 20000 in
set_option maxHeartbeats 2000000 in
theorem v_X2_waysSure_4 (σ : FL) (p1 : Int32) (p2 : Int64) (p3 : Int64) (p4 : Int32) (p5 : Int32) (h : 0 ≤ p1 ∧ p1 ≤ 8 ∧ 0 ≤ p4 ∧ p4 ≤ p5 ∧ p5 ≤ 4 ∧ p5 - p4 ≤ 4) : vc_X2_waysSure_4 σ p1 p2 p3 p4 p5 (fun r => r = (waysN σ p1.toNatClampNeg p3 (p5 - p4).toNatClampNeg p4.toNatClampNeg p2)) := by
  obtain ⟨q0, q1, a0, a1, a2, a3⟩ := h
  obtain ⟨q, hq, rfl⟩ := nI_up (M := 8) (n := 8) (by decide) ⟨q0, q1⟩
  obtain ⟨b, hb, rfl⟩ := nI_up (M := 4) (n := 4) (by decide) ⟨Int32.le_trans a0 a1, a2⟩
  obtain ⟨a, ha, rfl⟩ := le_of_nI a0 a1 (by omega)
  rw [pk_sub ha] at a3 ⊢
  have hd : b - a ≤ 4 := (nI_leI (b := 4) (by omega) (by decide)).mp a3
  rw [nI_clamp (show q < 2 ^ 31 by omega), nI_clamp (show b - a < 2 ^ 31 by omega), nI_clamp (show a < 2 ^ 31 by omega)]
  have hend : b = a → ((isSureI p2 p3 = 0 → (0 : Int32) = waysN σ q p3 (b - a) a p2) ∧ (¬ isSureI p2 p3 = 0 → (1 : Int32) = waysN σ q p3 (b - a) a p2)) := by
    intro e
    rw [show b - a = 0 by omega, waysN]
    have hs : isSureI p2 p3 = 0 ∨ isSureI p2 p3 = 1 := by unfold isSureI b2i; split; exact Or.inr rfl; exact Or.inl rfl
    exact ⟨fun z => z.symm, fun z => (hs.resolve_left z).symm⟩
  unfold vc_X2_waysSure_4
  intro T hT
  refine ⟨fun c => ?_, fun c => ?_⟩
  · have e : b = a := by have := (nI_leI (by omega) (by omega)).mp c; omega
    exact hend e
  · have hab : a < b := Nat.lt_of_not_le (fun z => c (nI_le z (by omega)))
    refine ⟨fun _ => ?_, fun d => absurd (nI_lt (b := 4) (show a < 4 by omega) (by decide)) d⟩
    obtain ⟨dd, hdd⟩ : ∃ dd, b - a = dd + 1 := ⟨b - a - 1, by omega⟩
    refine sum_up (n := q) (fun i => waysN σ q p3 dd (a + 1) (p2 &&& σ (a * 8 + i))) (fun j x => T x (nI j)) ?_ (fun j hj x ih => ?_)
    · refine hT _ _ ⟨fun _ => ?_, fun c => absurd (Int32.le_refl _) c⟩
      rw [hdd, waysN]
    · have e1 : nI a * 8 + nI j = nI (a * 8 + j) := by rw [show (8 : Int32) = nI 8 from rfl, pk_mul, nI_add]
      refine hT _ _ ⟨fun c => absurd c (nI_ge hj (by omega)), fun _ => ?_⟩
      rw [e1, nI_1, nI_1, pk_sub (show a + 1 ≤ b by omega)]
      refine ⟨vin (by omega), ⟨q0, q1, nI_pos' (by omega), nI_le (by omega) (by omega), a2, nI_le (b := 3) (by omega) (by decide)⟩, ?_⟩
      rw [nI_clamp (show q < 2 ^ 31 by omega), nI_clamp (show b - (a + 1) < 2 ^ 31 by omega), nI_clamp (show a + 1 < 2 ^ 31 by omega), nI_clamp (show a * 8 + j < 2 ^ 31 by omega), show b - (a + 1) = dd by omega]
      exact ih
set_option maxRecDepth 20000 in
set_option maxHeartbeats 2000000 in
theorem v_X2_settling (σ : KX) (p0 : Int32) (p1 : Int64) (p2 : Int32) (h : okX σ) : vc_X2_settling σ p0 p1 p2 (fun r u => ∃ (ex_kept : FL), (r = (settleX (xNow σ) p0 p1 p2) ∧ u = (((xNow σ), (xTaken σ), (xTrial σ), (xScr σ), (xRow σ), (xRefus σ), (ex_kept), (xRowLen σ), (xIsTaken σ))))) := by
  obtain ⟨n, hn, en⟩ := okS_nq h.1.1
  have ec : (sNq (cS (xNow σ))).toNatClampNeg = n := by rw [en, nI_clamp (by omega)]
  have hq8 : 0 ≤ sNq (cS (xNow σ)) ∧ sNq (cS (xNow σ)) ≤ 8 := h.1.1.2.2.1
  unfold vc_X2_settling
  intro T38 T47 h38 h47
  refine ⟨h.1, fun z => ⟨h, ?_⟩, fun z => ?_⟩
  · have hV : settleX (xNow σ) p0 p1 p2 = settleFromX (keptX (xNow σ) p0 (xKept σ)) n (fittingL (xNow σ)) p1 p2 3 1 := by
      unfold settleX
      rw [if_pos z, ec]
      exact settle_congr hn _ _ _ (kept_congr ec _ _) 3 1 (by decide) (by decide)
    rw [hV] at h38 h47
    have key : ∀ d len, 1 ≤ len → len + d = 4 → settleFromX (keptX (xNow σ) p0 (xKept σ)) n (fittingL (xNow σ)) p1 p2 d len = settleFromX (keptX (xNow σ) p0 (xKept σ)) n (fittingL (xNow σ)) p1 p2 3 1 → T38 (fittingL (xNow σ)) (nI len) (keptX (xNow σ) p0 (xKept σ)) := by
      intro d
      induction d with
      | zero =>
        intro len h1 h2 e
        obtain rfl : len = 4 := by omega
        exact h38 _ _ _ ⟨fun _ => ⟨_, e, rfl⟩, fun c => absurd (by decide) c⟩
      | succ d ih =>
        intro len h1 h2 e
        rw [settleFromX] at e
        have hl4 : 1 ≤ nI len ∧ nI len ≤ 4 := ⟨nI_le (a := 1) h1 (by omega), nI_le (b := 4) (by omega) (by decide)⟩
        have e1 : nI len - 1 = nI (len - 1) := by rw [show (1 : Int32) = nI 1 from rfl, pk_sub h1]
        refine h38 _ _ _ ⟨fun c => absurd c (nI_nlt (a := 3) (by omega) (by decide)), fun _ => ?_⟩
        refine first_loop (n := n) (fun q => decide (0 < waysN (keptX (xNow σ) p0 (xKept σ)) n p1 (len - 1) 1 (fittingL (xNow σ) &&& keptX (xNow σ) p0 (xKept σ) q))) (fun j => T47 (fittingL (xNow σ)) (nI len) (nI j) (keptX (xNow σ) p0 (xKept σ))) (fun o => (match o with | some q => if p2 = 0 then nI len else nI q | none => settleFromX (keptX (xNow σ) p0 (xKept σ)) n (fittingL (xNow σ)) p1 p2 d (len + 1)) = settleFromX (keptX (xNow σ) p0 (xKept σ)) n (fittingL (xNow σ)) p1 p2 3 1) 0 (fun g => ?_) (fun j _ hj g1 g0 => ?_) e
        · refine h47 _ _ _ _ ⟨fun _ => ?_, fun c => absurd (by rw [Nat.zero_add]; exact le_nI en) c⟩
          rw [nI_1]; exact ih (len + 1) (by omega) (by omega) g
        · refine h47 _ _ _ _ ⟨fun c => absurd c (nle_nI en (by omega) (by omega)), fun _ => ⟨vin (by omega), ⟨hq8.1, hq8.2, by decide, hl4.1, hl4.2, ?_⟩, ?_⟩⟩
          · rw [e1]; exact nI_le (b := 4) (by omega) (by decide)
          · rw [e1, nI_clamp (show len - 1 < 2 ^ 31 by omega), nI_clamp (show j < 2 ^ 31 by omega), ec, nI_1, show (1 : Int32).toNatClampNeg = 1 from by decide]
            refine ⟨fun r => g1 (by simp [Int32.not_lt.mpr r]), fun r => ?_⟩
            have r2 := g0 (by simp [Int32.not_le.mp r])
            exact ⟨fun s => ⟨_, by rw [← r2]; show _ = if p2 = 0 then _ else _; rw [if_neg s], rfl⟩, fun s => ⟨_, by rw [← r2]; show _ = if p2 = 0 then _ else _; rw [if_pos s], rfl⟩⟩
    exact key 3 1 (by decide) (by decide) rfl
  · unfold settleX
    rw [if_neg z]
    exact ⟨fun s => ⟨_, by rw [if_neg s], rfl⟩, fun s => ⟨_, by rw [if_pos s], rfl⟩⟩
set_option maxRecDepth 20000 in
set_option maxHeartbeats 2000000 in
theorem v_X2_isHidden (σ : KX) (p0 : Int32) (h : okX σ) : vc_X2_isHidden σ p0 (fun r => r = (b2i (hiddenBX (xNow σ) p0))) := by
  obtain ⟨n, hn, en⟩ := okS_nw h.1.1
  unfold vc_X2_isHidden
  intro T hT
  refine all_loop (n := n) (fun w => decide (replyI (xNow σ) (nI w) p0 (sAsked (cS (xNow σ)) + 1) (sCase (cS (xNow σ))) = 2)) (fun j => T (nI j)) (fun b => (if b then (1 : Int32) else 0) = b2i (hiddenBX (xNow σ) p0)) (fun q => ?_) (fun j hj h1 h0 => ?_) ?_
  · exact hT _ ⟨fun _ => q, fun c => absurd (le_nI en) c⟩
  · refine hT _ ⟨fun c => absurd c (nle_nI en (by omega) hj), fun _ => ⟨h.1, ?_⟩⟩
    rw [nI_1]
    exact ⟨fun c => h1 (by simp [c]), fun c => h0 (by simp [c])⟩
  · rw [hiddenBX, en, nI_clamp (by omega)]; rfl
set_option maxRecDepth 20000 in
set_option maxHeartbeats 2000000 in
theorem v_X2_samePairs (σ : KX) (p0 : Int32) (h : okX σ) : vc_X2_samePairs σ p0 (fun r => r = (sameX (xNow σ) p0)) := by
  obtain ⟨n, hn, en⟩ := okS_nq h.1.1
  have ec : (sNq (cS (xNow σ))).toNatClampNeg = n := by rw [en, nI_clamp (by omega)]
  unfold vc_X2_samePairs
  simp only [cmp_z]
  intro T8 T26 h8 h26
  have hV : sameX (xNow σ) p0 = if p0 = 0 then (sameFromX (xNow σ) n n 0 (0, -9)).1 else (sameFromX (xNow σ) n n 0 (0, -9)).2 := by unfold sameX; rw [ec]
  have inner : ∀ (a : Nat), a < n → ∀ (d b : Nat) (r : Int32 × Int32), b + d = n → T8 (sameRowX (xNow σ) a d b r).1 (sameRowX (xNow σ) a d b r).2 (nI (a + 1)) → T26 r.1 r.2 (nI a) (nI b) := by
    intro a ha d
    induction d with
    | zero =>
      intro b r hb hT
      obtain rfl : b = n := by omega
      refine h26 _ _ _ _ ⟨fun _ => ?_, fun c => absurd (le_nI en) c⟩
      rw [nI_1]; exact hT
    | succ d ih =>
      intro b r hb hT
      rw [sameRowX] at hT
      have hT2 := ih (b + 1) (sameStepX (xNow σ) a b r) (by omega) hT
      refine h26 _ _ _ _ ⟨fun c => absurd c (nle_nI en (by omega) (by omega)), fun _ => ?_⟩
      rw [nI_1]
      unfold sameStepX at hT2
      refine ⟨fun e => by rw [if_neg e] at hT2; exact hT2, fun e => ?_⟩
      rw [if_pos e] at hT2
      exact ⟨fun s => by rw [if_neg s] at hT2; exact hT2, fun s => by rw [if_pos s] at hT2; exact hT2⟩
  have key : ∀ (d a : Nat) (r : Int32 × Int32), a + d = n → sameFromX (xNow σ) n d a r = sameFromX (xNow σ) n n 0 (0, -9) → T8 r.1 r.2 (nI a) := by
    intro d
    induction d with
    | zero =>
      intro a r ha e
      obtain rfl : a = n := by omega
      rw [sameFromX] at e
      refine h8 _ _ _ ⟨fun _ => ?_, fun c => absurd (le_nI en) c⟩
      rw [hV, ← e]
      exact ⟨fun s => by rw [if_neg s], fun s => by rw [if_pos s]⟩
    | succ d ih =>
      intro a r ha e
      rw [sameFromX] at e
      refine h8 _ _ _ ⟨fun c => absurd c (nle_nI en (by omega) (by omega)), fun _ => ?_⟩
      rw [nI_1]
      exact inner a (by omega) (n - (a + 1)) (a + 1) r (by omega) (ih (a + 1) _ (by omega) e)
  exact key n 0 (0, -9) (by omega) rfl
set_option maxRecDepth 20000 in
set_option maxHeartbeats 2000000 in
theorem v_X2_leftBehind (σ : KX) (p0 : Int64) (p1 : Int32) (p2 : Int32) (p3 : Int32) (h : okX σ) : vc_X2_leftBehind σ p0 p1 p2 p3 (fun r => r = (leftBehindX (xNow σ) p0 p1 p2 p3)) := by
  exact ⟨h.1, h.1, rfl⟩
set_option maxRecDepth 20000 in
set_option maxHeartbeats 2000000 in
theorem v_X2_settledPair (σ : KX) (p0 : Int32) (p1 : Int32) (p2 : Int32) (h : okX σ) : vc_X2_settledPair σ p0 p1 p2 (fun r => r = (twoX (xNow σ) p0 p1 p2)) := by
  unfold vc_X2_settledPair
  intro T12 T21 h12 h21
  refine ⟨h.1, ?_⟩
  have hV : twoX (xNow σ) p0 p1 p2 = twoX (xNow σ) p0 p1 p2 := rfl
  have P : ∀ i j, leftBehindX (xNow σ) (fittingL (xNow σ)) p0 (onwardI (cS (xNow σ)) p1 i) (onwardI (cS (xNow σ)) p2 j) = pairX (xNow σ) p0 p1 p2 i j := fun _ _ => rfl
  have stp : ∀ (i j i2 j2 : Int32) (v : Int32), ¬ (2 : Int32) ≤ j → 1 - i = i2 → 1 - j = j2 → 10 * i + j = v → ((pairX (xNow σ) p0 p1 p2 i2 j ≤ pairX (xNow σ) p0 p1 p2 i j ∧ pairX (xNow σ) p0 p1 p2 i j ≤ pairX (xNow σ) p0 p1 p2 i j2) → v = twoX (xNow σ) p0 p1 p2) → (¬ (pairX (xNow σ) p0 p1 p2 i2 j ≤ pairX (xNow σ) p0 p1 p2 i j ∧ pairX (xNow σ) p0 p1 p2 i j ≤ pairX (xNow σ) p0 p1 p2 i j2) → T21 (fittingL (xNow σ)) i (j + 1)) → T21 (fittingL (xNow σ)) i j := by
    intro i j i2 j2 v hj e1 e2 e3 hy hn
    refine h21 _ _ _ ⟨fun c => absurd c hj, fun _ => ⟨h, h, h, ?_⟩⟩
    rw [e1, e2, e3, P, P, P]
    refine ⟨fun c => hn (fun q => absurd q.1 (Int32.not_le.mpr c)), fun c => ⟨fun d => hn (fun q => absurd q.2 (Int32.not_le.mpr d)), fun d => hy ⟨Int32.not_lt.mp c, Int32.not_lt.mp d⟩⟩⟩
  have row : ∀ i : Int32, T12 (fittingL (xNow σ)) (i + 1) → T21 (fittingL (xNow σ)) i 2 := fun i hT => h21 _ _ _ ⟨fun _ => hT, fun c => absurd (by decide) c⟩
  have unf : twoX (xNow σ) p0 p1 p2 = if pairX (xNow σ) p0 p1 p2 1 0 ≤ pairX (xNow σ) p0 p1 p2 0 0 ∧ pairX (xNow σ) p0 p1 p2 0 0 ≤ pairX (xNow σ) p0 p1 p2 0 1 then 0 else if pairX (xNow σ) p0 p1 p2 1 1 ≤ pairX (xNow σ) p0 p1 p2 0 1 ∧ pairX (xNow σ) p0 p1 p2 0 1 ≤ pairX (xNow σ) p0 p1 p2 0 0 then 1 else if pairX (xNow σ) p0 p1 p2 0 0 ≤ pairX (xNow σ) p0 p1 p2 1 0 ∧ pairX (xNow σ) p0 p1 p2 1 0 ≤ pairX (xNow σ) p0 p1 p2 1 1 then 10 else if pairX (xNow σ) p0 p1 p2 0 1 ≤ pairX (xNow σ) p0 p1 p2 1 1 ∧ pairX (xNow σ) p0 p1 p2 1 1 ≤ pairX (xNow σ) p0 p1 p2 1 0 then 11 else -9 := rfl
  refine h12 _ _ ⟨fun c => absurd c (by decide), fun _ => ?_⟩
  refine stp 0 0 1 1 0 (by decide) (by decide) (by decide) (by decide) (fun q => by rw [unf, if_pos q]) (fun q1 => ?_)
  refine stp 0 1 1 0 1 (by decide) (by decide) (by decide) (by decide) (fun q => by rw [unf, if_neg q1, if_pos q]) (fun q2 => ?_)
  refine row 0 ?_
  refine h12 _ _ ⟨fun c => absurd c (by decide), fun _ => ?_⟩
  refine stp 1 0 0 1 10 (by decide) (by decide) (by decide) (by decide) (fun q => by rw [unf, if_neg q1, if_neg q2, if_pos q]) (fun q3 => ?_)
  refine stp 1 1 0 0 11 (by decide) (by decide) (by decide) (by decide) (fun q => by rw [unf, if_neg q1, if_neg q2, if_neg q3, if_pos q]) (fun q4 => ?_)
  refine row 1 ?_
  exact h12 _ _ ⟨fun _ => by rw [unf, if_neg q1, if_neg q2, if_neg q3, if_neg q4], fun c => absurd (by decide) c⟩
set_option maxRecDepth 20000 in
set_option maxHeartbeats 2000000 in
theorem v_X2_isByRow (σ : KX) (p0 : Int32) (h : okC (xTrial σ) ∧ 0 ≤ xRowLen σ ∧ xRowLen σ ≤ 12) : vc_X2_isByRow σ p0 (fun r => r = (b2i (rowBX (xTrial σ) (xRow σ) (xRowLen σ) p0))) := by
  obtain ⟨hC, r0, r12⟩ := h
  obtain ⟨n, hn, en⟩ := nI_up (M := 12) (n := 12) (by decide) ⟨r0, r12⟩
  unfold vc_X2_isByRow
  intro T hT
  refine all_loop (n := n) (fun q => decide (replyI (xTrial σ) p0 (nI q) (sAsked (cS (xTrial σ)) + 1) (sCase (cS (xTrial σ))) = xRow σ q)) (fun j => T (nI j)) (fun b => (if b then (1 : Int32) else 0) = b2i (rowBX (xTrial σ) (xRow σ) (xRowLen σ) p0)) (fun q => ?_) (fun j hj h1 h0 => ?_) ?_
  · exact hT _ ⟨fun _ => q, fun c => absurd (le_nI en) c⟩
  · refine hT _ ⟨fun c => absurd c (nle_nI en (by omega) hj), fun _ => ⟨hC, vin (by omega), ?_⟩⟩
    rw [nI_clamp (by omega), nI_1]
    exact ⟨fun c => h1 (by simp [c]), fun c => h0 (by simp [c])⟩
  · rw [rowBX, en, nI_clamp (by omega)]; rfl
set_option maxRecDepth 20000 in
set_option maxHeartbeats 2000000 in
theorem v_X2_kindsByRow (σ : KX) (p0 : Int32) (h : okX σ ∧ inW (cS (xNow σ)) p0) : vc_X2_kindsByRow σ p0 (fun r u => ∃ (ex_trial : KC), (zC ex_trial) ∧ (r = (kindsX (xNow σ) (xRow σ) (xRowLen σ) p0) ∧ u = (((xNow σ), (xTaken σ), (ex_trial), (xScr σ), (xRow σ), (xRefus σ), (xKept σ), (xRowLen σ), (xIsTaken σ))))) := by
  have hr := h.1.2.2.2.2.2.1
  have hv := inW_vin h.1.1.1 h.2
  obtain ⟨wn, nw, hwn, hnw, ew, enw⟩ := inW_nat h.1.1.1 h.2
  have ewc : p0.toNatClampNeg = wn := by rw [ew, nI_clamp (by omega)]
  have zset : ∀ v : Int32, zC (kSetKind (xNow σ) p0 v) := fun v => ⟨⟨h.1.2.1.1.1, fun k hk => by
    obtain ⟨z1, z2, z3⟩ := h.1.2.1.1.2.1 k hk
    have hne : ¬ k = p0.toNatClampNeg := by rw [ewc]; omega
    have hz : ∀ f : FI, f k = 0 → upd f p0.toNatClampNeg v k = 0 := fun f hf => by unfold upd; rw [if_neg hne]; exact hf
    exact ⟨hz _ z1, z2, z3⟩, h.1.2.1.1.2.2⟩, h.1.2.1.2⟩
  unfold vc_X2_kindsByRow
  intro T hT
  refine ⟨⟨h.1.2.2.2.1, h.1.2.1⟩, ?_⟩
  refine set_up (n := 6) (fun v => rowBX (kSetKind (xNow σ) p0 (nI v)) (xRow σ) (xRowLen σ) p0) (fun j a => ∀ s : KC, zC s → (∀ v, kSetKind s p0 v = kSetKind (xNow σ) p0 v) → T a (nI j) s) ?_ (fun j hj a ih => ?_) _ h.1.2.1 (fun _ => rfl)
  · intro s hz hs
    exact hT _ _ _ ⟨fun _ => ⟨s, hz, rfl, rfl⟩, fun c => absurd (by decide) c⟩
  · intro s hz hs
    refine hT _ _ _ ⟨fun c => absurd c (nle_nI (N := 6) (n := 6) (by decide) (by decide) hj), fun _ => ⟨hv, ?_⟩⟩
    have es := hs (nI j)
    have hk : okC (kSetKind (xNow σ) p0 (nI j)) := ⟨okS_kind h.1.1.1 h.2 (v := nI j) ⟨nI_pos' (by omega), nI_le (b := 5) (by omega) (by decide)⟩, h.1.1.2⟩
    have hi := ih (kSetKind (xNow σ) p0 (nI j)) (zset _) (fun v => kk_kSetKind _ _ _ _)
    unfold kSetKind at es
    simp only [sSetKind, mkS] at es
    rw [es, nI_1]
    refine ⟨⟨hk, hr.1, hr.2⟩, fun d => ?_, fun d => ?_⟩
    · have d2 : rowBX (kSetKind (xNow σ) p0 (nI j)) (xRow σ) (xRowLen σ) p0 = false := b2i_z.mp d
      have hh : T (a ||| 0) (nI (j + 1)) (kSetKind (xNow σ) p0 (nI j)) := by rw [d2] at hi; exact hi
      have e0 : a ||| 0 = a := by simp
      have e1 : a + 0 = a := by simp
      rw [e0] at hh
      exact hh
    · have d2 : rowBX (kSetKind (xNow σ) p0 (nI j)) (xRow σ) (xRowLen σ) p0 = true := b2i_ne.mp d
      have hh : T (a ||| 1 <<< (nI j &&& 31)) (nI (j + 1)) (kSetKind (xNow σ) p0 (nI j)) := by rw [d2] at hi; exact hi
      exact hh
set_option maxRecDepth 20000 in
set_option maxHeartbeats 2000000 in
theorem v_X2_knownByRow (σ : KX) (p0 : Int32) (h : okX σ ∧ inW (cS (xNow σ)) p0) : vc_X2_knownByRow σ p0 (fun r u => ∃ (ex_trial : KC), (zC ex_trial) ∧ (r = (knownX (xNow σ) (xRow σ) (xRowLen σ) p0) ∧ u = (((xNow σ), (xTaken σ), (ex_trial), (xScr σ), (xRow σ), (xRefus σ), (xKept σ), (xRowLen σ), (xIsTaken σ))))) := by
  have hr := h.1.2.2.2.2.2.1
  have hv := inW_vin h.1.1.1 h.2
  obtain ⟨wn, nw, hwn, hnw, ew, enw⟩ := inW_nat h.1.1.1 h.2
  have ewc : p0.toNatClampNeg = wn := by rw [ew, nI_clamp (by omega)]
  have zset : ∀ v : Int32, zC (kSetKnows (xNow σ) p0 v) := fun v => ⟨⟨h.1.2.1.1.1, fun k hk => by
    obtain ⟨z1, z2, z3⟩ := h.1.2.1.1.2.1 k hk
    have hne : ¬ k = p0.toNatClampNeg := by rw [ewc]; omega
    have hz : ∀ f : FI, f k = 0 → upd f p0.toNatClampNeg v k = 0 := fun f hf => by unfold upd; rw [if_neg hne]; exact hf
    exact ⟨z1, z2, hz _ z3⟩, h.1.2.1.1.2.2⟩, h.1.2.1.2⟩
  unfold vc_X2_knownByRow
  intro T hT
  refine ⟨⟨h.1.2.2.2.1, h.1.2.1⟩, ?_⟩
  refine cnt_up (n := 64) (fun v => rowBX (kSetKnows (xNow σ) p0 (nI v)) (xRow σ) (xRowLen σ) p0) (fun j a => ∀ s : KC, zC s → (∀ v, kSetKnows s p0 v = kSetKnows (xNow σ) p0 v) → T a (nI j) s) ?_ (fun j hj a ih => ?_) _ h.1.2.1 (fun _ => rfl)
  · intro s hz hs
    exact hT _ _ _ ⟨fun _ => ⟨s, hz, rfl, rfl⟩, fun c => absurd (by decide) c⟩
  · intro s hz hs
    refine hT _ _ _ ⟨fun c => absurd c (not_63 hj), fun _ => ⟨hv, ?_⟩⟩
    have es := hs (nI j)
    have hk : okC (kSetKnows (xNow σ) p0 (nI j)) := ⟨okS_knows h.1.1.1 (w := p0) (v := nI j) ⟨nI_pos' (by omega), nI_le (b := 63) (by omega) (by decide)⟩, h.1.1.2⟩
    have hi := ih (kSetKnows (xNow σ) p0 (nI j)) (zset _) (fun v => kk_kSetKnows _ _ _ _)
    unfold kSetKnows at es
    simp only [sSetKnows, mkS] at es
    rw [es, nI_1]
    refine ⟨⟨hk, hr.1, hr.2⟩, fun d => ?_, fun d => ?_⟩
    · have d2 : rowBX (kSetKnows (xNow σ) p0 (nI j)) (xRow σ) (xRowLen σ) p0 = false := b2i_z.mp d
      have hh : T (a + 0) (nI (j + 1)) (kSetKnows (xNow σ) p0 (nI j)) := by rw [d2] at hi; exact hi
      have e0 : a ||| 0 = a := by simp
      have e1 : a + 0 = a := by simp
      rw [e1] at hh
      exact hh
    · have d2 : rowBX (kSetKnows (xNow σ) p0 (nI j)) (xRow σ) (xRowLen σ) p0 = true := b2i_ne.mp d
      have hh : T (a + 1) (nI (j + 1)) (kSetKnows (xNow σ) p0 (nI j)) := by rw [d2] at hi; exact hi
      exact hh
set_option maxRecDepth 20000 in
set_option maxHeartbeats 2000000 in
theorem v_X2_firstWrongInRow (σ : KX) (h : okX σ) : vc_X2_firstWrongInRow σ (fun r => r = (wrongX (cS (xNow σ)) (xRow σ) (xRowLen σ))) := by
  obtain ⟨n, hn, en⟩ := nI_up (M := 12) (n := 12) (by decide) h.2.2.2.2.2.1
  unfold vc_X2_firstWrongInRow
  intro T hT
  refine first_loop (n := n) (fun k => decide (hasPI (cS (xNow σ)) (nI k) = 0) || !decide (sSaid (cS (xNow σ)) k = xRow σ k)) (fun j => T (nI j)) (fun o => (match o with | some k => nI k | none => (-9 : Int32)) = wrongX (cS (xNow σ)) (xRow σ) (xRowLen σ)) 0 (fun q => ?_) (fun j _ hj h1 h0 => ?_) ?_
  · exact hT _ ⟨fun _ => q, fun c => absurd (by rw [Nat.zero_add]; exact le_nI en) c⟩
  · refine hT _ ⟨fun c => absurd c (nle_nI en (by omega) (by omega)), fun _ => ⟨fun c => h0 (by simp [c]), fun c => ?_⟩⟩
    have hv : vp_in (nI j) 12 := vin (by omega)
    rw [nI_clamp (by omega), nI_1]
    exact ⟨hv, hv, fun d => h1 (by simp [c, d]), fun d => h0 (by simp [d])⟩
  · rw [wrongX, en, nI_clamp (by omega)]; rfl
set_option maxRecDepth 20000 in
set_option maxHeartbeats 2000000 in
theorem v_X2_sessions (σ : KX) (p0 : Int32) (p1 : Int32) (p2 : Int32) (h : okX σ ∧ (0 < sNw (cS (xNow σ)) ∧ 0 < sNq (cS (xNow σ))) ∧ 1 ≤ p0 ∧ p0 ≤ 20) : vc_X2_sessions σ p0 p1 p2 (fun r u => ∃ (ex_trial : KC), (zC ex_trial) ∧ (r = (lotsX (xNow σ) p0 p1 p2) ∧ u = (((xNow σ), (xTaken σ), (ex_trial), (xScr σ), (xRow σ), (xRefus σ), (xKept σ), (xRowLen σ), (xIsTaken σ))))) := by
  obtain ⟨hX, ⟨w0, q0⟩, m1, m20⟩ := h
  obtain ⟨nq, hnq, enq⟩ := okS_nq hX.1.1
  obtain ⟨nw, hnw, enw⟩ := okS_nw hX.1.1
  obtain ⟨n, hn, rfl⟩ := nI_up (M := 20) (n := 20) (by decide) ⟨Int32.le_trans (by decide) m1, m20⟩
  have hqp : 0 < nq := by rw [enq] at q0; exact (nI_ltI (a := 0) (by decide) (by omega)).mp q0
  have hwp : 0 < nw := by rw [enw] at w0; exact (nI_ltI (a := 0) (by decide) (by omega)).mp w0
  unfold vc_X2_sessions
  intro T12 T32 h12 h32
  have inv : ∀ (k : Nat) (z y : Int32), k ≤ 6 → okC (sessX (sNw (cS (xNow σ))) (sNq (cS (xNow σ))) k (z, y, xNow σ)).2.2 ∧ zC (sessX (sNw (cS (xNow σ))) (sNq (cS (xNow σ))) k (z, y, xNow σ)).2.2 ∧ sNq (cS (sessX (sNw (cS (xNow σ))) (sNq (cS (xNow σ))) k (z, y, xNow σ)).2.2) = sNq (cS (xNow σ)) ∧ sNw (cS (sessX (sNw (cS (xNow σ))) (sNq (cS (xNow σ))) k (z, y, xNow σ)).2.2) = sNw (cS (xNow σ)) ∧ sAsked (cS (sessX (sNw (cS (xNow σ))) (sNq (cS (xNow σ))) k (z, y, xNow σ)).2.2) = sAsked (cS (xNow σ)) + nI k := by
    intro k
    induction k with
    | zero => intro z y _; exact ⟨hX.1, hX.2.1, rfl, rfl, by show _ = _ + 0; simp [sessX]⟩
    | succ k ih =>
      intro z y hk
      obtain ⟨a1, a2, a3, a4, a5⟩ := ih z y (by omega)
      have hw : inW (cS (sessX (sNw (cS (xNow σ))) (sNq (cS (xNow σ))) k (z, y, xNow σ)).2.2) (drawBelowI (drawOnI (sessX (sNw (cS (xNow σ))) (sNq (cS (xNow σ))) k (z, y, xNow σ)).1) (sNw (cS (xNow σ)))) := by
        obtain ⟨d, hd, e⟩ := draw_nat (drawOnI (sessX (sNw (cS (xNow σ))) (sNq (cS (xNow σ))) k (z, y, xNow σ)).1) hwp (by omega)
        rw [← enw] at e; rw [e]; exact inW_nI (a4.trans enw) hnw hd
      have hq : inQ (cS (sessX (sNw (cS (xNow σ))) (sNq (cS (xNow σ))) k (z, y, xNow σ)).2.2) (drawBelowI (drawOnI (drawOnI (sessX (sNw (cS (xNow σ))) (sNq (cS (xNow σ))) k (z, y, xNow σ)).1)) (sNq (cS (xNow σ)))) := by
        obtain ⟨d, hd, e⟩ := draw_nat (drawOnI (drawOnI (sessX (sNw (cS (xNow σ))) (sNq (cS (xNow σ))) k (z, y, xNow σ)).1)) hqp (by omega)
        rw [← enq] at e; rw [e]; exact inQ_nI (a3.trans enq) hnq hd
      have ha : sAsked (cS (sessX (sNw (cS (xNow σ))) (sNq (cS (xNow σ))) k (z, y, xNow σ)).2.2) < 5000 := by
        rw [a5]
        obtain ⟨x, hx, ex⟩ := le_of_nI (n := 999) hX.1.1.2.1.1 hX.2.2.2.2.2.2 (by decide)
        rw [ex, nI_add]; exact nI_lt (b := 5000) (by omega) (by decide)
      refine ⟨⟨okS_ask a1.1 hw hq ha, a1.2⟩, ⟨zS_ask a1.1 a2.1 _ _, a2.2⟩, a3, a4, ?_⟩
      show sAsked (cS (sessX (sNw (cS (xNow σ))) (sNq (cS (xNow σ))) k (z, y, xNow σ)).2.2) + 1 = _
      rw [a5, Int32.add_assoc, nI_1]
  have askok : ∀ (k : Nat) (z y : Int32), k < 6 → (okC (sessX (sNw (cS (xNow σ))) (sNq (cS (xNow σ))) k (z, y, xNow σ)).2.2 ∧ inW (cS (sessX (sNw (cS (xNow σ))) (sNq (cS (xNow σ))) k (z, y, xNow σ)).2.2) (drawBelowI (drawOnI (sessX (sNw (cS (xNow σ))) (sNq (cS (xNow σ))) k (z, y, xNow σ)).1) (sNw (cS (xNow σ)))) ∧ inQ (cS (sessX (sNw (cS (xNow σ))) (sNq (cS (xNow σ))) k (z, y, xNow σ)).2.2) (drawBelowI (drawOnI (drawOnI (sessX (sNw (cS (xNow σ))) (sNq (cS (xNow σ))) k (z, y, xNow σ)).1)) (sNq (cS (xNow σ)))) ∧ sAsked (cS (sessX (sNw (cS (xNow σ))) (sNq (cS (xNow σ))) k (z, y, xNow σ)).2.2) < 5000) := by
    intro k z y hk
    obtain ⟨a1, a2, a3, a4, a5⟩ := inv k z y (by omega)
    refine ⟨a1, ?_, ?_, ?_⟩
    · obtain ⟨d, hd, e⟩ := draw_nat (drawOnI (sessX (sNw (cS (xNow σ))) (sNq (cS (xNow σ))) k (z, y, xNow σ)).1) hwp (by omega)
      rw [← enw] at e; rw [e]; exact inW_nI (a4.trans enw) hnw hd
    · obtain ⟨d, hd, e⟩ := draw_nat (drawOnI (drawOnI (sessX (sNw (cS (xNow σ))) (sNq (cS (xNow σ))) k (z, y, xNow σ)).1)) hqp (by omega)
      rw [← enq] at e; rw [e]; exact inQ_nI (a3.trans enq) hnq hd
    · rw [a5]
      obtain ⟨x, hx, ex⟩ := le_of_nI (n := 999) hX.1.1.2.1.1 hX.2.2.2.2.2.2 (by decide)
      rw [ex, nI_add]; exact nI_lt (b := 5000) (by omega) (by decide)
  refine upN n (fun i => ∀ t : KC, zC t → T12 (lotsNX (xNow σ) i (p1, 0, 0)).1 (lotsNX (xNow σ) i (p1, 0, 0)).2.1 (lotsNX (xNow σ) i (p1, 0, 0)).2.2 (nI i) t) ?_ (fun i hi ih => ?_) 0 (Nat.zero_le _) _ hX.2.2.2.1
  · intro t hz
    refine h12 _ _ _ _ _ ⟨fun _ => ?_, fun c => absurd (Int32.le_refl _) c⟩
    unfold lotsX
    rw [nI_clamp (show n < 2 ^ 31 by omega)]
    exact ⟨fun s => ⟨t, hz, by simp only [if_neg s], rfl⟩, fun s => ⟨t, hz, by simp only [if_pos s], rfl⟩⟩
  · intro t hz
    refine h12 _ _ _ _ _ ⟨fun c => absurd c (nI_ge hi (by omega)), fun _ => ⟨⟨hz, hX.2.1⟩, ?_⟩⟩
    refine upN 6 (fun k => T32 (sessX (sNw (cS (xNow σ))) (sNq (cS (xNow σ))) k ((lotsNX (xNow σ) i (p1, 0, 0)).1, (lotsNX (xNow σ) i (p1, 0, 0)).2.1, xNow σ)).1 (sessX (sNw (cS (xNow σ))) (sNq (cS (xNow σ))) k ((lotsNX (xNow σ) i (p1, 0, 0)).1, (lotsNX (xNow σ) i (p1, 0, 0)).2.1, xNow σ)).2.1 (lotsNX (xNow σ) i (p1, 0, 0)).2.2 (nI i) (nI k) (sessX (sNw (cS (xNow σ))) (sNq (cS (xNow σ))) k ((lotsNX (xNow σ) i (p1, 0, 0)).1, (lotsNX (xNow σ) i (p1, 0, 0)).2.1, xNow σ)).2.2) ?_ (fun k hk ih2 => ?_) 0 (Nat.zero_le _)
    · obtain ⟨a1, a2, -⟩ := inv 6 (lotsNX (xNow σ) i (p1, 0, 0)).1 (lotsNX (xNow σ) i (p1, 0, 0)).2.1 (by decide)
      refine h32 _ _ _ _ _ _ ⟨fun _ => ⟨a1, ?_⟩, fun c => absurd (by decide) c⟩
      rw [nI_1]
      exact ih _ a2
    · refine h32 _ _ _ _ _ _ ⟨fun c => absurd c (nle_nI (N := 6) (n := 6) (by decide) (by decide) hk), fun _ => ⟨askok k _ _ hk, ?_⟩⟩
      rw [nI_1]
      rw [sessX] at ih2
      refine ⟨fun e => ?_, fun e => ?_⟩
      · simp only [e, decide_false] at ih2
        have e0 : ∀ x : Int32, x + b2i false = x := fun x => by show x + 0 = x; simp
        rw [e0] at ih2
        exact ih2
      · simp only [e, decide_true] at ih2
        exact ih2
set_option maxRecDepth 20000 in
set_option maxHeartbeats 2000000 in
theorem v_X2_letter (σ : KX) (p0 : Int32) (h : okX σ) : vc_X2_letter σ p0 (fun r u => (r = (rsX (whyLetter (zLen (xScr σ)) p0) (zLen (xScr σ) + 1)) ∧ u = (((xNow σ), (xTaken σ), (xTrial σ), (if whyLetter (zLen (xScr σ)) p0 = 0 then (zLen (xScr σ) + 1, upd (zText (xScr σ)) (zLen (xScr σ)).toNatClampNeg p0) else xScr σ), (xRow σ), (rfX (xRefus σ) (whyLetter (zLen (xScr σ)) p0)), (xKept σ), (xRowLen σ), (xIsTaken σ))))) := by
  have n1 : ((-1) : Int32) < 0 ∧ -6 ≤ ((-1) : Int32) := by decide
  have n2 : ((-2) : Int32) < 0 ∧ -6 ≤ ((-2) : Int32) := by decide
  have n3 : ((-3) : Int32) < 0 ∧ -6 ≤ ((-3) : Int32) := by decide
  have n6 : ((-6) : Int32) < 0 ∧ -6 ≤ ((-6) : Int32) := by decide
  have n4 : ((-4) : Int32) < 0 ∧ -6 ≤ ((-4) : Int32) := by decide
  obtain ⟨n, hn, en⟩ := nI_up (M := 96) (n := 96) (by decide) h.2.2.2.2.1
  have hl := h.2.2.2.2.1
  have hc : 0 ≤ p0 → ¬ 255 < p0 → vp_nar .char ((p0.toUInt32 % 65536).toInt32) = p0 := fun a b => char_id ⟨a, Int32.not_lt.mp b⟩
  have h96 : zLen (xScr σ) < 96 ↔ ¬ zLen (xScr σ) = 96 := by
    rw [en]
    constructor
    · intro a b; rw [b] at a; exact absurd a (by decide)
    · intro a
      refine nI_lt (b := 96) ?_ (by decide)
      rcases Nat.lt_or_ge n 96 with q | q
      · exact q
      · exact absurd (by rw [show n = 96 by omega]; rfl) a
  clear h en
  unfold vc_X2_letter whyLetter rsX rfX boundI
  grind (splits := 40)
set_option maxRecDepth 20000 in
set_option maxHeartbeats 2000000 in
theorem v_X2_fact (σ : KX) (p0 : Int32) (h : okX σ) : vc_X2_fact σ p0 (fun r u => (r = (rsX (whyFact p0) ((sCase (cS (xNow σ)) >>> (p0 &&& 31)) &&& 1)) ∧ u = (((xNow σ), (xTaken σ), (xTrial σ), (xScr σ), (xRow σ), (rfX (xRefus σ) (whyFact p0)), (xKept σ), (xRowLen σ), (xIsTaken σ))))) := by
  have n1 : ((-1) : Int32) < 0 ∧ -6 ≤ ((-1) : Int32) := by decide
  have n2 : ((-2) : Int32) < 0 ∧ -6 ≤ ((-2) : Int32) := by decide
  have n3 : ((-3) : Int32) < 0 ∧ -6 ≤ ((-3) : Int32) := by decide
  have n6 : ((-6) : Int32) < 0 ∧ -6 ≤ ((-6) : Int32) := by decide
  unfold vc_X2_fact whyFact rsX rfX; clear h; grind
set_option maxRecDepth 20000 in
set_option maxHeartbeats 2000000 in
theorem v_X2_question (σ : KX) (p0 : Int32) (p1 : Int32) (h : okX σ) : vc_X2_question σ p0 p1 (fun r u => (r = (rsX (whyQuestion (cS (xNow σ)) p0 p1) (questionX (xNow σ) p0 p1)) ∧ u = (((xNow σ), (xTaken σ), (xTrial σ), (xScr σ), (xRow σ), (rfX (xRefus σ) (whyQuestion (cS (xNow σ)) p0 p1)), (xKept σ), (xRowLen σ), (xIsTaken σ))))) := by
  have n1 : ((-1) : Int32) < 0 ∧ -6 ≤ ((-1) : Int32) := by decide
  have n2 : ((-2) : Int32) < 0 ∧ -6 ≤ ((-2) : Int32) := by decide
  have n3 : ((-3) : Int32) < 0 ∧ -6 ≤ ((-3) : Int32) := by decide
  have n6 : ((-6) : Int32) < 0 ∧ -6 ≤ ((-6) : Int32) := by decide
  have hQ := hasQ_isQ h.1.1
  have hW := hasW_isW h.1.1
  have hq2 : ¬ isQuestionI (cS (xNow σ)) p0 = 0 → vp_in p0 8 := fun c => inQ_vin h.1.1 (isQ_in c)
  have hC := h.1
  clear h
  unfold vc_X2_question whyQuestion questionX rsX rfX
  rw [hQ]
  generalize okC (xNow σ) = OKC at *
  grind (splits := 40) [b2i]
set_option maxRecDepth 20000 in
set_option maxHeartbeats 2000000 in
theorem v_X2_witness (σ : KX) (p0 : Int32) (p1 : Int32) (h : okX σ) : vc_X2_witness σ p0 p1 (fun r u => (r = (rsX (whyWitness (cS (xNow σ)) p0 p1) (witnessV (cS (xNow σ)) p0 p1)) ∧ u = (((xNow σ), (xTaken σ), (xTrial σ), (xScr σ), (xRow σ), (rfX (xRefus σ) (whyWitness (cS (xNow σ)) p0 p1)), (xKept σ), (xRowLen σ), (xIsTaken σ))))) := by
  have n1 : ((-1) : Int32) < 0 ∧ -6 ≤ ((-1) : Int32) := by decide
  have n2 : ((-2) : Int32) < 0 ∧ -6 ≤ ((-2) : Int32) := by decide
  have n3 : ((-3) : Int32) < 0 ∧ -6 ≤ ((-3) : Int32) := by decide
  have n6 : ((-6) : Int32) < 0 ∧ -6 ≤ ((-6) : Int32) := by decide
  have hQ := hasQ_isQ h.1.1
  have hW := hasW_isW h.1.1
  have hq2 : ¬ isWitnessI (cS (xNow σ)) p0 = 0 → vp_in p0 5 := fun c => inW_vin h.1.1 (isW_in c)
  clear h
  unfold vc_X2_witness whyWitness witnessV rsX rfX
  rw [hW]
  grind (splits := 40)
set_option maxRecDepth 20000 in
set_option maxHeartbeats 2000000 in
theorem v_X2_asks (σ : KX) (p0 : Int32) (p1 : Int32) (h : okX σ) : vc_X2_asks σ p0 p1 (fun r u => (r = (rsX (whyAsks (cS (xNow σ)) p0 p1) (askV (cS (xNow σ)) p0 p1)) ∧ u = ((((if whyAsks (cS (xNow σ)) p0 p1 = 0 then askS (cS (xNow σ)) p0 p1 else (cS (xNow σ))), (cNeeded (xNow σ)), (cTruth (xNow σ))), (xTaken σ), (xTrial σ), (xScr σ), (xRow σ), (rfX (xRefus σ) (whyAsks (cS (xNow σ)) p0 p1)), (xKept σ), (xRowLen σ), (xIsTaken σ))))) := by
  have n1 : ((-1) : Int32) < 0 ∧ -6 ≤ ((-1) : Int32) := by decide
  have n2 : ((-2) : Int32) < 0 ∧ -6 ≤ ((-2) : Int32) := by decide
  have n3 : ((-3) : Int32) < 0 ∧ -6 ≤ ((-3) : Int32) := by decide
  have n6 : ((-6) : Int32) < 0 ∧ -6 ≤ ((-6) : Int32) := by decide
  have hQ := hasQ_isQ h.1.1
  have hW := hasW_isW h.1.1
  have hw := @isW_in (cS (xNow σ)) p0
  have hq := @isQ_in (cS (xNow σ)) p1
  have hC := h.1
  have ha := h.2.2.2.2.2.2
  have ha2 : sAsked (cS (xNow σ)) < 999 ↔ ¬ sAsked (cS (xNow σ)) = 999 := ⟨fun a b => by rw [b] at a; exact absurd a (by decide), fun a => Int32.lt_of_le_of_ne ha a⟩
  have ha3 : sAsked (cS (xNow σ)) < 5000 := Int32.lt_of_le_of_lt ha (by decide)
  clear h
  unfold vc_X2_asks whyAsks rsX rfX
  rw [hQ, hW]
  generalize okC (xNow σ) = OKC at *
  grind (splits := 40)
set_option maxRecDepth 20000 in
set_option maxHeartbeats 2000000 in
theorem v_X2_heard (σ : KX) (p0 : Int32) (p1 : Int32) (h : okX σ) : vc_X2_heard σ p0 p1 (fun r u => (r = (rsX (whyHeard (cS (xNow σ)) p0 p1) (heardV (cS (xNow σ)) p0 p1)) ∧ u = (((xNow σ), (xTaken σ), (xTrial σ), (xScr σ), (xRow σ), (rfX (xRefus σ) (whyHeard (cS (xNow σ)) p0 p1)), (xKept σ), (xRowLen σ), (xIsTaken σ))))) := by
  have n1 : ((-1) : Int32) < 0 ∧ -6 ≤ ((-1) : Int32) := by decide
  have n2 : ((-2) : Int32) < 0 ∧ -6 ≤ ((-2) : Int32) := by decide
  have n3 : ((-3) : Int32) < 0 ∧ -6 ≤ ((-3) : Int32) := by decide
  have n6 : ((-6) : Int32) < 0 ∧ -6 ≤ ((-6) : Int32) := by decide
  have hh := @okS_h (cS (xNow σ)) h.1.1 p0
  have hh : 0 ≤ p0 → p0 < sNh (cS (xNow σ)) → vp_in p0 12 := fun a b => (hh a b).1
  have hz := hasP_z h.1.1 p0
  clear h
  unfold vc_X2_heard whyHeard heardV rsX rfX
  simp only [hz]
  grind (splits := 40)
set_option maxRecDepth 20000 in
set_option maxHeartbeats 2000000 in
theorem v_X2_sets (σ : KX) (p0 : Int32) (h : okX σ) : vc_X2_sets σ p0 (fun r u => (r = (rsX (boundI p0 0 63) (sCase (cS (xNow σ)))) ∧ u = ((((if boundI p0 0 63 = 0 then sSetCase (cS (xNow σ)) p0 else (cS (xNow σ))), (cNeeded (xNow σ)), (cTruth (xNow σ))), (xTaken σ), (xTrial σ), (xScr σ), (xRow σ), (rfX (xRefus σ) (boundI p0 0 63)), (xKept σ), (xRowLen σ), (xIsTaken σ))))) := by
  have n1 : ((-1) : Int32) < 0 ∧ -6 ≤ ((-1) : Int32) := by decide
  have n2 : ((-2) : Int32) < 0 ∧ -6 ≤ ((-2) : Int32) := by decide
  have n3 : ((-3) : Int32) < 0 ∧ -6 ≤ ((-3) : Int32) := by decide
  have n6 : ((-6) : Int32) < 0 ∧ -6 ≤ ((-6) : Int32) := by decide
  have n4 : ((-4) : Int32) < 0 ∧ -6 ≤ ((-4) : Int32) := by decide
  unfold vc_X2_sets boundI rsX rfX sSetCase mkS; clear h; grind (splits := 30)
set_option maxRecDepth 20000 in
set_option maxHeartbeats 2000000 in
theorem v_X2_knows (σ : KX) (p0 : Int32) (p1 : Int32) (h : okX σ) : vc_X2_knows σ p0 p1 (fun r u => (r = (rsX (whyKnows (cS (xNow σ)) p0 p1) (sKnows (cS (xNow σ)) p0.toNatClampNeg)) ∧ u = ((((if whyKnows (cS (xNow σ)) p0 p1 = 0 then sSetKnows (cS (xNow σ)) (upd (sKnows (cS (xNow σ))) p0.toNatClampNeg p1) else (cS (xNow σ))), (cNeeded (xNow σ)), (cTruth (xNow σ))), (xTaken σ), (xTrial σ), (xScr σ), (xRow σ), (rfX (xRefus σ) (whyKnows (cS (xNow σ)) p0 p1)), (xKept σ), (xRowLen σ), (xIsTaken σ))))) := by
  have n1 : ((-1) : Int32) < 0 ∧ -6 ≤ ((-1) : Int32) := by decide
  have n2 : ((-2) : Int32) < 0 ∧ -6 ≤ ((-2) : Int32) := by decide
  have n3 : ((-3) : Int32) < 0 ∧ -6 ≤ ((-3) : Int32) := by decide
  have n6 : ((-6) : Int32) < 0 ∧ -6 ≤ ((-6) : Int32) := by decide
  have n4 : ((-4) : Int32) < 0 ∧ -6 ≤ ((-4) : Int32) := by decide
  have hQ := hasQ_isQ h.1.1
  have hW := hasW_isW h.1.1
  have hw2 : ¬ isWitnessI (cS (xNow σ)) p0 = 0 → vp_in p0 5 := fun c => inW_vin h.1.1 (isW_in c)
  clear h
  unfold vc_X2_knows whyKnows boundI rsX rfX sSetKnows mkS
  rw [hW]
  grind (splits := 40)
set_option maxRecDepth 20000 in
set_option maxHeartbeats 2000000 in
theorem v_X2_turn (σ : KX) (p0 : Int32) (p1 : Int32) (p2 : Int32) (h : okX σ) : vc_X2_turn σ p0 p1 p2 (fun r u => (r = (rsX (whyTurn (cS (xNow σ)) p0 p1 p2) (10 * sKind (cS (xNow σ)) p0.toNatClampNeg + sFigure (cS (xNow σ)) p0.toNatClampNeg)) ∧ u = ((((if whyTurn (cS (xNow σ)) p0 p1 p2 = 0 then sSetKF (cS (xNow σ)) (upd (sKind (cS (xNow σ))) p0.toNatClampNeg p1) (upd (sFigure (cS (xNow σ))) p0.toNatClampNeg p2) else (cS (xNow σ))), (cNeeded (xNow σ)), (cTruth (xNow σ))), (xTaken σ), (xTrial σ), (xScr σ), (xRow σ), (rfX (xRefus σ) (whyTurn (cS (xNow σ)) p0 p1 p2)), (xKept σ), (xRowLen σ), (xIsTaken σ))))) := by
  have n1 : ((-1) : Int32) < 0 ∧ -6 ≤ ((-1) : Int32) := by decide
  have n2 : ((-2) : Int32) < 0 ∧ -6 ≤ ((-2) : Int32) := by decide
  have n3 : ((-3) : Int32) < 0 ∧ -6 ≤ ((-3) : Int32) := by decide
  have n6 : ((-6) : Int32) < 0 ∧ -6 ≤ ((-6) : Int32) := by decide
  have n4 : ((-4) : Int32) < 0 ∧ -6 ≤ ((-4) : Int32) := by decide
  have hQ := hasQ_isQ h.1.1
  have hW := hasW_isW h.1.1
  have hw2 : ¬ isWitnessI (cS (xNow σ)) p0 = 0 → vp_in p0 5 := fun c => inW_vin h.1.1 (isW_in c)
  have h6 : (6 ≤ p1) ↔ ¬ p1 ≤ 5 := six_le p1
  clear h
  unfold vc_X2_turn whyTurn isInM boundI rsX rfX sSetKF mkS
  rw [hW]
  grind (splits := 40) [b2i]
set_option maxRecDepth 20000 in
set_option maxHeartbeats 2000000 in
theorem v_X2_empties (σ : KX) : vc_X2_empties σ (fun r u => (r = (sNh (cS (xNow σ))) ∧ u = ((((sSetNh (cS (xNow σ)) 0), (cNeeded (xNow σ)), (cTruth (xNow σ))), (xTaken σ), (xTrial σ), (xScr σ), (xRow σ), (xRefus σ), (xKept σ), (xRowLen σ), (xIsTaken σ))))) := by
  unfold vc_X2_empties sSetNh mkS; grind
set_option maxRecDepth 20000 in
set_option maxHeartbeats 2000000 in
theorem v_X2_answer (σ : KX) (p0 : Int32) (p1 : Int32) (p2 : Int32) (h : okX σ) : vc_X2_answer σ p0 p1 p2 (fun r u => (r = (rsX (whyAnswer (cS (xNow σ)) p0 p1 p2) (replyI (xNow σ) p0 p1 (sAsked (cS (xNow σ)) + 1) (if p2 < 0 then sCase (cS (xNow σ)) else p2))) ∧ u = (((xNow σ), (xTaken σ), (xTrial σ), (xScr σ), (xRow σ), (rfX (xRefus σ) (whyAnswer (cS (xNow σ)) p0 p1 p2)), (xKept σ), (xRowLen σ), (xIsTaken σ))))) := by
  have n1 : ((-1) : Int32) < 0 ∧ -6 ≤ ((-1) : Int32) := by decide
  have n2 : ((-2) : Int32) < 0 ∧ -6 ≤ ((-2) : Int32) := by decide
  have n3 : ((-3) : Int32) < 0 ∧ -6 ≤ ((-3) : Int32) := by decide
  have n6 : ((-6) : Int32) < 0 ∧ -6 ≤ ((-6) : Int32) := by decide
  have n4 : ((-4) : Int32) < 0 ∧ -6 ≤ ((-4) : Int32) := by decide
  have hQ := hasQ_isQ h.1.1
  have hW := hasW_isW h.1.1
  have hC := h.1
  clear h
  unfold vc_X2_answer whyAnswer boundI rsX rfX
  rw [hQ, hW]
  generalize okC (xNow σ) = OKC at *
  grind (splits := 40)
set_option maxRecDepth 20000 in
set_option maxHeartbeats 2000000 in
theorem v_X2_fits (σ : KX) (p0 : Int32) (h : okX σ) : vc_X2_fits σ p0 (fun r u => (r = (rsX (why01 p0) (sizeOrLeastI (fittingL (xNow σ)) p0)) ∧ u = (((xNow σ), (xTaken σ), (xTrial σ), (xScr σ), (xRow σ), (rfX (xRefus σ) (why01 p0)), (xKept σ), (xRowLen σ), (xIsTaken σ))))) := by
  have n1 : ((-1) : Int32) < 0 ∧ -6 ≤ ((-1) : Int32) := by decide
  have n2 : ((-2) : Int32) < 0 ∧ -6 ≤ ((-2) : Int32) := by decide
  have n3 : ((-3) : Int32) < 0 ∧ -6 ≤ ((-3) : Int32) := by decide
  have n6 : ((-6) : Int32) < 0 ∧ -6 ≤ ((-6) : Int32) := by decide
  have hp := isPart_isIn p0
  have hC := h.1
  clear h
  unfold vc_X2_fits why01 rsX rfX
  rw [hp]
  generalize okC (xNow σ) = OKC at *
  grind
set_option maxRecDepth 20000 in
set_option maxHeartbeats 2000000 in
theorem v_X2_jury (σ : KX) (p0 : Int32) (h : okX σ) : vc_X2_jury σ p0 (fun r u => (r = (rsX (why01 p0) (sizeOrLeastI (juryFittingL (xNow σ)) p0)) ∧ u = (((xNow σ), (xTaken σ), (xTrial σ), (xScr σ), (xRow σ), (rfX (xRefus σ) (why01 p0)), (xKept σ), (xRowLen σ), (xIsTaken σ))))) := by
  have n1 : ((-1) : Int32) < 0 ∧ -6 ≤ ((-1) : Int32) := by decide
  have n2 : ((-2) : Int32) < 0 ∧ -6 ≤ ((-2) : Int32) := by decide
  have n3 : ((-3) : Int32) < 0 ∧ -6 ≤ ((-3) : Int32) := by decide
  have n6 : ((-6) : Int32) < 0 ∧ -6 ≤ ((-6) : Int32) := by decide
  have hp := isPart_isIn p0
  have hC := h.1
  clear h
  unfold vc_X2_jury why01 rsX rfX
  rw [hp]
  generalize okC (xNow σ) = OKC at *
  grind
set_option maxRecDepth 20000 in
set_option maxHeartbeats 2000000 in
theorem v_X2_sure (σ : KX) (p0 : Int32) (h : okX σ) : vc_X2_sure σ p0 (fun r u => (r = (rsX (why01 p0) (sureX (if p0 = 0 then fittingL (xNow σ) else juryFittingL (xNow σ)))) ∧ u = (((xNow σ), (xTaken σ), (xTrial σ), (xScr σ), (xRow σ), (rfX (xRefus σ) (why01 p0)), (xKept σ), (xRowLen σ), (xIsTaken σ))))) := by
  have n1 : ((-1) : Int32) < 0 ∧ -6 ≤ ((-1) : Int32) := by decide
  have n2 : ((-2) : Int32) < 0 ∧ -6 ≤ ((-2) : Int32) := by decide
  have n3 : ((-3) : Int32) < 0 ∧ -6 ≤ ((-3) : Int32) := by decide
  have n6 : ((-6) : Int32) < 0 ∧ -6 ≤ ((-6) : Int32) := by decide
  have hp := isPart_isIn p0
  unfold vc_X2_sure
  intro T hT
  rw [hp]
  refine ⟨fun c => ?_, fun c => ⟨n2, rsX_n (by unfold why01; rw [if_pos c]) (by decide), by rw [rfX_n (c := -2) (by unfold why01; rw [if_pos c]) (by decide)]⟩⟩
  have hy : why01 p0 = 0 := by unfold why01; rw [if_neg c]
  simp only [rfX_0 hy, ← rsX_0 hy] at hT
  have key : ∀ l : Int64, l = (if p0 = 0 then fittingL (xNow σ) else juryFittingL (xNow σ)) → T l 0 0 (xRefus σ) := by
    intro l el
    refine set_up (n := 6) (fun f => !decide (isSureI l (factCasesL (nI f)) = 0)) (fun j a => T l a (nI j) (xRefus σ)) ?_ (fun j hj a ih => ?_)
    · refine hT _ _ _ _ ⟨fun _ => ⟨?_, rfl⟩, fun c => absurd (by decide) c⟩
      rw [← el]; rfl
    · refine hT _ _ _ _ ⟨fun c => absurd c (nle_nI (N := 6) (n := 6) (by decide) (by decide) hj), fun _ => ?_⟩
      rw [nI_1]
      refine ⟨fun e => ?_, fun e => ?_⟩
      · have := ih
        simp only [e, decide_true, Bool.not_true, Bool.false_eq_true, if_false] at this
        have e0 : a ||| 0 = a := by simp
        rw [e0] at this; exact this
      · have := ih
        simp only [e, decide_false, Bool.not_false, if_true] at this
        exact this
  exact ⟨fun d => ⟨h.1, key _ (by rw [if_neg d])⟩, fun d => ⟨h.1, key _ (by rw [if_pos d])⟩⟩
set_option maxRecDepth 20000 in
set_option maxHeartbeats 2000000 in
theorem v_X2_next (σ : KX) (p0 : Int32) (h : okX σ) : vc_X2_next σ p0 (fun r u => (r = (rsX (why01 p0) (if p0 = 0 then (bestX (xNow σ) (fittingL (xNow σ))).1 else (bestX (xNow σ) (fittingL (xNow σ))).2)) ∧ u = (((xNow σ), (xTaken σ), (xTrial σ), (xScr σ), (xRow σ), (rfX (xRefus σ) (why01 p0)), (xKept σ), (xRowLen σ), (xIsTaken σ))))) := by
  have n1 : ((-1) : Int32) < 0 ∧ -6 ≤ ((-1) : Int32) := by decide
  have n2 : ((-2) : Int32) < 0 ∧ -6 ≤ ((-2) : Int32) := by decide
  have n3 : ((-3) : Int32) < 0 ∧ -6 ≤ ((-3) : Int32) := by decide
  have n6 : ((-6) : Int32) < 0 ∧ -6 ≤ ((-6) : Int32) := by decide
  have hp := isPart_isIn p0
  unfold vc_X2_next why01 rsX rfX
  rw [hp]
  generalize okX σ = OKX at *
  grind
set_option maxRecDepth 20000 in
set_option maxHeartbeats 2000000 in
theorem v_X2_settle (σ : KX) (p0 : Int32) (p1 : Int32) (p2 : Int32) (h : okX σ) : vc_X2_settle σ p0 p1 p2 (fun r u => ∃ (ex_kept : FL), (r = (rsX (whySettle (cS (xNow σ)) p0 p1 p2) (settleX (xNow σ) p0 (factCasesL p1) p2)) ∧ u = (((xNow σ), (xTaken σ), (xTrial σ), (xScr σ), (xRow σ), (rfX (xRefus σ) (whySettle (cS (xNow σ)) p0 p1 p2)), (ex_kept), (xRowLen σ), (xIsTaken σ))))) := by
  have n1 : ((-1) : Int32) < 0 ∧ -6 ≤ ((-1) : Int32) := by decide
  have n2 : ((-2) : Int32) < 0 ∧ -6 ≤ ((-2) : Int32) := by decide
  have n3 : ((-3) : Int32) < 0 ∧ -6 ≤ ((-3) : Int32) := by decide
  have n6 : ((-6) : Int32) < 0 ∧ -6 ≤ ((-6) : Int32) := by decide
  have hQ := hasQ_isQ h.1.1
  have hW := hasW_isW h.1.1
  have hp := isPart_isIn p2
  unfold vc_X2_settle whySettle why01 rsX rfX
  rw [hp, hW]
  generalize okX σ = OKX at *
  grind (splits := 30)
set_option maxRecDepth 20000 in
set_option maxHeartbeats 2000000 in
theorem v_X2_words (σ : KX) (p0 : Int32) (p1 : Int32) (h : okX σ) : vc_X2_words σ p0 p1 (fun r u => (r = (rsX (whyWords (cS (xNow σ)) p0 p1) (questionsSaidI (xNow σ) p0 (sAsked (cS (xNow σ)) + 1) p1)) ∧ u = (((xNow σ), (xTaken σ), (xTrial σ), (xScr σ), (xRow σ), (rfX (xRefus σ) (whyWords (cS (xNow σ)) p0 p1)), (xKept σ), (xRowLen σ), (xIsTaken σ))))) := by
  have n1 : ((-1) : Int32) < 0 ∧ -6 ≤ ((-1) : Int32) := by decide
  have n2 : ((-2) : Int32) < 0 ∧ -6 ≤ ((-2) : Int32) := by decide
  have n3 : ((-3) : Int32) < 0 ∧ -6 ≤ ((-3) : Int32) := by decide
  have n6 : ((-6) : Int32) < 0 ∧ -6 ≤ ((-6) : Int32) := by decide
  have hQ := hasQ_isQ h.1.1
  have hW := hasW_isW h.1.1
  have hC := h.1
  have h3 : (3 ≤ p1) ↔ ¬ p1 ≤ 2 := three_le p1
  clear h
  unfold vc_X2_words whyWords isInM rsX rfX
  rw [hW]
  generalize okC (xNow σ) = OKC at *
  grind (splits := 40) [b2i]
set_option maxRecDepth 20000 in
set_option maxHeartbeats 2000000 in
theorem v_X2_liars (σ : KX) (h : okX σ) : vc_X2_liars σ (fun r => r = (liarsX (xNow σ))) := by
  obtain ⟨n, hn, en⟩ := okS_nw h.1.1
  unfold vc_X2_liars
  simp only [cmp_z]
  intro T hT
  refine ⟨h.1, ?_⟩
  by_cases z : fittingL (xNow σ) = 0
  · exact hT _ _ _ ⟨fun _ => by unfold liarsX; rw [if_pos z], fun c => absurd z c⟩
  · refine set_up (n := n) (fun w => decide (fittingL (xNow σ) &&& (untruthsL (xNow σ) (nI w) ^^^ (-1)) = 0)) (fun j a => T (fittingL (xNow σ)) a (nI j)) ?_ (fun j hj a ih => ?_)
    · refine hT _ _ _ ⟨fun c => absurd c z, fun _ => ⟨fun _ => ?_, fun c => absurd (le_nI en) c⟩⟩
      unfold liarsX; rw [if_neg z, en, nI_clamp (by omega)]
    · refine hT _ _ _ ⟨fun c => absurd c z, fun _ => ⟨fun c => absurd c (nle_nI en (by omega) hj), fun _ => ⟨h.1, ?_⟩⟩⟩
      rw [nI_1]
      have e0 : a ||| 0 = a := by simp
      exact ⟨fun e => by simpa only [e, decide_false, Bool.false_eq_true, if_false, e0] using ih, fun e => by simpa only [e, decide_true, if_true] using ih⟩
set_option maxRecDepth 20000 in
set_option maxHeartbeats 2000000 in
theorem v_X2_clash (σ : KX) (h : okX σ) : vc_X2_clash σ (fun r => r = (clashX (xNow σ))) := by
  obtain ⟨n, hn, en⟩ := okS_nh h.1.1
  have hf : ∀ a, a < n → heardFittingL (xNow σ) (nI a) = hfit (xNow σ) a := fun a ha => by rw [heardFittingL, if_neg (hasP_nat en hn ha), nI_clamp (by omega)]
  unfold vc_X2_clash
  simp only [cmp_z]
  intro T2 T17 h2 h17
  have key : ∀ d a, a + d = n → clashFromX (xNow σ) n d a = clashX (xNow σ) → T2 (nI a) := by
    intro d
    induction d with
    | zero =>
      intro a ha e
      obtain rfl : a = n := by omega
      exact h2 _ ⟨fun _ => e, fun c => absurd (le_nI en) c⟩
    | succ d ih =>
      intro a ha e
      rw [clashFromX] at e
      refine h2 _ ⟨fun c => absurd c (nle_nI en (by omega) (by omega)), fun _ => ?_⟩
      rw [nI_1]
      refine first_loop (n := n - (a + 1)) (fun b => decide (hfit (xNow σ) a &&& hfit (xNow σ) b = 0)) (fun j => T17 (nI a) (nI j)) (fun o => (match o with | some b => 100 * nI a + nI b | none => clashFromX (xNow σ) n d (a + 1)) = clashX (xNow σ)) (a + 1) (fun q => ?_) (fun j j1 j2 h1 h0 => ?_) e
      · refine h17 _ _ ⟨fun _ => ?_, fun c => absurd (by rw [en]; exact nI_le (by omega) (by omega)) c⟩
        rw [nI_1]; exact ih (a + 1) (by omega) q
      · refine h17 _ _ ⟨fun c => absurd c (nle_nI en (by omega) (by omega)), fun _ => ⟨h.1, h.1, ?_⟩⟩
        rw [nI_1, hf a (by omega), hf j (by omega)]
        exact ⟨fun d => h1 (by simp only [d, decide_false]), fun d => h0 (by simp only [d, decide_true])⟩
  exact key n 0 (by omega) (by unfold clashX; rw [en, nI_clamp (by omega)])
set_option maxRecDepth 20000 in
set_option maxHeartbeats 2000000 in
theorem v_X2_talker (σ : KX) (h : okX σ) : vc_X2_talker σ (fun r => r = (talkerX (cS (xNow σ)))) := by
  obtain ⟨n, hn, en⟩ := okS_nw h.1.1
  unfold vc_X2_talker
  intro T hT
  refine fold_up (n := n) (fun w (b : Int32 × Int32) => if b.2 < answersOfI (cS (xNow σ)) (nI w) then (nI w, answersOfI (cS (xNow σ)) (nI w)) else b) ((-9, 0) : Int32 × Int32) (fun j b => T b.2 b.1 (nI j)) ?_ (fun w hw b ih => ?_)
  · refine hT _ _ _ ⟨fun _ => ?_, fun c => absurd (le_nI en) c⟩
    rw [talkerX, en, nI_clamp (by omega)]
  · refine hT _ _ _ ⟨fun c => absurd c (nle_nI en (by omega) hw), fun _ => ⟨h.1, ?_⟩⟩
    rw [nI_1]
    exact ⟨fun d => by rw [if_neg (Int32.not_lt.mpr d)] at ih; exact ih, fun d => by rw [if_pos (Int32.not_le.mp d)] at ih; exact ih⟩
set_option maxRecDepth 20000 in
set_option maxHeartbeats 2000000 in
theorem v_X2_hidden (σ : KX) (h : okX σ) : vc_X2_hidden σ (fun r => r = (hiddenX (xNow σ))) := by
  obtain ⟨n, hn, en⟩ := okS_nq h.1.1
  unfold vc_X2_hidden
  intro T hT
  refine set_up (n := n) (fun q => hiddenBX (xNow σ) (nI q)) (fun j a => T a (nI j)) ?_ (fun j hj a ih => ?_)
  · refine hT _ _ ⟨fun _ => ?_, fun c => absurd (le_nI en) c⟩
    rw [hiddenX, en, nI_clamp (by omega)]
  · refine hT _ _ ⟨fun c => absurd c (nle_nI en (by omega) hj), fun _ => ⟨h, ?_⟩⟩
    rw [nI_1]
    exact ⟨fun d => by simpa [b2i_z.mp d] using ih, fun d => by simpa [b2i_ne.mp d] using ih⟩
set_option maxRecDepth 20000 in
set_option maxHeartbeats 2000000 in
theorem v_X2_trueOf (σ : KX) (p0 : Int32) (h : okX σ) : vc_X2_trueOf σ p0 (fun r u => (r = (rsX (whyW (cS (xNow σ)) p0) (trueOfX (xNow σ) p0)) ∧ u = (((xNow σ), (xTaken σ), (xTrial σ), (xScr σ), (xRow σ), (rfX (xRefus σ) (whyW (cS (xNow σ)) p0)), (xKept σ), (xRowLen σ), (xIsTaken σ))))) := by
  have n1 : ((-1) : Int32) < 0 ∧ -6 ≤ ((-1) : Int32) := by decide
  have n2 : ((-2) : Int32) < 0 ∧ -6 ≤ ((-2) : Int32) := by decide
  have n3 : ((-3) : Int32) < 0 ∧ -6 ≤ ((-3) : Int32) := by decide
  have n6 : ((-6) : Int32) < 0 ∧ -6 ≤ ((-6) : Int32) := by decide
  have hQ := hasQ_isQ h.1.1
  have hW := hasW_isW h.1.1
  obtain ⟨n, hn, en⟩ := okS_nh h.1.1
  unfold vc_X2_trueOf
  intro T hT
  rw [hW]
  refine ⟨fun c => ?_, fun c => ?_⟩
  all_goals first
    | exact ⟨n1, rsX_n (by unfold whyW; rw [if_pos c]) (by decide), by rw [rfX_n (c := -1) (by unfold whyW; rw [if_pos c]) (by decide)]⟩
    | skip
  all_goals
    have hy : whyW (cS (xNow σ)) p0 = 0 := by unfold whyW; rw [if_neg c]
    simp only [rfX_0 hy, ← rsX_0 hy] at hT
    refine cnt_up (n := n) (fun k => decide (sWhom (cS (xNow σ)) k = p0) && decide (sSaid (cS (xNow σ)) k = if cisSoI (xNow σ) (sWhat (cS (xNow σ)) k) = 0 then 0 else 1)) (fun j a => T a (nI j) (xRefus σ)) ?_ (fun j hj a ih => ?_)
    · refine hT _ _ _ ⟨fun _ => ⟨?_, rfl⟩, fun c => absurd (le_nI en) c⟩
      rw [trueOfX, en, nI_clamp (by omega)]
    · refine hT _ _ _ ⟨fun c => absurd c (nle_nI en (by omega) hj), fun _ => ?_⟩
      have hv : vp_in (nI j) 12 := vin (by omega)
      rw [nI_clamp (by omega), nI_1]
      have e0 : a + 0 = a := by simp
      clear hT h hQ hW
      grind [b2i]
set_option maxRecDepth 20000 in
set_option maxHeartbeats 2000000 in
theorem v_X2_betrays (σ : KX) (p0 : Int32) (h : okX σ) : vc_X2_betrays σ p0 (fun r u => (r = (rsX (whyPlace (cS (xNow σ)) p0) (questionsSaidI (xNow σ) (sWhom (cS (xNow σ)) p0.toNatClampNeg) (sWhen (cS (xNow σ)) p0.toNatClampNeg) (sSaid (cS (xNow σ)) p0.toNatClampNeg))) ∧ u = (((xNow σ), (xTaken σ), (xTrial σ), (xScr σ), (xRow σ), (rfX (xRefus σ) (whyPlace (cS (xNow σ)) p0)), (xKept σ), (xRowLen σ), (xIsTaken σ))))) := by
  have n1 : ((-1) : Int32) < 0 ∧ -6 ≤ ((-1) : Int32) := by decide
  have n2 : ((-2) : Int32) < 0 ∧ -6 ≤ ((-2) : Int32) := by decide
  have n3 : ((-3) : Int32) < 0 ∧ -6 ≤ ((-3) : Int32) := by decide
  have n6 : ((-6) : Int32) < 0 ∧ -6 ≤ ((-6) : Int32) := by decide
  have hh := @okS_h (cS (xNow σ)) h.1.1 p0
  have hh : 0 ≤ p0 → p0 < sNh (cS (xNow σ)) → vp_in p0 12 := fun a b => (hh a b).1
  have hz := hasP_z h.1.1 p0
  have hC := h.1
  clear h
  unfold vc_X2_betrays whyPlace rsX rfX
  simp only [hz]
  generalize okC (xNow σ) = OKC at *
  grind (splits := 40)
set_option maxRecDepth 20000 in
set_option maxHeartbeats 2000000 in
theorem v_X2_verdict (σ : KX) (p0 : Int32) (p1 : Int32) (h : okX σ) : vc_X2_verdict σ p0 p1 (fun r u => (r = (rsL (whyVerdict p0 p1) (verdictX (xNow σ) p0 p1)) ∧ u = (((xNow σ), (xTaken σ), (xTrial σ), (xScr σ), (xRow σ), (rfX (xRefus σ) (whyVerdict p0 p1)), (xKept σ), (xRowLen σ), (xIsTaken σ))))) := by
  have n1 : ((-1) : Int32) < 0 ∧ -6 ≤ ((-1) : Int32) := by decide
  have n2 : ((-2) : Int32) < 0 ∧ -6 ≤ ((-2) : Int32) := by decide
  have n3 : ((-3) : Int32) < 0 ∧ -6 ≤ ((-3) : Int32) := by decide
  have n6 : ((-6) : Int32) < 0 ∧ -6 ≤ ((-6) : Int32) := by decide
  have hp := isPart_isIn p1
  have hC := h.1
  clear h
  unfold vc_X2_verdict whyVerdict verdictX why01 rsL rfX
  rw [hp]
  generalize okC (xNow σ) = OKC at *
  grind
set_option maxRecDepth 20000 in
set_option maxHeartbeats 2000000 in
theorem v_X2_same (σ : KX) (p0 : Int32) (h : okX σ) : vc_X2_same σ p0 (fun r u => (r = (rsX (why01 p0) (sameX (xNow σ) p0)) ∧ u = (((xNow σ), (xTaken σ), (xTrial σ), (xScr σ), (xRow σ), (rfX (xRefus σ) (why01 p0)), (xKept σ), (xRowLen σ), (xIsTaken σ))))) := by
  have n1 : ((-1) : Int32) < 0 ∧ -6 ≤ ((-1) : Int32) := by decide
  have n2 : ((-2) : Int32) < 0 ∧ -6 ≤ ((-2) : Int32) := by decide
  have n3 : ((-3) : Int32) < 0 ∧ -6 ≤ ((-3) : Int32) := by decide
  have n6 : ((-6) : Int32) < 0 ∧ -6 ≤ ((-6) : Int32) := by decide
  have hp := isPart_isIn p0
  unfold vc_X2_same why01 rsX rfX
  rw [hp]
  generalize okX σ = OKX at *
  grind
set_option maxRecDepth 20000 in
set_option maxHeartbeats 2000000 in
theorem v_X2_implies (σ : KX) (p0 : Int32) (p1 : Int32) (h : okX σ) : vc_X2_implies σ p0 p1 (fun r u => (r = (rsX (whyImplies (cS (xNow σ)) p0 p1) (impliesX (xNow σ) p0 p1)) ∧ u = (((xNow σ), (xTaken σ), (xTrial σ), (xScr σ), (xRow σ), (rfX (xRefus σ) (whyImplies (cS (xNow σ)) p0 p1)), (xKept σ), (xRowLen σ), (xIsTaken σ))))) := by
  have n1 : ((-1) : Int32) < 0 ∧ -6 ≤ ((-1) : Int32) := by decide
  have n2 : ((-2) : Int32) < 0 ∧ -6 ≤ ((-2) : Int32) := by decide
  have n3 : ((-3) : Int32) < 0 ∧ -6 ≤ ((-3) : Int32) := by decide
  have n6 : ((-6) : Int32) < 0 ∧ -6 ≤ ((-6) : Int32) := by decide
  have hQ := hasQ_isQ h.1.1
  have hW := hasW_isW h.1.1
  have hC := h.1
  clear h
  unfold vc_X2_implies whyImplies impliesX rsX rfX
  simp only [cmp_z]
  rw [hQ, hQ]
  generalize okC (xNow σ) = OKC at *
  grind [b2i]
set_option maxRecDepth 20000 in
set_option maxHeartbeats 2000000 in
theorem v_X2_two (σ : KX) (p0 : Int32) (p1 : Int32) (p2 : Int32) (h : okX σ) : vc_X2_two σ p0 p1 p2 (fun r u => (r = (rsX (whyTwo (cS (xNow σ)) p0 p1 p2) (twoX (xNow σ) p0 p1 p2)) ∧ u = (((xNow σ), (xTaken σ), (xTrial σ), (xScr σ), (xRow σ), (rfX (xRefus σ) (whyTwo (cS (xNow σ)) p0 p1 p2)), (xKept σ), (xRowLen σ), (xIsTaken σ))))) := by
  have n1 : ((-1) : Int32) < 0 ∧ -6 ≤ ((-1) : Int32) := by decide
  have n2 : ((-2) : Int32) < 0 ∧ -6 ≤ ((-2) : Int32) := by decide
  have n3 : ((-3) : Int32) < 0 ∧ -6 ≤ ((-3) : Int32) := by decide
  have n6 : ((-6) : Int32) < 0 ∧ -6 ≤ ((-6) : Int32) := by decide
  have hQ := hasQ_isQ h.1.1
  have hW := hasW_isW h.1.1
  unfold vc_X2_two whyTwo rsX rfX
  rw [hW, hQ, hQ]
  generalize okX σ = OKX at *
  grind
set_option maxRecDepth 20000 in
set_option maxHeartbeats 2000000 in
theorem v_X2_drawn (σ : KX) (p0 : Int32) (p1 : Int32) (p2 : Int32) (p3 : Int32) (h : okX σ) : vc_X2_drawn σ p0 p1 p2 p3 (fun r u => ∃ (ex_kept : FL), (r = (rsL (whyDrawn (cS (xNow σ)) p0 p1 p2 p3) (drawnX (xNow σ) p0 p1.toNatClampNeg (factCasesL p2) p3)) ∧ u = (((xNow σ), (xTaken σ), (xTrial σ), (xScr σ), (xRow σ), (rfX (xRefus σ) (whyDrawn (cS (xNow σ)) p0 p1 p2 p3)), (ex_kept), (xRowLen σ), (xIsTaken σ))))) := by
  have n1 : ((-1) : Int32) < 0 ∧ -6 ≤ ((-1) : Int32) := by decide
  have n2 : ((-2) : Int32) < 0 ∧ -6 ≤ ((-2) : Int32) := by decide
  have n3 : ((-3) : Int32) < 0 ∧ -6 ≤ ((-3) : Int32) := by decide
  have n6 : ((-6) : Int32) < 0 ∧ -6 ≤ ((-6) : Int32) := by decide
  have n4 : ((-4) : Int32) < 0 ∧ -6 ≤ ((-4) : Int32) := by decide
  have hQ := hasQ_isQ h.1.1
  have hW := hasW_isW h.1.1
  obtain ⟨q, hq, eq⟩ := okS_nq h.1.1
  have ec : (sNq (cS (xNow σ))).toNatClampNeg = q := by rw [eq, nI_clamp (by omega)]
  have hq8 : 0 ≤ sNq (cS (xNow σ)) ∧ sNq (cS (xNow σ)) ≤ 8 := h.1.1.2.2.1
  have hp := isPart_isIn p3
  unfold vc_X2_drawn
  intro T hT
  rw [hp, hW]
  have rr : ∀ c : Int32, whyDrawn (cS (xNow σ)) p0 p1 p2 p3 = c → ¬ c = 0 → ∃ ex_kept : FL, 4000000000000000000 - c.toInt64 = rsL (whyDrawn (cS (xNow σ)) p0 p1 p2 p3) (drawnX (xNow σ) p0 p1.toNatClampNeg (factCasesL p2) p3) ∧ (xNow σ, xTaken σ, xTrial σ, xScr σ, xRow σ, refuX (xRefus σ) c, xKept σ, xRowLen σ, xIsTaken σ) = (xNow σ, xTaken σ, xTrial σ, xScr σ, xRow σ, rfX (xRefus σ) (whyDrawn (cS (xNow σ)) p0 p1 p2 p3), ex_kept, xRowLen σ, xIsTaken σ) := fun c hc h0 => ⟨xKept σ, rsL_n hc h0, by rw [rfX_n hc h0]⟩
  have w1 : (isWitnessI (cS (xNow σ)) p0 = 0 ∨ isFactI p2 = 0) → whyDrawn (cS (xNow σ)) p0 p1 p2 p3 = -1 := fun c => by unfold whyDrawn; rw [if_pos c]
  refine ⟨fun c => ⟨n1, rr _ (w1 (Or.inl c)) (by decide)⟩, fun c => ⟨fun d => ?_, fun d => ⟨n1, rr _ (w1 (Or.inr d)) (by decide)⟩⟩⟩
  have hno : ¬ (isWitnessI (cS (xNow σ)) p0 = 0 ∨ isFactI p2 = 0) := by rintro (z | z); exact c z; exact d z
  refine ⟨fun g0 => ⟨fun g1 => ?_, fun g1 => ?_⟩, fun g0 => ?_⟩
  · have hb : boundI p1 0 4 = 0 := by unfold boundI; rw [if_neg (Int32.not_lt.mpr g0), if_neg (Int32.not_lt.mpr g1)]
    refine ⟨fun f => ⟨fun z => ⟨h, ?_⟩, fun z => ⟨n3, rr _ (by unfold whyDrawn; rw [if_neg hno, if_pos hb, if_neg f, if_pos z]) (by decide)⟩⟩, fun f => ⟨n2, rr _ (by unfold whyDrawn; rw [if_neg hno, if_pos hb, if_pos f]) (by decide)⟩⟩
    have hy : whyDrawn (cS (xNow σ)) p0 p1 p2 p3 = 0 := by unfold whyDrawn; rw [if_neg hno, if_pos hb, if_neg f, if_neg z]
    simp only [rfX_0 hy, ← rsL_0 hy] at hT
    obtain ⟨n, hn, rfl⟩ := nI_up (M := 4) (n := 4) (by decide) ⟨g0, g1⟩
    refine upN n (fun j => T (powI (sNq (cS (xNow σ))) j) (nI j) (keptX (xNow σ) p0 (xKept σ)) (xRefus σ)) ?_ (fun j hj ih => ?_) 0 (Nat.zero_le _)
    · refine hT _ _ _ _ ⟨fun _ => ⟨h.1, ⟨hq8.1, hq8.2, by decide, g0, g1, ?_⟩, _, ?_, rfl⟩, fun c => absurd (Int32.le_refl _) c⟩
      · have e : nI n - 0 = nI n := by simp
        rw [e]; exact g1
      · have e : nI n - 0 = nI n := by simp
        unfold drawnX
        rw [e, nI_clamp (show n < 2 ^ 31 by omega), ec, show (0 : Int32).toNatClampNeg = 0 from by decide, ways_congr hq _ (kept_congr ec (xKept σ) (fun _ => 0)) n 0 _ (by omega)]
    · refine hT _ _ _ _ ⟨fun c => absurd c (nI_ge hj (by omega)), fun _ => ?_⟩
      rw [nI_1]; exact ih
  · exact ⟨n6, rr _ (by unfold whyDrawn boundI; rw [if_neg hno, if_neg (Int32.not_lt.mpr g0), if_pos (Int32.not_le.mp g1), if_neg (by decide)]) (by decide)⟩
  · exact ⟨n4, rr _ (by unfold whyDrawn boundI; rw [if_neg hno, if_pos (Int32.not_le.mp g0), if_neg (by decide)]) (by decide)⟩
set_option maxRecDepth 20000 in
set_option maxHeartbeats 2000000 in
theorem v_X2_mean (σ : KX) (p0 : Int32) (h : okX σ) : vc_X2_mean σ p0 (fun r u => (r = (rsL (why01 p0) (meanX (xNow σ) p0)) ∧ u = (((xNow σ), (xTaken σ), (xTrial σ), (xScr σ), (xRow σ), (rfX (xRefus σ) (why01 p0)), (xKept σ), (xRowLen σ), (xIsTaken σ))))) := by
  have n1 : ((-1) : Int32) < 0 ∧ -6 ≤ ((-1) : Int32) := by decide
  have n2 : ((-2) : Int32) < 0 ∧ -6 ≤ ((-2) : Int32) := by decide
  have n3 : ((-3) : Int32) < 0 ∧ -6 ≤ ((-3) : Int32) := by decide
  have n6 : ((-6) : Int32) < 0 ∧ -6 ≤ ((-6) : Int32) := by decide
  have hp := isPart_isIn p0
  unfold vc_X2_mean
  intro T hT
  rw [hp]
  refine ⟨fun c => ⟨h.1, ?_⟩, fun c => ⟨n2, rsL_n (by unfold why01; rw [if_pos c]) (by decide), by rw [rfX_n (c := -2) (by unfold why01; rw [if_pos c]) (by decide)]⟩⟩
  have hy : why01 p0 = 0 := by unfold why01; rw [if_neg c]
  simp only [rfX_0 hy, ← rsL_0 hy] at hT
  refine sum_up (n := 6) (fun f => popc (fittingL (xNow σ) &&& factCasesL (nI f))) (fun j a => T (fittingL (xNow σ)) a (nI j) (xRefus σ)) ?_ (fun j hj a ih => ?_)
  · exact hT _ _ _ _ ⟨fun _ => ⟨rfl, rfl⟩, fun c => absurd (by decide) c⟩
  · refine hT _ _ _ _ ⟨fun c => absurd c (nle_nI (N := 6) (n := 6) (by decide) (by decide) hj), fun _ => ?_⟩
    rw [nI_1]; exact ih
set_option maxRecDepth 20000 in
set_option maxHeartbeats 2000000 in
theorem v_X2_whatIs (σ : KX) (p0 : Int32) (p1 : Int32) (h : okX σ) : vc_X2_whatIs σ p0 p1 (fun r u => ∃ (ex_trial : KC), (zC ex_trial) ∧ (r = (rsX (whyWhatIs (cS (xNow σ)) (xRowLen σ) p0 p1) (if p1 = 0 then kindsX (xNow σ) (xRow σ) (xRowLen σ) p0 else knownX (xNow σ) (xRow σ) (xRowLen σ) p0)) ∧ u = (((xNow σ), (xTaken σ), (ex_trial), (xScr σ), (xRow σ), (rfX (xRefus σ) (whyWhatIs (cS (xNow σ)) (xRowLen σ) p0 p1)), (xKept σ), (xRowLen σ), (xIsTaken σ))))) := by
  have n1 : ((-1) : Int32) < 0 ∧ -6 ≤ ((-1) : Int32) := by decide
  have n2 : ((-2) : Int32) < 0 ∧ -6 ≤ ((-2) : Int32) := by decide
  have n3 : ((-3) : Int32) < 0 ∧ -6 ≤ ((-3) : Int32) := by decide
  have n6 : ((-6) : Int32) < 0 ∧ -6 ≤ ((-6) : Int32) := by decide
  have hQ := hasQ_isQ h.1.1
  have hW := hasW_isW h.1.1
  have hp := isPart_isIn p1
  have hi := @isW_in (cS (xNow σ)) p0
  have hz := h.2.2.2.1
  unfold vc_X2_whatIs whyWhatIs rsX rfX
  rw [hp, hW]
  generalize okX σ = OKX at *
  generalize hZ : zC = Z at *
  grind (splits := 30)
set_option maxRecDepth 20000 in
set_option maxHeartbeats 2000000 in
theorem v_X2_row (σ : KX) (p0 : Int32) (h : okX σ) : vc_X2_row σ p0 (fun r u => (r = (rsX (whyRow (xRowLen σ) p0) (xRowLen σ + 1)) ∧ u = (((xNow σ), (xTaken σ), (xTrial σ), (xScr σ), (if whyRow (xRowLen σ) p0 = 0 then upd (xRow σ) (xRowLen σ).toNatClampNeg p0 else xRow σ), (rfX (xRefus σ) (whyRow (xRowLen σ) p0)), (xKept σ), (if whyRow (xRowLen σ) p0 = 0 then xRowLen σ + 1 else xRowLen σ), (xIsTaken σ))))) := by
  have n1 : ((-1) : Int32) < 0 ∧ -6 ≤ ((-1) : Int32) := by decide
  have n2 : ((-2) : Int32) < 0 ∧ -6 ≤ ((-2) : Int32) := by decide
  have n3 : ((-3) : Int32) < 0 ∧ -6 ≤ ((-3) : Int32) := by decide
  have n6 : ((-6) : Int32) < 0 ∧ -6 ≤ ((-6) : Int32) := by decide
  have n4 : ((-4) : Int32) < 0 ∧ -6 ≤ ((-4) : Int32) := by decide
  have hr := h.2.2.2.2.2.1
  have hv : xRowLen σ < 12 → vp_in (xRowLen σ) 12 := fun c => vin_lt (N := 12) (by decide) hr.1 c
  have hr2 : xRowLen σ < 12 ↔ ¬ xRowLen σ = 12 := ⟨fun a b => by rw [b] at a; exact absurd a (by decide), fun a => Int32.lt_of_le_of_ne hr.2 a⟩
  clear h
  unfold vc_X2_row whyRow boundI rsX rfX; grind (splits := 40)
set_option maxRecDepth 20000 in
set_option maxHeartbeats 2000000 in
theorem v_X2_judge (σ : KX) (h : okX σ) : vc_X2_judge σ (fun r u => (r = (wrongX (cS (xNow σ)) (xRow σ) (xRowLen σ)) ∧ u = (((xNow σ), (xTaken σ), (xTrial σ), (xScr σ), (xRow σ), (xRefus σ), (xKept σ), (0), (xIsTaken σ))))) := by
  exact ⟨h, rfl, rfl⟩
set_option maxRecDepth 20000 in
set_option maxHeartbeats 2000000 in
theorem v_X2_clear (σ : KX) : vc_X2_clear σ (fun r u => (r = (xRowLen σ) ∧ u = (((xNow σ), (xTaken σ), (xTrial σ), (xScr σ), (xRow σ), (xRefus σ), (xKept σ), (0), (xIsTaken σ))))) := by
  exact ⟨rfl, rfl⟩
set_option maxRecDepth 20000 in
set_option maxHeartbeats 2000000 in
theorem v_X2_lots (σ : KX) (p0 : Int32) (p1 : Int32) (p2 : Int32) (h : okX σ) : vc_X2_lots σ p0 p1 p2 (fun r u => ∃ (ex_trial : KC), (zC ex_trial) ∧ (r = (rsX (whyLots (cS (xNow σ)) p0 p2) (lotsX (xNow σ) p0 p1 p2)) ∧ u = (((xNow σ), (xTaken σ), (ex_trial), (xScr σ), (xRow σ), (rfX (xRefus σ) (whyLots (cS (xNow σ)) p0 p2)), (xKept σ), (xRowLen σ), (xIsTaken σ))))) := by
  have n1 : ((-1) : Int32) < 0 ∧ -6 ≤ ((-1) : Int32) := by decide
  have n2 : ((-2) : Int32) < 0 ∧ -6 ≤ ((-2) : Int32) := by decide
  have n3 : ((-3) : Int32) < 0 ∧ -6 ≤ ((-3) : Int32) := by decide
  have n6 : ((-6) : Int32) < 0 ∧ -6 ≤ ((-6) : Int32) := by decide
  have n4 : ((-4) : Int32) < 0 ∧ -6 ≤ ((-4) : Int32) := by decide
  have hp := isPart_isIn p2
  have hw : ¬ sNw (cS (xNow σ)) = 0 → 0 < sNw (cS (xNow σ)) := fun c => Int32.lt_of_le_of_ne h.1.1.2.2.2.1.1 (fun q => c q.symm)
  have hq : ¬ sNq (cS (xNow σ)) = 0 → 0 < sNq (cS (xNow σ)) := fun c => Int32.lt_of_le_of_ne h.1.1.2.2.1.1 (fun q => c q.symm)
  have hz := h.2.2.2.1
  unfold vc_X2_lots whyLots boundI rsX rfX
  rw [hp]
  generalize okX σ = OKX at *
  generalize hZ : zC = Z at *
  grind (splits := 40)
set_option maxRecDepth 20000 in
set_option maxHeartbeats 2000000 in
theorem v_X2_image (σ : KX) (h : okX σ) : vc_X2_image σ (fun r u => (r = (sAsked (cS (xNow σ))) ∧ u = (((xNow σ), ((xNow σ)), (xTrial σ), (xScr σ), (xRow σ), (xRefus σ), (xKept σ), (xRowLen σ), (1))))) := by
  exact ⟨⟨h.2.2.1, h.2.1⟩, rfl, rfl⟩
set_option maxRecDepth 20000 in
set_option maxHeartbeats 2000000 in
theorem v_X2_on (σ : KX) (h : okX σ) : vc_X2_on σ (fun r u => (r = (rsX (if xIsTaken σ = 0 then -3 else 0) (sAsked (cS (xTaken σ)))) ∧ u = (((if xIsTaken σ = 0 then xNow σ else xTaken σ), (xTaken σ), (xTrial σ), (xScr σ), (xRow σ), (rfX (xRefus σ) (if xIsTaken σ = 0 then -3 else 0)), (xKept σ), (xRowLen σ), (xIsTaken σ))))) := by
  have n1 : ((-1) : Int32) < 0 ∧ -6 ≤ ((-1) : Int32) := by decide
  have n2 : ((-2) : Int32) < 0 ∧ -6 ≤ ((-2) : Int32) := by decide
  have n3 : ((-3) : Int32) < 0 ∧ -6 ≤ ((-3) : Int32) := by decide
  have n6 : ((-6) : Int32) < 0 ∧ -6 ≤ ((-6) : Int32) := by decide
  have h1 := h.2.1
  have h2 := h.2.2.1
  clear h
  unfold vc_X2_on rsX rfX
  generalize zC (xNow σ) = A at *
  generalize zC (xTaken σ) = B at *
  grind
set_option maxRecDepth 20000 in
set_option maxHeartbeats 2000000 in
theorem v_X2_count (σ : KX) (p0 : Int32) (h : okX σ) : vc_X2_count σ p0 (fun r => r = (countX (xNow σ) (xRefus σ) (xRowLen σ) (zLen (xScr σ)) p0)) := by
  have hi : ¬ (p0 < 11) → ¬ (16 < p0) → vp_in (p0 - 10) 7 := fun a b => sub10_vin ⟨Int32.not_lt.mp a, Int32.not_lt.mp b⟩
  have hC := h.1
  clear h
  unfold vc_X2_count countX
  generalize okC (xNow σ) = OKC at *
  grind (splits := 40)
