set_option maxRecDepth 20000 in
set_option maxHeartbeats 2000000 in
theorem v_X0_dropFirstHeard (σ : KC) : vc_X0_dropFirstHeard σ (fun u => u = (((mkS (sCase (cS σ)) (sAsked (cS σ)) (sNq (cS σ)) (sNw (cS σ)) 11 (sForm (cS σ)) (sFirst (cS σ)) (sSecond (cS σ)) (sKind (cS σ)) (sFigure (cS σ)) (sKnows (cS σ)) (dropF (sWhom (cS σ))) (dropF (sWhat (cS σ))) (dropF (sSaid (cS σ))) (dropF (sWhen (cS σ)))), (cNeeded σ), (cTruth σ)))) := by
  have e : ∀ f : FI, va_cpy f f (1 : Int32).toNatClampNeg (0 : Int32).toNatClampNeg (11 : Int32).toNatClampNeg = dropF f := cpy_drop
  unfold vc_X0_dropFirstHeard
  rw [e, e, e, e]
set_option maxRecDepth 20000 in
set_option maxHeartbeats 2000000 in
theorem v_X2_letter (σ : KX) (p0 : Int32) (h : okX σ) : vc_X2_letter σ p0 (fun r u => (r = (rsX (whyLetter (zLen (xScr σ)) p0) (zLen (xScr σ) + 1)) ∧ u = (((xNow σ), (xTaken σ), (xTrial σ), (if whyLetter (zLen (xScr σ)) p0 = 0 then (zLen (xScr σ) + 1, upd (zText (xScr σ)) (zLen (xScr σ)).toNatClampNeg p0) else xScr σ), (xRow σ), (rfX (xRefus σ) (whyLetter (zLen (xScr σ)) p0)), (xKept σ), (xRowLen σ), (xIsTaken σ))))) := by
  have n1 : ((-1) : Int32) < 0 ∧ -6 ≤ ((-1) : Int32) := by decide
  have n2 : ((-2) : Int32) < 0 ∧ -6 ≤ ((-2) : Int32) := by decide
  have n3 : ((-3) : Int32) < 0 ∧ -6 ≤ ((-3) : Int32) := by decide
  have n6 : ((-6) : Int32) < 0 ∧ -6 ≤ ((-6) : Int32) := by decide
  have n4 : ((-4) : Int32) < 0 ∧ -6 ≤ ((-4) : Int32) := by decide
  obtain ⟨n, hn, en⟩ := nI_up (M := 96) (n := 96) (by decide) h.2.2.2.2.1
  have hl := h.2.2.2.2.1
  have hc : 0 ≤ p0 → ¬ 255 < p0 → vp_nar .char ((p0.toUInt32 % 65536).toInt32) = p0 := fun a b => char_id ⟨a, Int32.not_lt.mp b⟩
  have h96 : zLen (xScr σ) < 96 ↔ ¬ zLen (xScr σ) = 96 := by
    rw [en]
    constructor
    · intro a b; rw [b] at a; exact absurd a (by decide)
    · intro a
      refine nI_lt (b := 96) ?_ (by decide)
      rcases Nat.lt_or_ge n 96 with q | q
      · exact q
      · exact absurd (by rw [show n = 96 by omega]; rfl) a
  clear h en
  unfold vc_X2_letter whyLetter rsX rfX boundI
  grind (splits := 40)
set_option maxRecDepth 20000 in
set_option maxHeartbeats 2000000 in
theorem v_X2_fact (σ : KX) (p0 : Int32) (h : okX σ) : vc_X2_fact σ p0 (fun r u => (r = (rsX (whyFact p0) ((sCase (cS (xNow σ)) >>> (p0 &&& 31)) &&& 1)) ∧ u = (((xNow σ), (xTaken σ), (xTrial σ), (xScr σ), (xRow σ), (rfX (xRefus σ) (whyFact p0)), (xKept σ), (xRowLen σ), (xIsTaken σ))))) := by
  have n1 : ((-1) : Int32) < 0 ∧ -6 ≤ ((-1) : Int32) := by decide
  have n2 : ((-2) : Int32) < 0 ∧ -6 ≤ ((-2) : Int32) := by decide
  have n3 : ((-3) : Int32) < 0 ∧ -6 ≤ ((-3) : Int32) := by decide
  have n6 : ((-6) : Int32) < 0 ∧ -6 ≤ ((-6) : Int32) := by decide
  unfold vc_X2_fact whyFact rsX rfX; clear h; grind
set_option maxRecDepth 20000 in
set_option maxHeartbeats 2000000 in
theorem v_X2_question (σ : KX) (p0 : Int32) (p1 : Int32) (h : okX σ) : vc_X2_question σ p0 p1 (fun r u => (r = (rsX (whyQuestion (cS (xNow σ)) p0 p1) (questionX (xNow σ) p0 p1)) ∧ u = (((xNow σ), (xTaken σ), (xTrial σ), (xScr σ), (xRow σ), (rfX (xRefus σ) (whyQuestion (cS (xNow σ)) p0 p1)), (xKept σ), (xRowLen σ), (xIsTaken σ))))) := by
  have n1 : ((-1) : Int32) < 0 ∧ -6 ≤ ((-1) : Int32) := by decide
  have n2 : ((-2) : Int32) < 0 ∧ -6 ≤ ((-2) : Int32) := by decide
  have n3 : ((-3) : Int32) < 0 ∧ -6 ≤ ((-3) : Int32) := by decide
  have n6 : ((-6) : Int32) < 0 ∧ -6 ≤ ((-6) : Int32) := by decide
  have hQ := hasQ_isQ h.1.1
  have hW := hasW_isW h.1.1
  have hq2 : ¬ isQuestionI (cS (xNow σ)) p0 = 0 → vp_in p0 8 := fun c => inQ_vin h.1.1 (isQ_in c)
  have hC := h.1
  clear h
  unfold vc_X2_question whyQuestion questionX rsX rfX
  rw [hQ]
  generalize okC (xNow σ) = OKC at *
  grind (splits := 40) [b2i]
set_option maxRecDepth 20000 in
set_option maxHeartbeats 2000000 in
theorem v_X2_witness (σ : KX) (p0 : Int32) (p1 : Int32) (h : okX σ) : vc_X2_witness σ p0 p1 (fun r u => (r = (rsX (whyWitness (cS (xNow σ)) p0 p1) (witnessV (cS (xNow σ)) p0 p1)) ∧ u = (((xNow σ), (xTaken σ), (xTrial σ), (xScr σ), (xRow σ), (rfX (xRefus σ) (whyWitness (cS (xNow σ)) p0 p1)), (xKept σ), (xRowLen σ), (xIsTaken σ))))) := by
  have n1 : ((-1) : Int32) < 0 ∧ -6 ≤ ((-1) : Int32) := by decide
  have n2 : ((-2) : Int32) < 0 ∧ -6 ≤ ((-2) : Int32) := by decide
  have n3 : ((-3) : Int32) < 0 ∧ -6 ≤ ((-3) : Int32) := by decide
  have n6 : ((-6) : Int32) < 0 ∧ -6 ≤ ((-6) : Int32) := by decide
  have hQ := hasQ_isQ h.1.1
  have hW := hasW_isW h.1.1
  have hq2 : ¬ isWitnessI (cS (xNow σ)) p0 = 0 → vp_in p0 5 := fun c => inW_vin h.1.1 (isW_in c)
  clear h
  unfold vc_X2_witness whyWitness witnessV rsX rfX
  rw [hW]
  grind (splits := 40)
set_option maxRecDepth 20000 in
set_option maxHeartbeats 2000000 in
theorem v_X2_asks (σ : KX) (p0 : Int32) (p1 : Int32) (h : okX σ) : vc_X2_asks σ p0 p1 (fun r u => (r = (rsX (whyAsks (cS (xNow σ)) p0 p1) (askV (cS (xNow σ)) p0 p1)) ∧ u = ((((if whyAsks (cS (xNow σ)) p0 p1 = 0 then askS (cS (xNow σ)) p0 p1 else (cS (xNow σ))), (cNeeded (xNow σ)), (cTruth (xNow σ))), (xTaken σ), (xTrial σ), (xScr σ), (xRow σ), (rfX (xRefus σ) (whyAsks (cS (xNow σ)) p0 p1)), (xKept σ), (xRowLen σ), (xIsTaken σ))))) := by
  have n1 : ((-1) : Int32) < 0 ∧ -6 ≤ ((-1) : Int32) := by decide
  have n2 : ((-2) : Int32) < 0 ∧ -6 ≤ ((-2) : Int32) := by decide
  have n3 : ((-3) : Int32) < 0 ∧ -6 ≤ ((-3) : Int32) := by decide
  have n6 : ((-6) : Int32) < 0 ∧ -6 ≤ ((-6) : Int32) := by decide
  have hQ := hasQ_isQ h.1.1
  have hW := hasW_isW h.1.1
  have hw := @isW_in (cS (xNow σ)) p0
  have hq := @isQ_in (cS (xNow σ)) p1
  have hC := h.1
  have ha := h.2.2.2.2.2.2
  have ha2 : sAsked (cS (xNow σ)) < 999 ↔ ¬ sAsked (cS (xNow σ)) = 999 := ⟨fun a b => by rw [b] at a; exact absurd a (by decide), fun a => Int32.lt_of_le_of_ne ha a⟩
  have ha3 : sAsked (cS (xNow σ)) < 5000 := Int32.lt_of_le_of_lt ha (by decide)
  clear h
  unfold vc_X2_asks whyAsks rsX rfX
  rw [hQ, hW]
  generalize okC (xNow σ) = OKC at *
  grind (splits := 40)
set_option maxRecDepth 20000 in
set_option maxHeartbeats 2000000 in
theorem v_X2_heard (σ : KX) (p0 : Int32) (p1 : Int32) (h : okX σ) : vc_X2_heard σ p0 p1 (fun r u => (r = (rsX (whyHeard (cS (xNow σ)) p0 p1) (heardV (cS (xNow σ)) p0 p1)) ∧ u = (((xNow σ), (xTaken σ), (xTrial σ), (xScr σ), (xRow σ), (rfX (xRefus σ) (whyHeard (cS (xNow σ)) p0 p1)), (xKept σ), (xRowLen σ), (xIsTaken σ))))) := by
  have n1 : ((-1) : Int32) < 0 ∧ -6 ≤ ((-1) : Int32) := by decide
  have n2 : ((-2) : Int32) < 0 ∧ -6 ≤ ((-2) : Int32) := by decide
  have n3 : ((-3) : Int32) < 0 ∧ -6 ≤ ((-3) : Int32) := by decide
  have n6 : ((-6) : Int32) < 0 ∧ -6 ≤ ((-6) : Int32) := by decide
  have hh := @okS_h (cS (xNow σ)) h.1.1 p0
  have hh : 0 ≤ p0 → p0 < sNh (cS (xNow σ)) → vp_in p0 12 := fun a b => (hh a b).1
  have hz := hasP_z h.1.1 p0
  clear h
  unfold vc_X2_heard whyHeard heardV rsX rfX
  simp only [hz]
  grind (splits := 40)
set_option maxRecDepth 20000 in
set_option maxHeartbeats 2000000 in
theorem v_X2_sets (σ : KX) (p0 : Int32) (h : okX σ) : vc_X2_sets σ p0 (fun r u => (r = (rsX (boundI p0 0 63) (sCase (cS (xNow σ)))) ∧ u = ((((if boundI p0 0 63 = 0 then sSetCase (cS (xNow σ)) p0 else (cS (xNow σ))), (cNeeded (xNow σ)), (cTruth (xNow σ))), (xTaken σ), (xTrial σ), (xScr σ), (xRow σ), (rfX (xRefus σ) (boundI p0 0 63)), (xKept σ), (xRowLen σ), (xIsTaken σ))))) := by
  have n1 : ((-1) : Int32) < 0 ∧ -6 ≤ ((-1) : Int32) := by decide
  have n2 : ((-2) : Int32) < 0 ∧ -6 ≤ ((-2) : Int32) := by decide
  have n3 : ((-3) : Int32) < 0 ∧ -6 ≤ ((-3) : Int32) := by decide
  have n6 : ((-6) : Int32) < 0 ∧ -6 ≤ ((-6) : Int32) := by decide
  have n4 : ((-4) : Int32) < 0 ∧ -6 ≤ ((-4) : Int32) := by decide
  unfold vc_X2_sets boundI rsX rfX sSetCase mkS; clear h; grind (splits := 30)
set_option maxRecDepth 20000 in
set_option maxHeartbeats 2000000 in
theorem v_X2_knows (σ : KX) (p0 : Int32) (p1 : Int32) (h : okX σ) : vc_X2_knows σ p0 p1 (fun r u => (r = (rsX (whyKnows (cS (xNow σ)) p0 p1) (sKnows (cS (xNow σ)) p0.toNatClampNeg)) ∧ u = ((((if whyKnows (cS (xNow σ)) p0 p1 = 0 then sSetKnows (cS (xNow σ)) (upd (sKnows (cS (xNow σ))) p0.toNatClampNeg p1) else (cS (xNow σ))), (cNeeded (xNow σ)), (cTruth (xNow σ))), (xTaken σ), (xTrial σ), (xScr σ), (xRow σ), (rfX (xRefus σ) (whyKnows (cS (xNow σ)) p0 p1)), (xKept σ), (xRowLen σ), (xIsTaken σ))))) := by
  have n1 : ((-1) : Int32) < 0 ∧ -6 ≤ ((-1) : Int32) := by decide
  have n2 : ((-2) : Int32) < 0 ∧ -6 ≤ ((-2) : Int32) := by decide
  have n3 : ((-3) : Int32) < 0 ∧ -6 ≤ ((-3) : Int32) := by decide
  have n6 : ((-6) : Int32) < 0 ∧ -6 ≤ ((-6) : Int32) := by decide
  have n4 : ((-4) : Int32) < 0 ∧ -6 ≤ ((-4) : Int32) := by decide
  have hQ := hasQ_isQ h.1.1
  have hW := hasW_isW h.1.1
  have hw2 : ¬ isWitnessI (cS (xNow σ)) p0 = 0 → vp_in p0 5 := fun c => inW_vin h.1.1 (isW_in c)
  clear h
  unfold vc_X2_knows whyKnows boundI rsX rfX sSetKnows mkS
  rw [hW]
  grind (splits := 40)
set_option maxRecDepth 20000 in
set_option maxHeartbeats 2000000 in
theorem v_X2_turn (σ : KX) (p0 : Int32) (p1 : Int32) (p2 : Int32) (h : okX σ) : vc_X2_turn σ p0 p1 p2 (fun r u => (r = (rsX (whyTurn (cS (xNow σ)) p0 p1 p2) (10 * sKind (cS (xNow σ)) p0.toNatClampNeg + sFigure (cS (xNow σ)) p0.toNatClampNeg)) ∧ u = ((((if whyTurn (cS (xNow σ)) p0 p1 p2 = 0 then sSetKF (cS (xNow σ)) (upd (sKind (cS (xNow σ))) p0.toNatClampNeg p1) (upd (sFigure (cS (xNow σ))) p0.toNatClampNeg p2) else (cS (xNow σ))), (cNeeded (xNow σ)), (cTruth (xNow σ))), (xTaken σ), (xTrial σ), (xScr σ), (xRow σ), (rfX (xRefus σ) (whyTurn (cS (xNow σ)) p0 p1 p2)), (xKept σ), (xRowLen σ), (xIsTaken σ))))) := by
  have n1 : ((-1) : Int32) < 0 ∧ -6 ≤ ((-1) : Int32) := by decide
  have n2 : ((-2) : Int32) < 0 ∧ -6 ≤ ((-2) : Int32) := by decide
  have n3 : ((-3) : Int32) < 0 ∧ -6 ≤ ((-3) : Int32) := by decide
  have n6 : ((-6) : Int32) < 0 ∧ -6 ≤ ((-6) : Int32) := by decide
  have n4 : ((-4) : Int32) < 0 ∧ -6 ≤ ((-4) : Int32) := by decide
  have hQ := hasQ_isQ h.1.1
  have hW := hasW_isW h.1.1
  have hw2 : ¬ isWitnessI (cS (xNow σ)) p0 = 0 → vp_in p0 5 := fun c => inW_vin h.1.1 (isW_in c)
  have h6 : (6 ≤ p1) ↔ ¬ p1 ≤ 5 := six_le p1
  clear h
  unfold vc_X2_turn whyTurn isInM boundI rsX rfX sSetKF mkS
  rw [hW]
  grind (splits := 40) [b2i]
set_option maxRecDepth 20000 in
set_option maxHeartbeats 2000000 in
theorem v_X2_empties (σ : KX) : vc_X2_empties σ (fun r u => (r = (sNh (cS (xNow σ))) ∧ u = ((((sSetNh (cS (xNow σ)) 0), (cNeeded (xNow σ)), (cTruth (xNow σ))), (xTaken σ), (xTrial σ), (xScr σ), (xRow σ), (xRefus σ), (xKept σ), (xRowLen σ), (xIsTaken σ))))) := by
  unfold vc_X2_empties sSetNh mkS; grind
set_option maxRecDepth 20000 in
set_option maxHeartbeats 2000000 in
theorem v_X2_answer (σ : KX) (p0 : Int32) (p1 : Int32) (p2 : Int32) (h : okX σ) : vc_X2_answer σ p0 p1 p2 (fun r u => (r = (rsX (whyAnswer (cS (xNow σ)) p0 p1 p2) (replyI (xNow σ) p0 p1 (sAsked (cS (xNow σ)) + 1) (if p2 < 0 then sCase (cS (xNow σ)) else p2))) ∧ u = (((xNow σ), (xTaken σ), (xTrial σ), (xScr σ), (xRow σ), (rfX (xRefus σ) (whyAnswer (cS (xNow σ)) p0 p1 p2)), (xKept σ), (xRowLen σ), (xIsTaken σ))))) := by
  have n1 : ((-1) : Int32) < 0 ∧ -6 ≤ ((-1) : Int32) := by decide
  have n2 : ((-2) : Int32) < 0 ∧ -6 ≤ ((-2) : Int32) := by decide
  have n3 : ((-3) : Int32) < 0 ∧ -6 ≤ ((-3) : Int32) := by decide
  have n6 : ((-6) : Int32) < 0 ∧ -6 ≤ ((-6) : Int32) := by decide
  have n4 : ((-4) : Int32) < 0 ∧ -6 ≤ ((-4) : Int32) := by decide
  have hQ := hasQ_isQ h.1.1
  have hW := hasW_isW h.1.1
  have hC := h.1
  clear h
  unfold vc_X2_answer whyAnswer boundI rsX rfX
  rw [hQ, hW]
  generalize okC (xNow σ) = OKC at *
  grind (splits := 40)
set_option maxRecDepth 20000 in
set_option maxHeartbeats 2000000 in
theorem v_X2_fits (σ : KX) (p0 : Int32) (h : okX σ) : vc_X2_fits σ p0 (fun r u => (r = (rsX (why01 p0) (sizeOrLeastI (fittingL (xNow σ)) p0)) ∧ u = (((xNow σ), (xTaken σ), (xTrial σ), (xScr σ), (xRow σ), (rfX (xRefus σ) (why01 p0)), (xKept σ), (xRowLen σ), (xIsTaken σ))))) := by
  have n1 : ((-1) : Int32) < 0 ∧ -6 ≤ ((-1) : Int32) := by decide
  have n2 : ((-2) : Int32) < 0 ∧ -6 ≤ ((-2) : Int32) := by decide
  have n3 : ((-3) : Int32) < 0 ∧ -6 ≤ ((-3) : Int32) := by decide
  have n6 : ((-6) : Int32) < 0 ∧ -6 ≤ ((-6) : Int32) := by decide
  have hp := isPart_isIn p0
  have hC := h.1
  clear h
  unfold vc_X2_fits why01 rsX rfX
  rw [hp]
  generalize okC (xNow σ) = OKC at *
  grind
set_option maxRecDepth 20000 in
set_option maxHeartbeats 2000000 in
theorem v_X2_jury (σ : KX) (p0 : Int32) (h : okX σ) : vc_X2_jury σ p0 (fun r u => (r = (rsX (why01 p0) (sizeOrLeastI (juryFittingL (xNow σ)) p0)) ∧ u = (((xNow σ), (xTaken σ), (xTrial σ), (xScr σ), (xRow σ), (rfX (xRefus σ) (why01 p0)), (xKept σ), (xRowLen σ), (xIsTaken σ))))) := by
  have n1 : ((-1) : Int32) < 0 ∧ -6 ≤ ((-1) : Int32) := by decide
  have n2 : ((-2) : Int32) < 0 ∧ -6 ≤ ((-2) : Int32) := by decide
  have n3 : ((-3) : Int32) < 0 ∧ -6 ≤ ((-3) : Int32) := by decide
  have n6 : ((-6) : Int32) < 0 ∧ -6 ≤ ((-6) : Int32) := by decide
  have hp := isPart_isIn p0
  have hC := h.1
  clear h
  unfold vc_X2_jury why01 rsX rfX
  rw [hp]
  generalize okC (xNow σ) = OKC at *
  grind
set_option maxRecDepth 20000 in
set_option maxHeartbeats 2000000 in
theorem v_X2_sure (σ : KX) (p0 : Int32) (h : okX σ) : vc_X2_sure σ p0 (fun r u => (r = (rsX (why01 p0) (sureX (if p0 = 0 then fittingL (xNow σ) else juryFittingL (xNow σ)))) ∧ u = (((xNow σ), (xTaken σ), (xTrial σ), (xScr σ), (xRow σ), (rfX (xRefus σ) (why01 p0)), (xKept σ), (xRowLen σ), (xIsTaken σ))))) := by
  have n1 : ((-1) : Int32) < 0 ∧ -6 ≤ ((-1) : Int32) := by decide
  have n2 : ((-2) : Int32) < 0 ∧ -6 ≤ ((-2) : Int32) := by decide
  have n3 : ((-3) : Int32) < 0 ∧ -6 ≤ ((-3) : Int32) := by decide
  have n6 : ((-6) : Int32) < 0 ∧ -6 ≤ ((-6) : Int32) := by decide
  have hp := isPart_isIn p0
  unfold vc_X2_sure
  intro T hT
  rw [hp]
  refine ⟨fun c => ?_, fun c => ⟨n2, rsX_n (by unfold why01; rw [if_pos c]) (by decide), by rw [rfX_n (c := -2) (by unfold why01; rw [if_pos c]) (by decide)]⟩⟩
  have hy : why01 p0 = 0 := by unfold why01; rw [if_neg c]
  simp only [rfX_0 hy, ← rsX_0 hy] at hT
  have key : ∀ l : Int64, l = (if p0 = 0 then fittingL (xNow σ) else juryFittingL (xNow σ)) → T l 0 0 (xRefus σ) := by
    intro l el
    refine set_up (n := 6) (fun f => !decide (isSureI l (factCasesL (nI f)) = 0)) (fun j a => T l a (nI j) (xRefus σ)) ?_ (fun j hj a ih => ?_)
    · refine hT _ _ _ _ ⟨fun _ => ⟨?_, rfl⟩, fun c => absurd (by decide) c⟩
      rw [← el]; rfl
    · refine hT _ _ _ _ ⟨fun c => absurd c (nle_nI (N := 6) (n := 6) (by decide) (by decide) hj), fun _ => ?_⟩
      rw [nI_1]
      refine ⟨fun e => ?_, fun e => ?_⟩
      · have := ih
        simp only [e, decide_true, Bool.not_true, Bool.false_eq_true, if_false] at this
        have e0 : a ||| 0 = a := by simp
        rw [e0] at this; exact this
      · have := ih
        simp only [e, decide_false, Bool.not_false, if_true] at this
        exact this
  exact ⟨fun d => ⟨h.1, key _ (by rw [if_neg d])⟩, fun d => ⟨h.1, key _ (by rw [if_pos d])⟩⟩
set_option maxRecDepth 20000 in
set_option maxHeartbeats 2000000 in
theorem v_X2_next (σ : KX) (p0 : Int32) (h : okX σ) : vc_X2_next σ p0 (fun r u => (r = (rsX (why01 p0) (if p0 = 0 then (bestX (xNow σ) (fittingL (xNow σ))).1 else (bestX (xNow σ) (fittingL (xNow σ))).2)) ∧ u = (((xNow σ), (xTaken σ), (xTrial σ), (xScr σ), (xRow σ), (rfX (xRefus σ) (why01 p0)), (xKept σ), (xRowLen σ), (xIsTaken σ))))) := by
  have n1 : ((-1) : Int32) < 0 ∧ -6 ≤ ((-1) : Int32) := by decide
  have n2 : ((-2) : Int32) < 0 ∧ -6 ≤ ((-2) : Int32) := by decide
  have n3 : ((-3) : Int32) < 0 ∧ -6 ≤ ((-3) : Int32) := by decide
  have n6 : ((-6) : Int32) < 0 ∧ -6 ≤ ((-6) : Int32) := by decide
  have hp := isPart_isIn p0
  unfold vc_X2_next why01 rsX rfX
  rw [hp]
  generalize okX σ = OKX at *
  grind
set_option maxRecDepth 20000 in
set_option maxHeartbeats 2000000 in
theorem v_X2_settle (σ : KX) (p0 : Int32) (p1 : Int32) (p2 : Int32) (h : okX σ) : vc_X2_settle σ p0 p1 p2 (fun r u => ∃ (ex_kept : FL), (r = (rsX (whySettle (cS (xNow σ)) p0 p1 p2) (settleX (xNow σ) p0 (factCasesL p1) p2)) ∧ u = (((xNow σ), (xTaken σ), (xTrial σ), (xScr σ), (xRow σ), (rfX (xRefus σ) (whySettle (cS (xNow σ)) p0 p1 p2)), (ex_kept), (xRowLen σ), (xIsTaken σ))))) := by
  have n1 : ((-1) : Int32) < 0 ∧ -6 ≤ ((-1) : Int32) := by decide
  have n2 : ((-2) : Int32) < 0 ∧ -6 ≤ ((-2) : Int32) := by decide
  have n3 : ((-3) : Int32) < 0 ∧ -6 ≤ ((-3) : Int32) := by decide
  have n6 : ((-6) : Int32) < 0 ∧ -6 ≤ ((-6) : Int32) := by decide
  have hQ := hasQ_isQ h.1.1
  have hW := hasW_isW h.1.1
  have hp := isPart_isIn p2
  unfold vc_X2_settle whySettle why01 rsX rfX
  rw [hp, hW]
  generalize okX σ = OKX at *
  grind (splits := 30)
set_option maxRecDepth 20000 in
set_option maxHeartbeats 2000000 in
theorem v_X2_words (σ : KX) (p0 : Int32) (p1 : Int32) (h : okX σ) : vc_X2_words σ p0 p1 (fun r u => (r = (rsX (whyWords (cS (xNow σ)) p0 p1) (questionsSaidI (xNow σ) p0 (sAsked (cS (xNow σ)) + 1) p1)) ∧ u = (((xNow σ), (xTaken σ), (xTrial σ), (xScr σ), (xRow σ), (rfX (xRefus σ) (whyWords (cS (xNow σ)) p0 p1)), (xKept σ), (xRowLen σ), (xIsTaken σ))))) := by
  have n1 : ((-1) : Int32) < 0 ∧ -6 ≤ ((-1) : Int32) := by decide
  have n2 : ((-2) : Int32) < 0 ∧ -6 ≤ ((-2) : Int32) := by decide
  have n3 : ((-3) : Int32) < 0 ∧ -6 ≤ ((-3) : Int32) := by decide
  have n6 : ((-6) : Int32) < 0 ∧ -6 ≤ ((-6) : Int32) := by decide
  have hQ := hasQ_isQ h.1.1
  have hW := hasW_isW h.1.1
  have hC := h.1
  have h3 : (3 ≤ p1) ↔ ¬ p1 ≤ 2 := three_le p1
  clear h
  unfold vc_X2_words whyWords isInM rsX rfX
  rw [hW]
  generalize okC (xNow σ) = OKC at *
  grind (splits := 40) [b2i]
set_option maxRecDepth 20000 in
set_option maxHeartbeats 2000000 in
theorem v_X2_talker (σ : KX) (h : okX σ) : vc_X2_talker σ (fun r => r = (talkerX (cS (xNow σ)))) := by
  obtain ⟨n, hn, en⟩ := okS_nw h.1.1
  unfold vc_X2_talker
  intro T hT
  refine fold_up (n := n) (fun w (b : Int32 × Int32) => if b.2 < answersOfI (cS (xNow σ)) (nI w) then (nI w, answersOfI (cS (xNow σ)) (nI w)) else b) ((-9, 0) : Int32 × Int32) (fun j b => T b.2 b.1 (nI j)) ?_ (fun w hw b ih => ?_)
  · refine hT _ _ _ ⟨fun _ => ?_, fun c => absurd (le_nI en) c⟩
    rw [talkerX, en, nI_clamp (by omega)]
  · refine hT _ _ _ ⟨fun c => absurd c (nle_nI en (by omega) hw), fun _ => ⟨h.1, ?_⟩⟩
    rw [nI_1]
    exact ⟨fun d => by rw [if_neg (Int32.not_lt.mpr d)] at ih; exact ih, fun d => by rw [if_pos (Int32.not_le.mp d)] at ih; exact ih⟩
set_option maxRecDepth 20000 in
set_option maxHeartbeats 2000000 in
theorem v_X2_trueOf (σ : KX) (p0 : Int32) (h : okX σ) : vc_X2_trueOf σ p0 (fun r u => (r = (rsX (whyW (cS (xNow σ)) p0) (trueOfX (xNow σ) p0)) ∧ u = (((xNow σ), (xTaken σ), (xTrial σ), (xScr σ), (xRow σ), (rfX (xRefus σ) (whyW (cS (xNow σ)) p0)), (xKept σ), (xRowLen σ), (xIsTaken σ))))) := by
  have n1 : ((-1) : Int32) < 0 ∧ -6 ≤ ((-1) : Int32) := by decide
  have n2 : ((-2) : Int32) < 0 ∧ -6 ≤ ((-2) : Int32) := by decide
  have n3 : ((-3) : Int32) < 0 ∧ -6 ≤ ((-3) : Int32) := by decide
  have n6 : ((-6) : Int32) < 0 ∧ -6 ≤ ((-6) : Int32) := by decide
  have hQ := hasQ_isQ h.1.1
  have hW := hasW_isW h.1.1
  obtain ⟨n, hn, en⟩ := okS_nh h.1.1
  unfold vc_X2_trueOf
  intro T hT
  rw [hW]
  refine ⟨fun c => ?_, fun c => ?_⟩
  all_goals first
    | exact ⟨n1, rsX_n (by unfold whyW; rw [if_pos c]) (by decide), by rw [rfX_n (c := -1) (by unfold whyW; rw [if_pos c]) (by decide)]⟩
    | skip
  all_goals
    have hy : whyW (cS (xNow σ)) p0 = 0 := by unfold whyW; rw [if_neg c]
    simp only [rfX_0 hy, ← rsX_0 hy] at hT
    refine cnt_up (n := n) (fun k => decide (sWhom (cS (xNow σ)) k = p0) && decide (sSaid (cS (xNow σ)) k = if cisSoI (xNow σ) (sWhat (cS (xNow σ)) k) = 0 then 0 else 1)) (fun j a => T a (nI j) (xRefus σ)) ?_ (fun j hj a ih => ?_)
    · refine hT _ _ _ ⟨fun _ => ⟨?_, rfl⟩, fun c => absurd (le_nI en) c⟩
      rw [trueOfX, en, nI_clamp (by omega)]
    · refine hT _ _ _ ⟨fun c => absurd c (nle_nI en (by omega) hj), fun _ => ?_⟩
      have hv : vp_in (nI j) 12 := vin (by omega)
      rw [nI_clamp (by omega), nI_1]
      have e0 : a + 0 = a := by simp
      clear hT h hQ hW
      grind [b2i]
set_option maxRecDepth 20000 in
set_option maxHeartbeats 2000000 in
theorem v_X2_betrays (σ : KX) (p0 : Int32) (h : okX σ) : vc_X2_betrays σ p0 (fun r u => (r = (rsX (whyPlace (cS (xNow σ)) p0) (questionsSaidI (xNow σ) (sWhom (cS (xNow σ)) p0.toNatClampNeg) (sWhen (cS (xNow σ)) p0.toNatClampNeg) (sSaid (cS (xNow σ)) p0.toNatClampNeg))) ∧ u = (((xNow σ), (xTaken σ), (xTrial σ), (xScr σ), (xRow σ), (rfX (xRefus σ) (whyPlace (cS (xNow σ)) p0)), (xKept σ), (xRowLen σ), (xIsTaken σ))))) := by
  have n1 : ((-1) : Int32) < 0 ∧ -6 ≤ ((-1) : Int32) := by decide
  have n2 : ((-2) : Int32) < 0 ∧ -6 ≤ ((-2) : Int32) := by decide
  have n3 : ((-3) : Int32) < 0 ∧ -6 ≤ ((-3) : Int32) := by decide
  have n6 : ((-6) : Int32) < 0 ∧ -6 ≤ ((-6) : Int32) := by decide
  have hh := @okS_h (cS (xNow σ)) h.1.1 p0
  have hh : 0 ≤ p0 → p0 < sNh (cS (xNow σ)) → vp_in p0 12 := fun a b => (hh a b).1
  have hz := hasP_z h.1.1 p0
  have hC := h.1
  clear h
  unfold vc_X2_betrays whyPlace rsX rfX
  simp only [hz]
  generalize okC (xNow σ) = OKC at *
  grind (splits := 40)
set_option maxRecDepth 20000 in
set_option maxHeartbeats 2000000 in
theorem v_X2_verdict (σ : KX) (p0 : Int32) (p1 : Int32) (h : okX σ) : vc_X2_verdict σ p0 p1 (fun r u => (r = (rsL (whyVerdict p0 p1) (verdictX (xNow σ) p0 p1)) ∧ u = (((xNow σ), (xTaken σ), (xTrial σ), (xScr σ), (xRow σ), (rfX (xRefus σ) (whyVerdict p0 p1)), (xKept σ), (xRowLen σ), (xIsTaken σ))))) := by
  have n1 : ((-1) : Int32) < 0 ∧ -6 ≤ ((-1) : Int32) := by decide
  have n2 : ((-2) : Int32) < 0 ∧ -6 ≤ ((-2) : Int32) := by decide
  have n3 : ((-3) : Int32) < 0 ∧ -6 ≤ ((-3) : Int32) := by decide
  have n6 : ((-6) : Int32) < 0 ∧ -6 ≤ ((-6) : Int32) := by decide
  have hp := isPart_isIn p1
  have hC := h.1
  clear h
  unfold vc_X2_verdict whyVerdict verdictX why01 rsL rfX
  rw [hp]
  generalize okC (xNow σ) = OKC at *
  grind
set_option maxRecDepth 20000 in
set_option maxHeartbeats 2000000 in
theorem v_X2_same (σ : KX) (p0 : Int32) (h : okX σ) : vc_X2_same σ p0 (fun r u => (r = (rsX (why01 p0) (sameX (xNow σ) p0)) ∧ u = (((xNow σ), (xTaken σ), (xTrial σ), (xScr σ), (xRow σ), (rfX (xRefus σ) (why01 p0)), (xKept σ), (xRowLen σ), (xIsTaken σ))))) := by
  have n1 : ((-1) : Int32) < 0 ∧ -6 ≤ ((-1) : Int32) := by decide
  have n2 : ((-2) : Int32) < 0 ∧ -6 ≤ ((-2) : Int32) := by decide
  have n3 : ((-3) : Int32) < 0 ∧ -6 ≤ ((-3) : Int32) := by decide
  have n6 : ((-6) : Int32) < 0 ∧ -6 ≤ ((-6) : Int32) := by decide
  have hp := isPart_isIn p0
  unfold vc_X2_same why01 rsX rfX
  rw [hp]
  generalize okX σ = OKX at *
  grind
set_option maxRecDepth 20000 in
set_option maxHeartbeats 2000000 in
theorem v_X2_implies (σ : KX) (p0 : Int32) (p1 : Int32) (h : okX σ) : vc_X2_implies σ p0 p1 (fun r u => (r = (rsX (whyImplies (cS (xNow σ)) p0 p1) (impliesX (xNow σ) p0 p1)) ∧ u = (((xNow σ), (xTaken σ), (xTrial σ), (xScr σ), (xRow σ), (rfX (xRefus σ) (whyImplies (cS (xNow σ)) p0 p1)), (xKept σ), (xRowLen σ), (xIsTaken σ))))) := by
  have n1 : ((-1) : Int32) < 0 ∧ -6 ≤ ((-1) : Int32) := by decide
  have n2 : ((-2) : Int32) < 0 ∧ -6 ≤ ((-2) : Int32) := by decide
  have n3 : ((-3) : Int32) < 0 ∧ -6 ≤ ((-3) : Int32) := by decide
  have n6 : ((-6) : Int32) < 0 ∧ -6 ≤ ((-6) : Int32) := by decide
  have hQ := hasQ_isQ h.1.1
  have hW := hasW_isW h.1.1
  have hC := h.1
  clear h
  unfold vc_X2_implies whyImplies impliesX rsX rfX
  simp only [cmp_z]
  rw [hQ, hQ]
  generalize okC (xNow σ) = OKC at *
  grind [b2i]
set_option maxRecDepth 20000 in
set_option maxHeartbeats 2000000 in
theorem v_X2_two (σ : KX) (p0 : Int32) (p1 : Int32) (p2 : Int32) (h : okX σ) : vc_X2_two σ p0 p1 p2 (fun r u => (r = (rsX (whyTwo (cS (xNow σ)) p0 p1 p2) (twoX (xNow σ) p0 p1 p2)) ∧ u = (((xNow σ), (xTaken σ), (xTrial σ), (xScr σ), (xRow σ), (rfX (xRefus σ) (whyTwo (cS (xNow σ)) p0 p1 p2)), (xKept σ), (xRowLen σ), (xIsTaken σ))))) := by
  have n1 : ((-1) : Int32) < 0 ∧ -6 ≤ ((-1) : Int32) := by decide
  have n2 : ((-2) : Int32) < 0 ∧ -6 ≤ ((-2) : Int32) := by decide
  have n3 : ((-3) : Int32) < 0 ∧ -6 ≤ ((-3) : Int32) := by decide
  have n6 : ((-6) : Int32) < 0 ∧ -6 ≤ ((-6) : Int32) := by decide
  have hQ := hasQ_isQ h.1.1
  have hW := hasW_isW h.1.1
  unfold vc_X2_two whyTwo rsX rfX
  rw [hW, hQ, hQ]
  generalize okX σ = OKX at *
  grind
set_option maxRecDepth 20000 in
set_option maxHeartbeats 2000000 in
theorem v_X2_mean (σ : KX) (p0 : Int32) (h : okX σ) : vc_X2_mean σ p0 (fun r u => (r = (rsL (why01 p0) (meanX (xNow σ) p0)) ∧ u = (((xNow σ), (xTaken σ), (xTrial σ), (xScr σ), (xRow σ), (rfX (xRefus σ) (why01 p0)), (xKept σ), (xRowLen σ), (xIsTaken σ))))) := by
  have n1 : ((-1) : Int32) < 0 ∧ -6 ≤ ((-1) : Int32) := by decide
  have n2 : ((-2) : Int32) < 0 ∧ -6 ≤ ((-2) : Int32) := by decide
  have n3 : ((-3) : Int32) < 0 ∧ -6 ≤ ((-3) : Int32) := by decide
  have n6 : ((-6) : Int32) < 0 ∧ -6 ≤ ((-6) : Int32) := by decide
  have hp := isPart_isIn p0
  unfold vc_X2_mean
  intro T hT
  rw [hp]
  refine ⟨fun c => ⟨h.1, ?_⟩, fun c => ⟨n2, rsL_n (by unfold why01; rw [if_pos c]) (by decide), by rw [rfX_n (c := -2) (by unfold why01; rw [if_pos c]) (by decide)]⟩⟩
  have hy : why01 p0 = 0 := by unfold why01; rw [if_neg c]
  simp only [rfX_0 hy, ← rsL_0 hy] at hT
  refine sum_up (n := 6) (fun f => popc (fittingL (xNow σ) &&& factCasesL (nI f))) (fun j a => T (fittingL (xNow σ)) a (nI j) (xRefus σ)) ?_ (fun j hj a ih => ?_)
  · exact hT _ _ _ _ ⟨fun _ => ⟨rfl, rfl⟩, fun c => absurd (by decide) c⟩
  · refine hT _ _ _ _ ⟨fun c => absurd c (nle_nI (N := 6) (n := 6) (by decide) (by decide) hj), fun _ => ?_⟩
    rw [nI_1]; exact ih
set_option maxRecDepth 20000 in
set_option maxHeartbeats 2000000 in
theorem v_X2_whatIs (σ : KX) (p0 : Int32) (p1 : Int32) (h : okX σ) : vc_X2_whatIs σ p0 p1 (fun r u => ∃ (ex_trial : KC), (zC ex_trial) ∧ (r = (rsX (whyWhatIs (cS (xNow σ)) (xRowLen σ) p0 p1) (if p1 = 0 then kindsX (xNow σ) (xRow σ) (xRowLen σ) p0 else knownX (xNow σ) (xRow σ) (xRowLen σ) p0)) ∧ u = (((xNow σ), (xTaken σ), (ex_trial), (xScr σ), (xRow σ), (rfX (xRefus σ) (whyWhatIs (cS (xNow σ)) (xRowLen σ) p0 p1)), (xKept σ), (xRowLen σ), (xIsTaken σ))))) := by
  have n1 : ((-1) : Int32) < 0 ∧ -6 ≤ ((-1) : Int32) := by decide
  have n2 : ((-2) : Int32) < 0 ∧ -6 ≤ ((-2) : Int32) := by decide
  have n3 : ((-3) : Int32) < 0 ∧ -6 ≤ ((-3) : Int32) := by decide
  have n6 : ((-6) : Int32) < 0 ∧ -6 ≤ ((-6) : Int32) := by decide
  have hQ := hasQ_isQ h.1.1
  have hW := hasW_isW h.1.1
  have hp := isPart_isIn p1
  have hi := @isW_in (cS (xNow σ)) p0
  have hz := h.2.2.2.1
  unfold vc_X2_whatIs whyWhatIs rsX rfX
  rw [hp, hW]
  generalize okX σ = OKX at *
  generalize hZ : zC = Z at *
  grind (splits := 30)
set_option maxRecDepth 20000 in
set_option maxHeartbeats 2000000 in
theorem v_X2_row (σ : KX) (p0 : Int32) (h : okX σ) : vc_X2_row σ p0 (fun r u => (r = (rsX (whyRow (xRowLen σ) p0) (xRowLen σ + 1)) ∧ u = (((xNow σ), (xTaken σ), (xTrial σ), (xScr σ), (if whyRow (xRowLen σ) p0 = 0 then upd (xRow σ) (xRowLen σ).toNatClampNeg p0 else xRow σ), (rfX (xRefus σ) (whyRow (xRowLen σ) p0)), (xKept σ), (if whyRow (xRowLen σ) p0 = 0 then xRowLen σ + 1 else xRowLen σ), (xIsTaken σ))))) := by
  have n1 : ((-1) : Int32) < 0 ∧ -6 ≤ ((-1) : Int32) := by decide
  have n2 : ((-2) : Int32) < 0 ∧ -6 ≤ ((-2) : Int32) := by decide
  have n3 : ((-3) : Int32) < 0 ∧ -6 ≤ ((-3) : Int32) := by decide
  have n6 : ((-6) : Int32) < 0 ∧ -6 ≤ ((-6) : Int32) := by decide
  have n4 : ((-4) : Int32) < 0 ∧ -6 ≤ ((-4) : Int32) := by decide
  have hr := h.2.2.2.2.2.1
  have hv : xRowLen σ < 12 → vp_in (xRowLen σ) 12 := fun c => vin_lt (N := 12) (by decide) hr.1 c
  have hr2 : xRowLen σ < 12 ↔ ¬ xRowLen σ = 12 := ⟨fun a b => by rw [b] at a; exact absurd a (by decide), fun a => Int32.lt_of_le_of_ne hr.2 a⟩
  clear h
  unfold vc_X2_row whyRow boundI rsX rfX; grind (splits := 40)
set_option maxRecDepth 20000 in
set_option maxHeartbeats 2000000 in
theorem v_X2_judge (σ : KX) (h : okX σ) : vc_X2_judge σ (fun r u => (r = (wrongX (cS (xNow σ)) (xRow σ) (xRowLen σ)) ∧ u = (((xNow σ), (xTaken σ), (xTrial σ), (xScr σ), (xRow σ), (xRefus σ), (xKept σ), (0), (xIsTaken σ))))) := by
  exact ⟨h, rfl, rfl⟩
set_option maxRecDepth 20000 in
set_option maxHeartbeats 2000000 in
theorem v_X2_clear (σ : KX) : vc_X2_clear σ (fun r u => (r = (xRowLen σ) ∧ u = (((xNow σ), (xTaken σ), (xTrial σ), (xScr σ), (xRow σ), (xRefus σ), (xKept σ), (0), (xIsTaken σ))))) := by
  exact ⟨rfl, rfl⟩
set_option maxRecDepth 20000 in
set_option maxHeartbeats 2000000 in
theorem v_X2_lots (σ : KX) (p0 : Int32) (p1 : Int32) (p2 : Int32) (h : okX σ) : vc_X2_lots σ p0 p1 p2 (fun r u => ∃ (ex_trial : KC), (zC ex_trial) ∧ (r = (rsX (whyLots (cS (xNow σ)) p0 p2) (lotsX (xNow σ) p0 p1 p2)) ∧ u = (((xNow σ), (xTaken σ), (ex_trial), (xScr σ), (xRow σ), (rfX (xRefus σ) (whyLots (cS (xNow σ)) p0 p2)), (xKept σ), (xRowLen σ), (xIsTaken σ))))) := by
  have n1 : ((-1) : Int32) < 0 ∧ -6 ≤ ((-1) : Int32) := by decide
  have n2 : ((-2) : Int32) < 0 ∧ -6 ≤ ((-2) : Int32) := by decide
  have n3 : ((-3) : Int32) < 0 ∧ -6 ≤ ((-3) : Int32) := by decide
  have n6 : ((-6) : Int32) < 0 ∧ -6 ≤ ((-6) : Int32) := by decide
  have n4 : ((-4) : Int32) < 0 ∧ -6 ≤ ((-4) : Int32) := by decide
  have hp := isPart_isIn p2
  have hw : ¬ sNw (cS (xNow σ)) = 0 → 0 < sNw (cS (xNow σ)) := fun c => Int32.lt_of_le_of_ne h.1.1.2.2.2.1.1 (fun q => c q.symm)
  have hq : ¬ sNq (cS (xNow σ)) = 0 → 0 < sNq (cS (xNow σ)) := fun c => Int32.lt_of_le_of_ne h.1.1.2.2.1.1 (fun q => c q.symm)
  have hz := h.2.2.2.1
  unfold vc_X2_lots whyLots boundI rsX rfX
  rw [hp]
  generalize okX σ = OKX at *
  generalize hZ : zC = Z at *
  grind (splits := 40)
set_option maxRecDepth 20000 in
set_option maxHeartbeats 2000000 in
theorem v_X2_image (σ : KX) (h : okX σ) : vc_X2_image σ (fun r u => (r = (sAsked (cS (xNow σ))) ∧ u = (((xNow σ), ((xNow σ)), (xTrial σ), (xScr σ), (xRow σ), (xRefus σ), (xKept σ), (xRowLen σ), (1))))) := by
  exact ⟨⟨h.2.2.1, h.2.1⟩, rfl, rfl⟩
set_option maxRecDepth 20000 in
set_option maxHeartbeats 2000000 in
theorem v_X2_on (σ : KX) (h : okX σ) : vc_X2_on σ (fun r u => (r = (rsX (if xIsTaken σ = 0 then -3 else 0) (sAsked (cS (xTaken σ)))) ∧ u = (((if xIsTaken σ = 0 then xNow σ else xTaken σ), (xTaken σ), (xTrial σ), (xScr σ), (xRow σ), (rfX (xRefus σ) (if xIsTaken σ = 0 then -3 else 0)), (xKept σ), (xRowLen σ), (xIsTaken σ))))) := by
  have n1 : ((-1) : Int32) < 0 ∧ -6 ≤ ((-1) : Int32) := by decide
  have n2 : ((-2) : Int32) < 0 ∧ -6 ≤ ((-2) : Int32) := by decide
  have n3 : ((-3) : Int32) < 0 ∧ -6 ≤ ((-3) : Int32) := by decide
  have n6 : ((-6) : Int32) < 0 ∧ -6 ≤ ((-6) : Int32) := by decide
  have h1 := h.2.1
  have h2 := h.2.2.1
  clear h
  unfold vc_X2_on rsX rfX
  generalize zC (xNow σ) = A at *
  generalize zC (xTaken σ) = B at *
  grind
set_option maxRecDepth 20000 in
set_option maxHeartbeats 2000000 in
theorem v_X2_count (σ : KX) (p0 : Int32) (h : okX σ) : vc_X2_count σ p0 (fun r => r = (countX (xNow σ) (xRefus σ) (xRowLen σ) (zLen (xScr σ)) p0)) := by
  have hi : ¬ (p0 < 11) → ¬ (16 < p0) → vp_in (p0 - 10) 7 := fun a b => sub10_vin ⟨Int32.not_lt.mp a, Int32.not_lt.mp b⟩
  have hC := h.1
  clear h
  unfold vc_X2_count countX
  generalize okC (xNow σ) = OKC at *
  grind (splits := 40)
