set_option maxRecDepth 20000 in
set_option maxHeartbeats 2000000 in
theorem v_X0_ask (σ : KC) (p0 : Int32) (p1 : Int32) (h : okC σ ∧ inW (cS σ) p0 ∧ inQ (cS σ) p1 ∧ sAsked (cS σ) < 5000) : vc_X0_ask σ p0 p1 (fun r u => (r = (askV (cS σ) p0 p1) ∧ u = (((askS (cS σ) p0 p1), (cNeeded σ), (cTruth σ))))) := by
  obtain ⟨hC, hW, hQ, ha⟩ := h
  obtain ⟨n, hn, en⟩ := okS_nh hC.1
  have hm : okC (mkS (sCase (cS σ)) (sAsked (cS σ) + 1) (sNq (cS σ)) (sNw (cS σ)) (sNh (cS σ)) (sForm (cS σ)) (sFirst (cS σ)) (sSecond (cS σ)) (sKind (cS σ)) (sFigure (cS σ)) (sKnows (cS σ)) (sWhom (cS σ)) (sWhat (cS σ)) (sSaid (cS σ)) (sWhen (cS σ)), cNeeded σ, cTruth σ) := ⟨okS_mid hC.1 ha hC.1.2.2.2.2.1 (fun k hk hk2 => hC.1.2.2.2.2.2.2.2 k hk hk2), hC.2⟩
  have e := (reply_case hm hW hQ (sAsked (cS σ) + 1)).trans (show _ = askV (cS σ) p0 p1 from rfl)
  simp only [mkS] at e
  unfold vc_X0_ask
  refine ⟨hm, fun c => ?_, fun c => ?_⟩
  · have hv : vp_in (sNh (cS σ)) 12 := vin_lt (N := 12) (by decide) hC.1.2.2.2.2.1.1 c
    have c2 : ¬ sNh (cS σ) = 12 := fun q => by rw [q] at c; exact absurd c (by decide)
    refine ⟨hv, hv, hv, hv, e, ?_⟩
    unfold askS shF shN
    rw [if_neg c2, if_neg c2, if_neg c2, if_neg c2, if_neg c2, ← e]
  · have c2 : sNh (cS σ) = 12 := Int32.le_antisymm hC.1.2.2.2.2.1.2 (Int32.not_lt.mp c)
    have hv : vp_in 11 12 := vin (k := 11) (n := 12) (by decide)
    refine ⟨hv, hv, hv, hv, e, ?_⟩
    unfold askS shF shN
    rw [if_pos c2, if_pos c2, if_pos c2, if_pos c2, if_pos c2, ← e]
    rfl
set_option maxRecDepth 20000 in
set_option maxHeartbeats 2000000 in
theorem v_X2_fillKept (σ : KX) (p0 : Int32) (h : okX σ) : vc_X2_fillKept σ p0 (fun u => u = (((xNow σ), (xTaken σ), (xTrial σ), (xScr σ), (xRow σ), (xRefus σ), (keptX (xNow σ) p0 (xKept σ)), (xRowLen σ), (xIsTaken σ)))) := by
  obtain ⟨n, hn, en⟩ := okS_nq h.1.1
  have ec : (sNq (cS (xNow σ))).toNatClampNeg = n := by rw [en, nI_clamp (by omega)]
  unfold vc_X2_fillKept
  intro T2 T9 h2 h9
  have row : ∀ j, j < 4 → T2 (nI (j + 1)) (fun k => if k < 8 * (j + 1) ∧ k % 8 < n then keepingL (xNow σ) p0 (nI (k % 8)) (sAsked (cS (xNow σ)) + 1 + nI (k / 8)) else xKept σ k) → T2 (nI j) (fun k => if k < 8 * j ∧ k % 8 < n then keepingL (xNow σ) p0 (nI (k % 8)) (sAsked (cS (xNow σ)) + 1 + nI (k / 8)) else xKept σ k) := by
    intro j hj hT
    refine h2 _ _ ⟨fun c => absurd c (nle_nI (N := 4) (n := 4) (by decide) (by decide) hj), fun _ => ?_⟩
    refine upN n (fun i => T9 (nI j) (nI i) (fun k => if k < 8 * j + i ∧ k % 8 < n then keepingL (xNow σ) p0 (nI (k % 8)) (sAsked (cS (xNow σ)) + 1 + nI (k / 8)) else xKept σ k)) ?_ (fun i hi ih => ?_) 0 (Nat.zero_le _)
    · refine h9 _ _ _ ⟨fun _ => ?_, fun c => absurd (le_nI en) c⟩
      rw [nI_1]
      have e : (fun k => if k < 8 * j + n ∧ k % 8 < n then keepingL (xNow σ) p0 (nI (k % 8)) (sAsked (cS (xNow σ)) + 1 + nI (k / 8)) else xKept σ k) = (fun k => if k < 8 * (j + 1) ∧ k % 8 < n then keepingL (xNow σ) p0 (nI (k % 8)) (sAsked (cS (xNow σ)) + 1 + nI (k / 8)) else xKept σ k) := by
        funext k
        have : (k < 8 * j + n ∧ k % 8 < n) ↔ (k < 8 * (j + 1) ∧ k % 8 < n) := by omega
        simp only [this]
      rw [e]; exact hT
    · have e1 : nI j * 8 + nI i = nI (8 * j + i) := by rw [show (8 : Int32) = nI 8 from rfl, pk_mul, nI_add, Nat.mul_comm]
      refine h9 _ _ _ ⟨fun c => absurd c (nle_nI en (by omega) hi), fun _ => ⟨h.1, ?_⟩⟩
      rw [e1, nI_clamp (by omega), nI_1]
      refine ⟨vin (by omega), ?_⟩
      have e2 := kj_step (g := fun k => keepingL (xNow σ) p0 (nI (k % 8)) (sAsked (cS (xNow σ)) + 1 + nI (k / 8))) (old := xKept σ) (nq := n) (m := 8 * j + i) (by omega)
      have e3 : (8 * j + i) % 8 = i := by omega
      have e4 : (8 * j + i) / 8 = j := by omega
      simp only [e3, e4] at e2
      rw [e2]
      exact ih
  have e0 : (fun k => if k < 8 * 0 ∧ k % 8 < n then keepingL (xNow σ) p0 (nI (k % 8)) (sAsked (cS (xNow σ)) + 1 + nI (k / 8)) else xKept σ k) = xKept σ := by funext k; rw [if_neg (by omega)]
  have e4 : keptX (xNow σ) p0 (xKept σ) = (fun k => if k < 8 * 4 ∧ k % 8 < n then keepingL (xNow σ) p0 (nI (k % 8)) (sAsked (cS (xNow σ)) + 1 + nI (k / 8)) else xKept σ k) := by unfold keptX; rw [ec]
  have r0 := row 0 (by decide) (row 1 (by decide) (row 2 (by decide) (row 3 (by decide) (by
    refine h2 _ _ ⟨fun _ => ?_, fun c => absurd (by decide) c⟩
    rw [e4]))))
  rw [e0] at r0
  exact r0
set_option maxRecDepth 20000 in
set_option maxHeartbeats 2000000 in
theorem v_X2_waysSure_0 (σ : FL) (p1 : Int32) (p2 : Int64) (p3 : Int64) (p4 : Int32) (p5 : Int32) (h : 0 ≤ p1 ∧ p1 ≤ 8 ∧ 0 ≤ p4 ∧ p4 ≤ p5 ∧ p5 ≤ 4 ∧ p5 - p4 ≤ 0) : vc_X2_waysSure_0 σ p1 p2 p3 p4 p5 (fun r => r = (waysN σ p1.toNatClampNeg p3 (p5 - p4).toNatClampNeg p4.toNatClampNeg p2)) := by
  obtain ⟨q0, q1, a0, a1, a2, a3⟩ := h
  obtain ⟨q, hq, rfl⟩ := nI_up (M := 8) (n := 8) (by decide) ⟨q0, q1⟩
  obtain ⟨b, hb, rfl⟩ := nI_up (M := 4) (n := 4) (by decide) ⟨Int32.le_trans a0 a1, a2⟩
  obtain ⟨a, ha, rfl⟩ := le_of_nI a0 a1 (by omega)
  rw [pk_sub ha] at a3 ⊢
  have hd : b - a ≤ 0 := (nI_leI (b := 0) (by omega) (by decide)).mp a3
  rw [nI_clamp (show q < 2 ^ 31 by omega), nI_clamp (show b - a < 2 ^ 31 by omega), nI_clamp (show a < 2 ^ 31 by omega)]
  have hend : b = a → ((isSureI p2 p3 = 0 → (0 : Int32) = waysN σ q p3 (b - a) a p2) ∧ (¬ isSureI p2 p3 = 0 → (1 : Int32) = waysN σ q p3 (b - a) a p2)) := by
    intro e
    rw [show b - a = 0 by omega, waysN]
    have hs : isSureI p2 p3 = 0 ∨ isSureI p2 p3 = 1 := by unfold isSureI b2i; split; exact Or.inr rfl; exact Or.inl rfl
    exact ⟨fun z => z.symm, fun z => (hs.resolve_left z).symm⟩
  unfold vc_X2_waysSure_0
  intro T hT
  refine ⟨fun c => ?_, fun c => ?_⟩
  · have e : b = a := by have := (nI_leI (by omega) (by omega)).mp c; omega
    exact hend e
  · exact absurd (nI_le (show b ≤ a by omega) (by omega)) c
set_option maxRecDepth 20000 in
set_option maxHeartbeats 2000000 in
theorem v_X2_waysSure_1 (σ : FL) (p1 : Int32) (p2 : Int64) (p3 : Int64) (p4 : Int32) (p5 : Int32) (h : 0 ≤ p1 ∧ p1 ≤ 8 ∧ 0 ≤ p4 ∧ p4 ≤ p5 ∧ p5 ≤ 4 ∧ p5 - p4 ≤ 1) : vc_X2_waysSure_1 σ p1 p2 p3 p4 p5 (fun r => r = (waysN σ p1.toNatClampNeg p3 (p5 - p4).toNatClampNeg p4.toNatClampNeg p2)) := by
  obtain ⟨q0, q1, a0, a1, a2, a3⟩ := h
  obtain ⟨q, hq, rfl⟩ := nI_up (M := 8) (n := 8) (by decide) ⟨q0, q1⟩
  obtain ⟨b, hb, rfl⟩ := nI_up (M := 4) (n := 4) (by decide) ⟨Int32.le_trans a0 a1, a2⟩
  obtain ⟨a, ha, rfl⟩ := le_of_nI a0 a1 (by omega)
  rw [pk_sub ha] at a3 ⊢
  have hd : b - a ≤ 1 := (nI_leI (b := 1) (by omega) (by decide)).mp a3
  rw [nI_clamp (show q < 2 ^ 31 by omega), nI_clamp (show b - a < 2 ^ 31 by omega), nI_clamp (show a < 2 ^ 31 by omega)]
  have hend : b = a → ((isSureI p2 p3 = 0 → (0 : Int32) = waysN σ q p3 (b - a) a p2) ∧ (¬ isSureI p2 p3 = 0 → (1 : Int32) = waysN σ q p3 (b - a) a p2)) := by
    intro e
    rw [show b - a = 0 by omega, waysN]
    have hs : isSureI p2 p3 = 0 ∨ isSureI p2 p3 = 1 := by unfold isSureI b2i; split; exact Or.inr rfl; exact Or.inl rfl
    exact ⟨fun z => z.symm, fun z => (hs.resolve_left z).symm⟩
  unfold vc_X2_waysSure_1
  intro T hT
  refine ⟨fun c => ?_, fun c => ?_⟩
  · have e : b = a := by have := (nI_leI (by omega) (by omega)).mp c; omega
    exact hend e
  · have hab : a < b := Nat.lt_of_not_le (fun z => c (nI_le z (by omega)))
    refine ⟨fun _ => ?_, fun d => absurd (nI_lt (b := 4) (show a < 4 by omega) (by decide)) d⟩
    obtain ⟨dd, hdd⟩ : ∃ dd, b - a = dd + 1 := ⟨b - a - 1, by omega⟩
    refine sum_up (n := q) (fun i => waysN σ q p3 dd (a + 1) (p2 &&& σ (a * 8 + i))) (fun j x => T x (nI j)) ?_ (fun j hj x ih => ?_)
    · refine hT _ _ ⟨fun _ => ?_, fun c => absurd (Int32.le_refl _) c⟩
      rw [hdd, waysN]
    · have e1 : nI a * 8 + nI j = nI (a * 8 + j) := by rw [show (8 : Int32) = nI 8 from rfl, pk_mul, nI_add]
      refine hT _ _ ⟨fun c => absurd c (nI_ge hj (by omega)), fun _ => ?_⟩
      rw [e1, nI_1, nI_1, pk_sub (show a + 1 ≤ b by omega)]
      refine ⟨vin (by omega), ⟨q0, q1, nI_pos' (by omega), nI_le (by omega) (by omega), a2, nI_le (b := 0) (by omega) (by decide)⟩, ?_⟩
      rw [nI_clamp (show q < 2 ^ 31 by omega), nI_clamp (show b - (a + 1) < 2 ^ 31 by omega), nI_clamp (show a + 1 < 2 ^ 31 by omega), nI_clamp (show a * 8 + j < 2 ^ 31 by omega), show b - (a + 1) = dd by omega]
      exact ih
set_option maxRecDepth 20000 in
set_option maxHeartbeats 2000000 in
theorem v_X2_waysSure_2 (σ : FL) (p1 : Int32) (p2 : Int64) (p3 : Int64) (p4 : Int32) (p5 : Int32) (h : 0 ≤ p1 ∧ p1 ≤ 8 ∧ 0 ≤ p4 ∧ p4 ≤ p5 ∧ p5 ≤ 4 ∧ p5 - p4 ≤ 2) : vc_X2_waysSure_2 σ p1 p2 p3 p4 p5 (fun r => r = (waysN σ p1.toNatClampNeg p3 (p5 - p4).toNatClampNeg p4.toNatClampNeg p2)) := by
  obtain ⟨q0, q1, a0, a1, a2, a3⟩ := h
  obtain ⟨q, hq, rfl⟩ := nI_up (M := 8) (n := 8) (by decide) ⟨q0, q1⟩
  obtain ⟨b, hb, rfl⟩ := nI_up (M := 4) (n := 4) (by decide) ⟨Int32.le_trans a0 a1, a2⟩
  obtain ⟨a, ha, rfl⟩ := le_of_nI a0 a1 (by omega)
  rw [pk_sub ha] at a3 ⊢
  have hd : b - a ≤ 2 := (nI_leI (b := 2) (by omega) (by decide)).mp a3
  rw [nI_clamp (show q < 2 ^ 31 by omega), nI_clamp (show b - a < 2 ^ 31 by omega), nI_clamp (show a < 2 ^ 31 by omega)]
  have hend : b = a → ((isSureI p2 p3 = 0 → (0 : Int32) = waysN σ q p3 (b - a) a p2) ∧ (¬ isSureI p2 p3 = 0 → (1 : Int32) = waysN σ q p3 (b - a) a p2)) := by
    intro e
    rw [show b - a = 0 by omega, waysN]
    have hs : isSureI p2 p3 = 0 ∨ isSureI p2 p3 = 1 := by unfold isSureI b2i; split; exact Or.inr rfl; exact Or.inl rfl
    exact ⟨fun z => z.symm, fun z => (hs.resolve_left z).symm⟩
  unfold vc_X2_waysSure_2
  intro T hT
  refine ⟨fun c => ?_, fun c => ?_⟩
  · have e : b = a := by have := (nI_leI (by omega) (by omega)).mp c; omega
    exact hend e
  · have hab : a < b := Nat.lt_of_not_le (fun z => c (nI_le z (by omega)))
    refine ⟨fun _ => ?_, fun d => absurd (nI_lt (b := 4) (show a < 4 by omega) (by decide)) d⟩
    obtain ⟨dd, hdd⟩ : ∃ dd, b - a = dd + 1 := ⟨b - a - 1, by omega⟩
    refine sum_up (n := q) (fun i => waysN σ q p3 dd (a + 1) (p2 &&& σ (a * 8 + i))) (fun j x => T x (nI j)) ?_ (fun j hj x ih => ?_)
    · refine hT _ _ ⟨fun _ => ?_, fun c => absurd (Int32.le_refl _) c⟩
      rw [hdd, waysN]
    · have e1 : nI a * 8 + nI j = nI (a * 8 + j) := by rw [show (8 : Int32) = nI 8 from rfl, pk_mul, nI_add]
      refine hT _ _ ⟨fun c => absurd c (nI_ge hj (by omega)), fun _ => ?_⟩
      rw [e1, nI_1, nI_1, pk_sub (show a + 1 ≤ b by omega)]
      refine ⟨vin (by omega), ⟨q0, q1, nI_pos' (by omega), nI_le (by omega) (by omega), a2, nI_le (b := 1) (by omega) (by decide)⟩, ?_⟩
      rw [nI_clamp (show q < 2 ^ 31 by omega), nI_clamp (show b - (a + 1) < 2 ^ 31 by omega), nI_clamp (show a + 1 < 2 ^ 31 by omega), nI_clamp (show a * 8 + j < 2 ^ 31 by omega), show b - (a + 1) = dd by omega]
      exact ih
set_option maxRecDepth 20000 in
set_option maxHeartbeats 2000000 in
theorem v_X2_waysSure_3 (σ : FL) (p1 : Int32) (p2 : Int64) (p3 : Int64) (p4 : Int32) (p5 : Int32) (h : 0 ≤ p1 ∧ p1 ≤ 8 ∧ 0 ≤ p4 ∧ p4 ≤ p5 ∧ p5 ≤ 4 ∧ p5 - p4 ≤ 3) : vc_X2_waysSure_3 σ p1 p2 p3 p4 p5 (fun r => r = (waysN σ p1.toNatClampNeg p3 (p5 - p4).toNatClampNeg p4.toNatClampNeg p2)) := by
  obtain ⟨q0, q1, a0, a1, a2, a3⟩ := h
  obtain ⟨q, hq, rfl⟩ := nI_up (M := 8) (n := 8) (by decide) ⟨q0, q1⟩
  obtain ⟨b, hb, rfl⟩ := nI_up (M := 4) (n := 4) (by decide) ⟨Int32.le_trans a0 a1, a2⟩
  obtain ⟨a, ha, rfl⟩ := le_of_nI a0 a1 (by omega)
  rw [pk_sub ha] at a3 ⊢
  have hd : b - a ≤ 3 := (nI_leI (b := 3) (by omega) (by decide)).mp a3
  rw [nI_clamp (show q < 2 ^ 31 by omega), nI_clamp (show b - a < 2 ^ 31 by omega), nI_clamp (show a < 2 ^ 31 by omega)]
  have hend : b = a → ((isSureI p2 p3 = 0 → (0 : Int32) = waysN σ q p3 (b - a) a p2) ∧ (¬ isSureI p2 p3 = 0 → (1 : Int32) = waysN σ q p3 (b - a) a p2)) := by
    intro e
    rw [show b - a = 0 by omega, waysN]
    have hs : isSureI p2 p3 = 0 ∨ isSureI p2 p3 = 1 := by unfold isSureI b2i; split; exact Or.inr rfl; exact Or.inl rfl
    exact ⟨fun z => z.symm, fun z => (hs.resolve_left z).symm⟩
  unfold vc_X2_waysSure_3
  intro T hT
  refine ⟨fun c => ?_, fun c => ?_⟩
  · have e : b = a := by have := (nI_leI (by omega) (by omega)).mp c; omega
    exact hend e
  · have hab : a < b := Nat.lt_of_not_le (fun z => c (nI_le z (by omega)))
    refine ⟨fun _ => ?_, fun d => absurd (nI_lt (b := 4) (show a < 4 by omega) (by decide)) d⟩
    obtain ⟨dd, hdd⟩ : ∃ dd, b - a = dd + 1 := ⟨b - a - 1, by omega⟩
    refine sum_up (n := q) (fun i => waysN σ q p3 dd (a + 1) (p2 &&& σ (a * 8 + i))) (fun j x => T x (nI j)) ?_ (fun j hj x ih => ?_)
    · refine hT _ _ ⟨fun _ => ?_, fun c => absurd (Int32.le_refl _) c⟩
      rw [hdd, waysN]
    · have e1 : nI a * 8 + nI j = nI (a * 8 + j) := by rw [show (8 : Int32) = nI 8 from rfl, pk_mul, nI_add]
      refine hT _ _ ⟨fun c => absurd c (nI_ge hj (by omega)), fun _ => ?_⟩
      rw [e1, nI_1, nI_1, pk_sub (show a + 1 ≤ b by omega)]
      refine ⟨vin (by omega), ⟨q0, q1, nI_pos' (by omega), nI_le (by omega) (by omega), a2, nI_le (b := 2) (by omega) (by decide)⟩, ?_⟩
      rw [nI_clamp (show q < 2 ^ 31 by omega), nI_clamp (show b - (a + 1) < 2 ^ 31 by omega), nI_clamp (show a + 1 < 2 ^ 31 by omega), nI_clamp (show a * 8 + j < 2 ^ 31 by omega), show b - (a + 1) = dd by omega]
      exact ih
set_option maxRecDepth 20000 in
set_option maxHeartbeats 2000000 in
theorem v_X2_waysSure_4 (σ : FL) (p1 : Int32) (p2 : Int64) (p3 : Int64) (p4 : Int32) (p5 : Int32) (h : 0 ≤ p1 ∧ p1 ≤ 8 ∧ 0 ≤ p4 ∧ p4 ≤ p5 ∧ p5 ≤ 4 ∧ p5 - p4 ≤ 4) : vc_X2_waysSure_4 σ p1 p2 p3 p4 p5 (fun r => r = (waysN σ p1.toNatClampNeg p3 (p5 - p4).toNatClampNeg p4.toNatClampNeg p2)) := by
  obtain ⟨q0, q1, a0, a1, a2, a3⟩ := h
  obtain ⟨q, hq, rfl⟩ := nI_up (M := 8) (n := 8) (by decide) ⟨q0, q1⟩
  obtain ⟨b, hb, rfl⟩ := nI_up (M := 4) (n := 4) (by decide) ⟨Int32.le_trans a0 a1, a2⟩
  obtain ⟨a, ha, rfl⟩ := le_of_nI a0 a1 (by omega)
  rw [pk_sub ha] at a3 ⊢
  have hd : b - a ≤ 4 := (nI_leI (b := 4) (by omega) (by decide)).mp a3
  rw [nI_clamp (show q < 2 ^ 31 by omega), nI_clamp (show b - a < 2 ^ 31 by omega), nI_clamp (show a < 2 ^ 31 by omega)]
  have hend : b = a → ((isSureI p2 p3 = 0 → (0 : Int32) = waysN σ q p3 (b - a) a p2) ∧ (¬ isSureI p2 p3 = 0 → (1 : Int32) = waysN σ q p3 (b - a) a p2)) := by
    intro e
    rw [show b - a = 0 by omega, waysN]
    have hs : isSureI p2 p3 = 0 ∨ isSureI p2 p3 = 1 := by unfold isSureI b2i; split; exact Or.inr rfl; exact Or.inl rfl
    exact ⟨fun z => z.symm, fun z => (hs.resolve_left z).symm⟩
  unfold vc_X2_waysSure_4
  intro T hT
  refine ⟨fun c => ?_, fun c => ?_⟩
  · have e : b = a := by have := (nI_leI (by omega) (by omega)).mp c; omega
    exact hend e
  · have hab : a < b := Nat.lt_of_not_le (fun z => c (nI_le z (by omega)))
    refine ⟨fun _ => ?_, fun d => absurd (nI_lt (b := 4) (show a < 4 by omega) (by decide)) d⟩
    obtain ⟨dd, hdd⟩ : ∃ dd, b - a = dd + 1 := ⟨b - a - 1, by omega⟩
    refine sum_up (n := q) (fun i => waysN σ q p3 dd (a + 1) (p2 &&& σ (a * 8 + i))) (fun j x => T x (nI j)) ?_ (fun j hj x ih => ?_)
    · refine hT _ _ ⟨fun _ => ?_, fun c => absurd (Int32.le_refl _) c⟩
      rw [hdd, waysN]
    · have e1 : nI a * 8 + nI j = nI (a * 8 + j) := by rw [show (8 : Int32) = nI 8 from rfl, pk_mul, nI_add]
      refine hT _ _ ⟨fun c => absurd c (nI_ge hj (by omega)), fun _ => ?_⟩
      rw [e1, nI_1, nI_1, pk_sub (show a + 1 ≤ b by omega)]
      refine ⟨vin (by omega), ⟨q0, q1, nI_pos' (by omega), nI_le (by omega) (by omega), a2, nI_le (b := 3) (by omega) (by decide)⟩, ?_⟩
      rw [nI_clamp (show q < 2 ^ 31 by omega), nI_clamp (show b - (a + 1) < 2 ^ 31 by omega), nI_clamp (show a + 1 < 2 ^ 31 by omega), nI_clamp (show a * 8 + j < 2 ^ 31 by omega), show b - (a + 1) = dd by omega]
      exact ih
set_option maxRecDepth 20000 in
set_option maxHeartbeats 2000000 in
theorem v_X2_settling (σ : KX) (p0 : Int32) (p1 : Int64) (p2 : Int32) (h : okX σ) : vc_X2_settling σ p0 p1 p2 (fun r u => ∃ (ex_kept : FL), (r = (settleX (xNow σ) p0 p1 p2) ∧ u = (((xNow σ), (xTaken σ), (xTrial σ), (xScr σ), (xRow σ), (xRefus σ), (ex_kept), (xRowLen σ), (xIsTaken σ))))) := by
  obtain ⟨n, hn, en⟩ := okS_nq h.1.1
  have ec : (sNq (cS (xNow σ))).toNatClampNeg = n := by rw [en, nI_clamp (by omega)]
  have hq8 : 0 ≤ sNq (cS (xNow σ)) ∧ sNq (cS (xNow σ)) ≤ 8 := h.1.1.2.2.1
  unfold vc_X2_settling
  intro T38 T47 h38 h47
  refine ⟨h.1, fun z => ⟨h, ?_⟩, fun z => ?_⟩
  · have hV : settleX (xNow σ) p0 p1 p2 = settleFromX (keptX (xNow σ) p0 (xKept σ)) n (fittingL (xNow σ)) p1 p2 3 1 := by
      unfold settleX
      rw [if_pos z, ec]
      exact settle_congr hn _ _ _ (kept_congr ec _ _) 3 1 (by decide) (by decide)
    rw [hV] at h38 h47
    have key : ∀ d len, 1 ≤ len → len + d = 4 → settleFromX (keptX (xNow σ) p0 (xKept σ)) n (fittingL (xNow σ)) p1 p2 d len = settleFromX (keptX (xNow σ) p0 (xKept σ)) n (fittingL (xNow σ)) p1 p2 3 1 → T38 (fittingL (xNow σ)) (nI len) (keptX (xNow σ) p0 (xKept σ)) := by
      intro d
      induction d with
      | zero =>
        intro len h1 h2 e
        obtain rfl : len = 4 := by omega
        exact h38 _ _ _ ⟨fun _ => ⟨_, e, rfl⟩, fun c => absurd (by decide) c⟩
      | succ d ih =>
        intro len h1 h2 e
        rw [settleFromX] at e
        have hl4 : 1 ≤ nI len ∧ nI len ≤ 4 := ⟨nI_le (a := 1) h1 (by omega), nI_le (b := 4) (by omega) (by decide)⟩
        have e1 : nI len - 1 = nI (len - 1) := by rw [show (1 : Int32) = nI 1 from rfl, pk_sub h1]
        refine h38 _ _ _ ⟨fun c => absurd c (nI_nlt (a := 3) (by omega) (by decide)), fun _ => ?_⟩
        refine first_loop (n := n) (fun q => decide (0 < waysN (keptX (xNow σ) p0 (xKept σ)) n p1 (len - 1) 1 (fittingL (xNow σ) &&& keptX (xNow σ) p0 (xKept σ) q))) (fun j => T47 (fittingL (xNow σ)) (nI len) (nI j) (keptX (xNow σ) p0 (xKept σ))) (fun o => (match o with | some q => if p2 = 0 then nI len else nI q | none => settleFromX (keptX (xNow σ) p0 (xKept σ)) n (fittingL (xNow σ)) p1 p2 d (len + 1)) = settleFromX (keptX (xNow σ) p0 (xKept σ)) n (fittingL (xNow σ)) p1 p2 3 1) 0 (fun g => ?_) (fun j _ hj g1 g0 => ?_) e
        · refine h47 _ _ _ _ ⟨fun _ => ?_, fun c => absurd (by rw [Nat.zero_add]; exact le_nI en) c⟩
          rw [nI_1]; exact ih (len + 1) (by omega) (by omega) g
        · refine h47 _ _ _ _ ⟨fun c => absurd c (nle_nI en (by omega) (by omega)), fun _ => ⟨vin (by omega), ⟨hq8.1, hq8.2, by decide, hl4.1, hl4.2, ?_⟩, ?_⟩⟩
          · rw [e1]; exact nI_le (b := 4) (by omega) (by decide)
          · rw [e1, nI_clamp (show len - 1 < 2 ^ 31 by omega), nI_clamp (show j < 2 ^ 31 by omega), ec, nI_1, show (1 : Int32).toNatClampNeg = 1 from by decide]
            refine ⟨fun r => g1 (by simp [Int32.not_lt.mpr r]), fun r => ?_⟩
            have r2 := g0 (by simp [Int32.not_le.mp r])
            exact ⟨fun s => ⟨_, by rw [← r2]; show _ = if p2 = 0 then _ else _; rw [if_neg s], rfl⟩, fun s => ⟨_, by rw [← r2]; show _ = if p2 = 0 then _ else _; rw [if_pos s], rfl⟩⟩
    exact key 3 1 (by decide) (by decide) rfl
  · unfold settleX
    rw [if_neg z]
    exact ⟨fun s => ⟨_, by rw [if_neg s], rfl⟩, fun s => ⟨_, by rw [if_pos s], rfl⟩⟩
set_option maxRecDepth 20000 in
set_option maxHeartbeats 2000000 in
theorem v_X2_samePairs (σ : KX) (p0 : Int32) (h : okX σ) : vc_X2_samePairs σ p0 (fun r => r = (sameX (xNow σ) p0)) := by
  obtain ⟨n, hn, en⟩ := okS_nq h.1.1
  have ec : (sNq (cS (xNow σ))).toNatClampNeg = n := by rw [en, nI_clamp (by omega)]
  unfold vc_X2_samePairs
  simp only [cmp_z]
  intro T8 T26 h8 h26
  have hV : sameX (xNow σ) p0 = if p0 = 0 then (sameFromX (xNow σ) n n 0 (0, -9)).1 else (sameFromX (xNow σ) n n 0 (0, -9)).2 := by unfold sameX; rw [ec]
  have inner : ∀ (a : Nat), a < n → ∀ (d b : Nat) (r : Int32 × Int32), b + d = n → T8 (sameRowX (xNow σ) a d b r).1 (sameRowX (xNow σ) a d b r).2 (nI (a + 1)) → T26 r.1 r.2 (nI a) (nI b) := by
    intro a ha d
    induction d with
    | zero =>
      intro b r hb hT
      obtain rfl : b = n := by omega
      refine h26 _ _ _ _ ⟨fun _ => ?_, fun c => absurd (le_nI en) c⟩
      rw [nI_1]; exact hT
    | succ d ih =>
      intro b r hb hT
      rw [sameRowX] at hT
      have hT2 := ih (b + 1) (sameStepX (xNow σ) a b r) (by omega) hT
      refine h26 _ _ _ _ ⟨fun c => absurd c (nle_nI en (by omega) (by omega)), fun _ => ?_⟩
      rw [nI_1]
      unfold sameStepX at hT2
      refine ⟨fun e => by rw [if_neg e] at hT2; exact hT2, fun e => ?_⟩
      rw [if_pos e] at hT2
      exact ⟨fun s => by rw [if_neg s] at hT2; exact hT2, fun s => by rw [if_pos s] at hT2; exact hT2⟩
  have key : ∀ (d a : Nat) (r : Int32 × Int32), a + d = n → sameFromX (xNow σ) n d a r = sameFromX (xNow σ) n n 0 (0, -9) → T8 r.1 r.2 (nI a) := by
    intro d
    induction d with
    | zero =>
      intro a r ha e
      obtain rfl : a = n := by omega
      rw [sameFromX] at e
      refine h8 _ _ _ ⟨fun _ => ?_, fun c => absurd (le_nI en) c⟩
      rw [hV, ← e]
      exact ⟨fun s => by rw [if_neg s], fun s => by rw [if_pos s]⟩
    | succ d ih =>
      intro a r ha e
      rw [sameFromX] at e
      refine h8 _ _ _ ⟨fun c => absurd c (nle_nI en (by omega) (by omega)), fun _ => ?_⟩
      rw [nI_1]
      exact inner a (by omega) (n - (a + 1)) (a + 1) r (by omega) (ih (a + 1) _ (by omega) e)
  exact key n 0 (0, -9) (by omega) rfl
set_option maxRecDepth 20000 in
set_option maxHeartbeats 2000000 in
theorem v_X2_settledPair (σ : KX) (p0 : Int32) (p1 : Int32) (p2 : Int32) (h : okX σ) : vc_X2_settledPair σ p0 p1 p2 (fun r => r = (twoX (xNow σ) p0 p1 p2)) := by
  unfold vc_X2_settledPair
  intro T12 T21 h12 h21
  refine ⟨h.1, ?_⟩
  have hV : twoX (xNow σ) p0 p1 p2 = twoX (xNow σ) p0 p1 p2 := rfl
  have P : ∀ i j, leftBehindX (xNow σ) (fittingL (xNow σ)) p0 (onwardI (cS (xNow σ)) p1 i) (onwardI (cS (xNow σ)) p2 j) = pairX (xNow σ) p0 p1 p2 i j := fun _ _ => rfl
  have stp : ∀ (i j i2 j2 : Int32) (v : Int32), ¬ (2 : Int32) ≤ j → 1 - i = i2 → 1 - j = j2 → 10 * i + j = v → ((pairX (xNow σ) p0 p1 p2 i2 j ≤ pairX (xNow σ) p0 p1 p2 i j ∧ pairX (xNow σ) p0 p1 p2 i j ≤ pairX (xNow σ) p0 p1 p2 i j2) → v = twoX (xNow σ) p0 p1 p2) → (¬ (pairX (xNow σ) p0 p1 p2 i2 j ≤ pairX (xNow σ) p0 p1 p2 i j ∧ pairX (xNow σ) p0 p1 p2 i j ≤ pairX (xNow σ) p0 p1 p2 i j2) → T21 (fittingL (xNow σ)) i (j + 1)) → T21 (fittingL (xNow σ)) i j := by
    intro i j i2 j2 v hj e1 e2 e3 hy hn
    refine h21 _ _ _ ⟨fun c => absurd c hj, fun _ => ⟨h, h, h, ?_⟩⟩
    rw [e1, e2, e3, P, P, P]
    refine ⟨fun c => hn (fun q => absurd q.1 (Int32.not_le.mpr c)), fun c => ⟨fun d => hn (fun q => absurd q.2 (Int32.not_le.mpr d)), fun d => hy ⟨Int32.not_lt.mp c, Int32.not_lt.mp d⟩⟩⟩
  have row : ∀ i : Int32, T12 (fittingL (xNow σ)) (i + 1) → T21 (fittingL (xNow σ)) i 2 := fun i hT => h21 _ _ _ ⟨fun _ => hT, fun c => absurd (by decide) c⟩
  have unf : twoX (xNow σ) p0 p1 p2 = if pairX (xNow σ) p0 p1 p2 1 0 ≤ pairX (xNow σ) p0 p1 p2 0 0 ∧ pairX (xNow σ) p0 p1 p2 0 0 ≤ pairX (xNow σ) p0 p1 p2 0 1 then 0 else if pairX (xNow σ) p0 p1 p2 1 1 ≤ pairX (xNow σ) p0 p1 p2 0 1 ∧ pairX (xNow σ) p0 p1 p2 0 1 ≤ pairX (xNow σ) p0 p1 p2 0 0 then 1 else if pairX (xNow σ) p0 p1 p2 0 0 ≤ pairX (xNow σ) p0 p1 p2 1 0 ∧ pairX (xNow σ) p0 p1 p2 1 0 ≤ pairX (xNow σ) p0 p1 p2 1 1 then 10 else if pairX (xNow σ) p0 p1 p2 0 1 ≤ pairX (xNow σ) p0 p1 p2 1 1 ∧ pairX (xNow σ) p0 p1 p2 1 1 ≤ pairX (xNow σ) p0 p1 p2 1 0 then 11 else -9 := rfl
  refine h12 _ _ ⟨fun c => absurd c (by decide), fun _ => ?_⟩
  refine stp 0 0 1 1 0 (by decide) (by decide) (by decide) (by decide) (fun q => by rw [unf, if_pos q]) (fun q1 => ?_)
  refine stp 0 1 1 0 1 (by decide) (by decide) (by decide) (by decide) (fun q => by rw [unf, if_neg q1, if_pos q]) (fun q2 => ?_)
  refine row 0 ?_
  refine h12 _ _ ⟨fun c => absurd c (by decide), fun _ => ?_⟩
  refine stp 1 0 0 1 10 (by decide) (by decide) (by decide) (by decide) (fun q => by rw [unf, if_neg q1, if_neg q2, if_pos q]) (fun q3 => ?_)
  refine stp 1 1 0 0 11 (by decide) (by decide) (by decide) (by decide) (fun q => by rw [unf, if_neg q1, if_neg q2, if_neg q3, if_pos q]) (fun q4 => ?_)
  refine row 1 ?_
  exact h12 _ _ ⟨fun _ => by rw [unf, if_neg q1, if_neg q2, if_neg q3, if_neg q4], fun c => absurd (by decide) c⟩
set_option maxRecDepth 20000 in
set_option maxHeartbeats 2000000 in
theorem v_X2_liars (σ : KX) (h : okX σ) : vc_X2_liars σ (fun r => r = (liarsX (xNow σ))) := by
  obtain ⟨n, hn, en⟩ := okS_nw h.1.1
  unfold vc_X2_liars
  simp only [cmp_z]
  intro T hT
  refine ⟨h.1, ?_⟩
  by_cases z : fittingL (xNow σ) = 0
  · exact hT _ _ _ ⟨fun _ => by unfold liarsX; rw [if_pos z], fun c => absurd z c⟩
  · refine set_up (n := n) (fun w => decide (fittingL (xNow σ) &&& (untruthsL (xNow σ) (nI w) ^^^ (-1)) = 0)) (fun j a => T (fittingL (xNow σ)) a (nI j)) ?_ (fun j hj a ih => ?_)
    · refine hT _ _ _ ⟨fun c => absurd c z, fun _ => ⟨fun _ => ?_, fun c => absurd (le_nI en) c⟩⟩
      unfold liarsX; rw [if_neg z, en, nI_clamp (by omega)]
    · refine hT _ _ _ ⟨fun c => absurd c z, fun _ => ⟨fun c => absurd c (nle_nI en (by omega) hj), fun _ => ⟨h.1, ?_⟩⟩⟩
      rw [nI_1]
      have e0 : a ||| 0 = a := by simp
      exact ⟨fun e => by simpa only [e, decide_false, Bool.false_eq_true, if_false, e0] using ih, fun e => by simpa only [e, decide_true, if_true] using ih⟩
set_option maxRecDepth 20000 in
set_option maxHeartbeats 2000000 in
theorem v_X2_clash (σ : KX) (h : okX σ) : vc_X2_clash σ (fun r => r = (clashX (xNow σ))) := by
  obtain ⟨n, hn, en⟩ := okS_nh h.1.1
  have hf : ∀ a, a < n → heardFittingL (xNow σ) (nI a) = hfit (xNow σ) a := fun a ha => by rw [heardFittingL, if_neg (hasP_nat en hn ha), nI_clamp (by omega)]
  unfold vc_X2_clash
  simp only [cmp_z]
  intro T2 T17 h2 h17
  have key : ∀ d a, a + d = n → clashFromX (xNow σ) n d a = clashX (xNow σ) → T2 (nI a) := by
    intro d
    induction d with
    | zero =>
      intro a ha e
      obtain rfl : a = n := by omega
      exact h2 _ ⟨fun _ => e, fun c => absurd (le_nI en) c⟩
    | succ d ih =>
      intro a ha e
      rw [clashFromX] at e
      refine h2 _ ⟨fun c => absurd c (nle_nI en (by omega) (by omega)), fun _ => ?_⟩
      rw [nI_1]
      refine first_loop (n := n - (a + 1)) (fun b => decide (hfit (xNow σ) a &&& hfit (xNow σ) b = 0)) (fun j => T17 (nI a) (nI j)) (fun o => (match o with | some b => 100 * nI a + nI b | none => clashFromX (xNow σ) n d (a + 1)) = clashX (xNow σ)) (a + 1) (fun q => ?_) (fun j j1 j2 h1 h0 => ?_) e
      · refine h17 _ _ ⟨fun _ => ?_, fun c => absurd (by rw [en]; exact nI_le (by omega) (by omega)) c⟩
        rw [nI_1]; exact ih (a + 1) (by omega) q
      · refine h17 _ _ ⟨fun c => absurd c (nle_nI en (by omega) (by omega)), fun _ => ⟨h.1, h.1, ?_⟩⟩
        rw [nI_1, hf a (by omega), hf j (by omega)]
        exact ⟨fun d => h1 (by simp only [d, decide_false]), fun d => h0 (by simp only [d, decide_true])⟩
  exact key n 0 (by omega) (by unfold clashX; rw [en, nI_clamp (by omega)])
