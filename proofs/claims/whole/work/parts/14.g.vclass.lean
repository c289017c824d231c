set_option maxRecDepth 20000 in
set_option maxHeartbeats 2000000 in
theorem v_X2_kindsByRow (σ : KX) (p0 : Int32) (h : okX σ ∧ inW (cS (xNow σ)) p0) : vc_X2_kindsByRow σ p0 (fun r u => ∃ (ex_trial : KC), (zC ex_trial) ∧ (r = (kindsX (xNow σ) (xRow σ) (xRowLen σ) p0) ∧ u = (((xNow σ), (xTaken σ), (ex_trial), (xScr σ), (xRow σ), (xRefus σ), (xKept σ), (xRowLen σ), (xIsTaken σ))))) := by
  have hr := h.1.2.2.2.2.2.1
  have hv := inW_vin h.1.1.1 h.2
  obtain ⟨wn, nw, hwn, hnw, ew, enw⟩ := inW_nat h.1.1.1 h.2
  have ewc : p0.toNatClampNeg = wn := by rw [ew, nI_clamp (by omega)]
  have zset : ∀ v : Int32, zC (kSetKind (xNow σ) p0 v) := fun v => ⟨⟨h.1.2.1.1.1, fun k hk => by
    obtain ⟨z1, z2, z3⟩ := h.1.2.1.1.2.1 k hk
    have hne : ¬ k = p0.toNatClampNeg := by rw [ewc]; omega
    have hz : ∀ f : FI, f k = 0 → upd f p0.toNatClampNeg v k = 0 := fun f hf => by unfold upd; rw [if_neg hne]; exact hf
    exact ⟨hz _ z1, z2, z3⟩, h.1.2.1.1.2.2⟩, h.1.2.1.2⟩
  unfold vc_X2_kindsByRow
  intro T hT
  refine ⟨⟨h.1.2.2.2.1, h.1.2.1⟩, ?_⟩
  refine set_up (n := 6) (fun v => rowBX (kSetKind (xNow σ) p0 (nI v)) (xRow σ) (xRowLen σ) p0) (fun j a => ∀ s : KC, zC s → (∀ v, kSetKind s p0 v = kSetKind (xNow σ) p0 v) → T a (nI j) s) ?_ (fun j hj a ih => ?_) _ h.1.2.1 (fun _ => rfl)
  · intro s hz hs
    exact hT _ _ _ ⟨fun _ => ⟨s, hz, rfl, rfl⟩, fun c => absurd (by decide) c⟩
  · intro s hz hs
    refine hT _ _ _ ⟨fun c => absurd c (nle_nI (N := 6) (n := 6) (by decide) (by decide) hj), fun _ => ⟨hv, ?_⟩⟩
    have es := hs (nI j)
    have hk : okC (kSetKind (xNow σ) p0 (nI j)) := ⟨okS_kind h.1.1.1 h.2 (v := nI j) ⟨nI_pos' (by omega), nI_le (b := 5) (by omega) (by decide)⟩, h.1.1.2⟩
    have hi := ih (kSetKind (xNow σ) p0 (nI j)) (zset _) (fun v => kk_kSetKind _ _ _ _)
    unfold kSetKind at es
    simp only [sSetKind, mkS] at es
    rw [es, nI_1]
    refine ⟨⟨hk, hr.1, hr.2⟩, fun d => ?_, fun d => ?_⟩
    · have d2 : rowBX (kSetKind (xNow σ) p0 (nI j)) (xRow σ) (xRowLen σ) p0 = false := b2i_z.mp d
      have hh : T (a ||| 0) (nI (j + 1)) (kSetKind (xNow σ) p0 (nI j)) := by rw [d2] at hi; exact hi
      have e0 : a ||| 0 = a := by simp
      have e1 : a + 0 = a := by simp
      rw [e0] at hh
      exact hh
    · have d2 : rowBX (kSetKind (xNow σ) p0 (nI j)) (xRow σ) (xRowLen σ) p0 = true := b2i_ne.mp d
      have hh : T (a ||| 1 <<< (nI j &&& 31)) (nI (j + 1)) (kSetKind (xNow σ) p0 (nI j)) := by rw [d2] at hi; exact hi
      exact hh
set_option maxRecDepth 20000 in
set_option maxHeartbeats 2000000 in
theorem v_X2_knownByRow (σ : KX) (p0 : Int32) (h : okX σ ∧ inW (cS (xNow σ)) p0) : vc_X2_knownByRow σ p0 (fun r u => ∃ (ex_trial : KC), (zC ex_trial) ∧ (r = (knownX (xNow σ) (xRow σ) (xRowLen σ) p0) ∧ u = (((xNow σ), (xTaken σ), (ex_trial), (xScr σ), (xRow σ), (xRefus σ), (xKept σ), (xRowLen σ), (xIsTaken σ))))) := by
  have hr := h.1.2.2.2.2.2.1
  have hv := inW_vin h.1.1.1 h.2
  obtain ⟨wn, nw, hwn, hnw, ew, enw⟩ := inW_nat h.1.1.1 h.2
  have ewc : p0.toNatClampNeg = wn := by rw [ew, nI_clamp (by omega)]
  have zset : ∀ v : Int32, zC (kSetKnows (xNow σ) p0 v) := fun v => ⟨⟨h.1.2.1.1.1, fun k hk => by
    obtain ⟨z1, z2, z3⟩ := h.1.2.1.1.2.1 k hk
    have hne : ¬ k = p0.toNatClampNeg := by rw [ewc]; omega
    have hz : ∀ f : FI, f k = 0 → upd f p0.toNatClampNeg v k = 0 := fun f hf => by unfold upd; rw [if_neg hne]; exact hf
    exact ⟨z1, z2, hz _ z3⟩, h.1.2.1.1.2.2⟩, h.1.2.1.2⟩
  unfold vc_X2_knownByRow
  intro T hT
  refine ⟨⟨h.1.2.2.2.1, h.1.2.1⟩, ?_⟩
  refine cnt_up (n := 64) (fun v => rowBX (kSetKnows (xNow σ) p0 (nI v)) (xRow σ) (xRowLen σ) p0) (fun j a => ∀ s : KC, zC s → (∀ v, kSetKnows s p0 v = kSetKnows (xNow σ) p0 v) → T a (nI j) s) ?_ (fun j hj a ih => ?_) _ h.1.2.1 (fun _ => rfl)
  · intro s hz hs
    exact hT _ _ _ ⟨fun _ => ⟨s, hz, rfl, rfl⟩, fun c => absurd (by decide) c⟩
  · intro s hz hs
    refine hT _ _ _ ⟨fun c => absurd c (not_63 hj), fun _ => ⟨hv, ?_⟩⟩
    have es := hs (nI j)
    have hk : okC (kSetKnows (xNow σ) p0 (nI j)) := ⟨okS_knows h.1.1.1 (w := p0) (v := nI j) ⟨nI_pos' (by omega), nI_le (b := 63) (by omega) (by decide)⟩, h.1.1.2⟩
    have hi := ih (kSetKnows (xNow σ) p0 (nI j)) (zset _) (fun v => kk_kSetKnows _ _ _ _)
    unfold kSetKnows at es
    simp only [sSetKnows, mkS] at es
    rw [es, nI_1]
    refine ⟨⟨hk, hr.1, hr.2⟩, fun d => ?_, fun d => ?_⟩
    · have d2 : rowBX (kSetKnows (xNow σ) p0 (nI j)) (xRow σ) (xRowLen σ) p0 = false := b2i_z.mp d
      have hh : T (a + 0) (nI (j + 1)) (kSetKnows (xNow σ) p0 (nI j)) := by rw [d2] at hi; exact hi
      have e0 : a ||| 0 = a := by simp
      have e1 : a + 0 = a := by simp
      rw [e1] at hh
      exact hh
    · have d2 : rowBX (kSetKnows (xNow σ) p0 (nI j)) (xRow σ) (xRowLen σ) p0 = true := b2i_ne.mp d
      have hh : T (a + 1) (nI (j + 1)) (kSetKnows (xNow σ) p0 (nI j)) := by rw [d2] at hi; exact hi
      exact hh
set_option maxRecDepth 20000 in
set_option maxHeartbeats 2000000 in
theorem v_X2_sessions (σ : KX) (p0 : Int32) (p1 : Int32) (p2 : Int32) (h : okX σ ∧ (0 < sNw (cS (xNow σ)) ∧ 0 < sNq (cS (xNow σ))) ∧ 1 ≤ p0 ∧ p0 ≤ 20) : vc_X2_sessions σ p0 p1 p2 (fun r u => ∃ (ex_trial : KC), (zC ex_trial) ∧ (r = (lotsX (xNow σ) p0 p1 p2) ∧ u = (((xNow σ), (xTaken σ), (ex_trial), (xScr σ), (xRow σ), (xRefus σ), (xKept σ), (xRowLen σ), (xIsTaken σ))))) := by
  obtain ⟨hX, ⟨w0, q0⟩, m1, m20⟩ := h
  obtain ⟨nq, hnq, enq⟩ := okS_nq hX.1.1
  obtain ⟨nw, hnw, enw⟩ := okS_nw hX.1.1
  obtain ⟨n, hn, rfl⟩ := nI_up (M := 20) (n := 20) (by decide) ⟨Int32.le_trans (by decide) m1, m20⟩
  have hqp : 0 < nq := by rw [enq] at q0; exact (nI_ltI (a := 0) (by decide) (by omega)).mp q0
  have hwp : 0 < nw := by rw [enw] at w0; exact (nI_ltI (a := 0) (by decide) (by omega)).mp w0
  unfold vc_X2_sessions
  intro T12 T32 h12 h32
  have inv : ∀ (k : Nat) (z y : Int32), k ≤ 6 → okC (sessX (sNw (cS (xNow σ))) (sNq (cS (xNow σ))) k (z, y, xNow σ)).2.2 ∧ zC (sessX (sNw (cS (xNow σ))) (sNq (cS (xNow σ))) k (z, y, xNow σ)).2.2 ∧ sNq (cS (sessX (sNw (cS (xNow σ))) (sNq (cS (xNow σ))) k (z, y, xNow σ)).2.2) = sNq (cS (xNow σ)) ∧ sNw (cS (sessX (sNw (cS (xNow σ))) (sNq (cS (xNow σ))) k (z, y, xNow σ)).2.2) = sNw (cS (xNow σ)) ∧ sAsked (cS (sessX (sNw (cS (xNow σ))) (sNq (cS (xNow σ))) k (z, y, xNow σ)).2.2) = sAsked (cS (xNow σ)) + nI k := by
    intro k
    induction k with
    | zero => intro z y _; exact ⟨hX.1, hX.2.1, rfl, rfl, by show _ = _ + 0; simp [sessX]⟩
    | succ k ih =>
      intro z y hk
      obtain ⟨a1, a2, a3, a4, a5⟩ := ih z y (by omega)
      have hw : inW (cS (sessX (sNw (cS (xNow σ))) (sNq (cS (xNow σ))) k (z, y, xNow σ)).2.2) (drawBelowI (drawOnI (sessX (sNw (cS (xNow σ))) (sNq (cS (xNow σ))) k (z, y, xNow σ)).1) (sNw (cS (xNow σ)))) := by
        obtain ⟨d, hd, e⟩ := draw_nat (drawOnI (sessX (sNw (cS (xNow σ))) (sNq (cS (xNow σ))) k (z, y, xNow σ)).1) hwp (by omega)
        rw [← enw] at e; rw [e]; exact inW_nI (a4.trans enw) hnw hd
      have hq : inQ (cS (sessX (sNw (cS (xNow σ))) (sNq (cS (xNow σ))) k (z, y, xNow σ)).2.2) (drawBelowI (drawOnI (drawOnI (sessX (sNw (cS (xNow σ))) (sNq (cS (xNow σ))) k (z, y, xNow σ)).1)) (sNq (cS (xNow σ)))) := by
        obtain ⟨d, hd, e⟩ := draw_nat (drawOnI (drawOnI (sessX (sNw (cS (xNow σ))) (sNq (cS (xNow σ))) k (z, y, xNow σ)).1)) hqp (by omega)
        rw [← enq] at e; rw [e]; exact inQ_nI (a3.trans enq) hnq hd
      have ha : sAsked (cS (sessX (sNw (cS (xNow σ))) (sNq (cS (xNow σ))) k (z, y, xNow σ)).2.2) < 5000 := by
        rw [a5]
        obtain ⟨x, hx, ex⟩ := le_of_nI (n := 999) hX.1.1.2.1.1 hX.2.2.2.2.2.2 (by decide)
        rw [ex, nI_add]; exact nI_lt (b := 5000) (by omega) (by decide)
      refine ⟨⟨okS_ask a1.1 hw hq ha, a1.2⟩, ⟨zS_ask a1.1 a2.1 _ _, a2.2⟩, a3, a4, ?_⟩
      show sAsked (cS (sessX (sNw (cS (xNow σ))) (sNq (cS (xNow σ))) k (z, y, xNow σ)).2.2) + 1 = _
      rw [a5, Int32.add_assoc, nI_1]
  have askok : ∀ (k : Nat) (z y : Int32), k < 6 → (okC (sessX (sNw (cS (xNow σ))) (sNq (cS (xNow σ))) k (z, y, xNow σ)).2.2 ∧ inW (cS (sessX (sNw (cS (xNow σ))) (sNq (cS (xNow σ))) k (z, y, xNow σ)).2.2) (drawBelowI (drawOnI (sessX (sNw (cS (xNow σ))) (sNq (cS (xNow σ))) k (z, y, xNow σ)).1) (sNw (cS (xNow σ)))) ∧ inQ (cS (sessX (sNw (cS (xNow σ))) (sNq (cS (xNow σ))) k (z, y, xNow σ)).2.2) (drawBelowI (drawOnI (drawOnI (sessX (sNw (cS (xNow σ))) (sNq (cS (xNow σ))) k (z, y, xNow σ)).1)) (sNq (cS (xNow σ)))) ∧ sAsked (cS (sessX (sNw (cS (xNow σ))) (sNq (cS (xNow σ))) k (z, y, xNow σ)).2.2) < 5000) := by
    intro k z y hk
    obtain ⟨a1, a2, a3, a4, a5⟩ := inv k z y (by omega)
    refine ⟨a1, ?_, ?_, ?_⟩
    · obtain ⟨d, hd, e⟩ := draw_nat (drawOnI (sessX (sNw (cS (xNow σ))) (sNq (cS (xNow σ))) k (z, y, xNow σ)).1) hwp (by omega)
      rw [← enw] at e; rw [e]; exact inW_nI (a4.trans enw) hnw hd
    · obtain ⟨d, hd, e⟩ := draw_nat (drawOnI (drawOnI (sessX (sNw (cS (xNow σ))) (sNq (cS (xNow σ))) k (z, y, xNow σ)).1)) hqp (by omega)
      rw [← enq] at e; rw [e]; exact inQ_nI (a3.trans enq) hnq hd
    · rw [a5]
      obtain ⟨x, hx, ex⟩ := le_of_nI (n := 999) hX.1.1.2.1.1 hX.2.2.2.2.2.2 (by decide)
      rw [ex, nI_add]; exact nI_lt (b := 5000) (by omega) (by decide)
  refine upN n (fun i => ∀ t : KC, zC t → T12 (lotsNX (xNow σ) i (p1, 0, 0)).1 (lotsNX (xNow σ) i (p1, 0, 0)).2.1 (lotsNX (xNow σ) i (p1, 0, 0)).2.2 (nI i) t) ?_ (fun i hi ih => ?_) 0 (Nat.zero_le _) _ hX.2.2.2.1
  · intro t hz
    refine h12 _ _ _ _ _ ⟨fun _ => ?_, fun c => absurd (Int32.le_refl _) c⟩
    unfold lotsX
    rw [nI_clamp (show n < 2 ^ 31 by omega)]
    exact ⟨fun s => ⟨t, hz, by simp only [if_neg s], rfl⟩, fun s => ⟨t, hz, by simp only [if_pos s], rfl⟩⟩
  · intro t hz
    refine h12 _ _ _ _ _ ⟨fun c => absurd c (nI_ge hi (by omega)), fun _ => ⟨⟨hz, hX.2.1⟩, ?_⟩⟩
    refine upN 6 (fun k => T32 (sessX (sNw (cS (xNow σ))) (sNq (cS (xNow σ))) k ((lotsNX (xNow σ) i (p1, 0, 0)).1, (lotsNX (xNow σ) i (p1, 0, 0)).2.1, xNow σ)).1 (sessX (sNw (cS (xNow σ))) (sNq (cS (xNow σ))) k ((lotsNX (xNow σ) i (p1, 0, 0)).1, (lotsNX (xNow σ) i (p1, 0, 0)).2.1, xNow σ)).2.1 (lotsNX (xNow σ) i (p1, 0, 0)).2.2 (nI i) (nI k) (sessX (sNw (cS (xNow σ))) (sNq (cS (xNow σ))) k ((lotsNX (xNow σ) i (p1, 0, 0)).1, (lotsNX (xNow σ) i (p1, 0, 0)).2.1, xNow σ)).2.2) ?_ (fun k hk ih2 => ?_) 0 (Nat.zero_le _)
    · obtain ⟨a1, a2, -⟩ := inv 6 (lotsNX (xNow σ) i (p1, 0, 0)).1 (lotsNX (xNow σ) i (p1, 0, 0)).2.1 (by decide)
      refine h32 _ _ _ _ _ _ ⟨fun _ => ⟨a1, ?_⟩, fun c => absurd (by decide) c⟩
      rw [nI_1]
      exact ih _ a2
    · refine h32 _ _ _ _ _ _ ⟨fun c => absurd c (nle_nI (N := 6) (n := 6) (by decide) (by decide) hk), fun _ => ⟨askok k _ _ hk, ?_⟩⟩
      rw [nI_1]
      rw [sessX] at ih2
      refine ⟨fun e => ?_, fun e => ?_⟩
      · simp only [e, decide_false] at ih2
        have e0 : ∀ x : Int32, x + b2i false = x := fun x => by show x + 0 = x; simp
        rw [e0] at ih2
        exact ih2
      · simp only [e, decide_true] at ih2
        exact ih2
set_option maxRecDepth 20000 in
set_option maxHeartbeats 2000000 in
theorem v_X2_drawn (σ : KX) (p0 : Int32) (p1 : Int32) (p2 : Int32) (p3 : Int32) (h : okX σ) : vc_X2_drawn σ p0 p1 p2 p3 (fun r u => ∃ (ex_kept : FL), (r = (rsL (whyDrawn (cS (xNow σ)) p0 p1 p2 p3) (drawnX (xNow σ) p0 p1.toNatClampNeg (factCasesL p2) p3)) ∧ u = (((xNow σ), (xTaken σ), (xTrial σ), (xScr σ), (xRow σ), (rfX (xRefus σ) (whyDrawn (cS (xNow σ)) p0 p1 p2 p3)), (ex_kept), (xRowLen σ), (xIsTaken σ))))) := by
  have n1 : ((-1) : Int32) < 0 ∧ -6 ≤ ((-1) : Int32) := by decide
  have n2 : ((-2) : Int32) < 0 ∧ -6 ≤ ((-2) : Int32) := by decide
  have n3 : ((-3) : Int32) < 0 ∧ -6 ≤ ((-3) : Int32) := by decide
  have n6 : ((-6) : Int32) < 0 ∧ -6 ≤ ((-6) : Int32) := by decide
  have n4 : ((-4) : Int32) < 0 ∧ -6 ≤ ((-4) : Int32) := by decide
  have hQ := hasQ_isQ h.1.1
  have hW := hasW_isW h.1.1
  obtain ⟨q, hq, eq⟩ := okS_nq h.1.1
  have ec : (sNq (cS (xNow σ))).toNatClampNeg = q := by rw [eq, nI_clamp (by omega)]
  have hq8 : 0 ≤ sNq (cS (xNow σ)) ∧ sNq (cS (xNow σ)) ≤ 8 := h.1.1.2.2.1
  have hp := isPart_isIn p3
  unfold vc_X2_drawn
  intro T hT
  rw [hp, hW]
  have rr : ∀ c : Int32, whyDrawn (cS (xNow σ)) p0 p1 p2 p3 = c → ¬ c = 0 → ∃ ex_kept : FL, 4000000000000000000 - c.toInt64 = rsL (whyDrawn (cS (xNow σ)) p0 p1 p2 p3) (drawnX (xNow σ) p0 p1.toNatClampNeg (factCasesL p2) p3) ∧ (xNow σ, xTaken σ, xTrial σ, xScr σ, xRow σ, refuX (xRefus σ) c, xKept σ, xRowLen σ, xIsTaken σ) = (xNow σ, xTaken σ, xTrial σ, xScr σ, xRow σ, rfX (xRefus σ) (whyDrawn (cS (xNow σ)) p0 p1 p2 p3), ex_kept, xRowLen σ, xIsTaken σ) := fun c hc h0 => ⟨xKept σ, rsL_n hc h0, by rw [rfX_n hc h0]⟩
  have w1 : (isWitnessI (cS (xNow σ)) p0 = 0 ∨ isFactI p2 = 0) → whyDrawn (cS (xNow σ)) p0 p1 p2 p3 = -1 := fun c => by unfold whyDrawn; rw [if_pos c]
  refine ⟨fun c => ⟨n1, rr _ (w1 (Or.inl c)) (by decide)⟩, fun c => ⟨fun d => ?_, fun d => ⟨n1, rr _ (w1 (Or.inr d)) (by decide)⟩⟩⟩
  have hno : ¬ (isWitnessI (cS (xNow σ)) p0 = 0 ∨ isFactI p2 = 0) := by rintro (z | z); exact c z; exact d z
  refine ⟨fun g0 => ⟨fun g1 => ?_, fun g1 => ?_⟩, fun g0 => ?_⟩
  · have hb : boundI p1 0 4 = 0 := by unfold boundI; rw [if_neg (Int32.not_lt.mpr g0), if_neg (Int32.not_lt.mpr g1)]
    refine ⟨fun f => ⟨fun z => ⟨h, ?_⟩, fun z => ⟨n3, rr _ (by unfold whyDrawn; rw [if_neg hno, if_pos hb, if_neg f, if_pos z]) (by decide)⟩⟩, fun f => ⟨n2, rr _ (by unfold whyDrawn; rw [if_neg hno, if_pos hb, if_pos f]) (by decide)⟩⟩
    have hy : whyDrawn (cS (xNow σ)) p0 p1 p2 p3 = 0 := by unfold whyDrawn; rw [if_neg hno, if_pos hb, if_neg f, if_neg z]
    simp only [rfX_0 hy, ← rsL_0 hy] at hT
    obtain ⟨n, hn, rfl⟩ := nI_up (M := 4) (n := 4) (by decide) ⟨g0, g1⟩
    refine upN n (fun j => T (powI (sNq (cS (xNow σ))) j) (nI j) (keptX (xNow σ) p0 (xKept σ)) (xRefus σ)) ?_ (fun j hj ih => ?_) 0 (Nat.zero_le _)
    · refine hT _ _ _ _ ⟨fun _ => ⟨h.1, ⟨hq8.1, hq8.2, by decide, g0, g1, ?_⟩, _, ?_, rfl⟩, fun c => absurd (Int32.le_refl _) c⟩
      · have e : nI n - 0 = nI n := by simp
        rw [e]; exact g1
      · have e : nI n - 0 = nI n := by simp
        unfold drawnX
        rw [e, nI_clamp (show n < 2 ^ 31 by omega), ec, show (0 : Int32).toNatClampNeg = 0 from by decide, ways_congr hq _ (kept_congr ec (xKept σ) (fun _ => 0)) n 0 _ (by omega)]
    · refine hT _ _ _ _ ⟨fun c => absurd c (nI_ge hj (by omega)), fun _ => ?_⟩
      rw [nI_1]; exact ih
  · exact ⟨n6, rr _ (by unfold whyDrawn boundI; rw [if_neg hno, if_neg (Int32.not_lt.mpr g0), if_pos (Int32.not_le.mp g1), if_neg (by decide)]) (by decide)⟩
  · exact ⟨n4, rr _ (by unfold whyDrawn boundI; rw [if_neg hno, if_pos (Int32.not_le.mp g0), if_neg (by decide)]) (by decide)⟩
