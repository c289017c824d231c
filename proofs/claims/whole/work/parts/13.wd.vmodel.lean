set_option maxRecDepth 20000 in
set_option maxHeartbeats 2000000 in
theorem v_X3_asksOne (σ : KM) (p0 : Int32) (p1 : Int32) (h : okS (mS σ) ∧ inW (mS σ) p0 ∧ inQ (mS σ) p1 ∧ sAsked (mS σ) < 5000) : vc_X3_asksOne σ p0 p1 (fun r u => (r = (askV (mS σ) p0 p1) ∧ u = (((askS (mS σ) p0 p1), (mT σ), (mK σ), (mF σ), (mRow σ), (mRowMany σ), (mLots σ), (mRefused σ))))) := by
  obtain ⟨hS, hW, hQ, ha⟩ := h
  obtain ⟨n, hn, en⟩ := okS_nh hS
  unfold vc_X3_asksOne
  intro T hT
  refine ⟨fun c => ?_, fun c => ?_⟩
  · have hn2 : n < 12 := by
      rcases Nat.lt_or_ge n 12 with q | q
      · exact q
      · exact absurd (by rw [en, show n = 12 by omega]; rfl) c
    have hv : vp_in (nI n) 12 := vin hn2
    have hm := okS_mid hS ha (n := nI n) ⟨nI_pos' (by omega), nI_le (b := 12) (by omega) (by decide)⟩ (a := upd (sWhom (mS σ)) n p0) (b := upd (sWhat (mS σ)) n p1) (c := sSaid (mS σ)) (d := sWhen (mS σ)) (fun k hk hk2 => by
      have hkn : k < n := (nI_ltI (by omega) (by omega)).mp hk
      unfold upd
      rw [if_neg (by omega), if_neg (by omega)]
      exact okS_hN hS en hn hkn)
    have e1 : nI n + 1 - 1 = nI n := by rw [nI_1, nI_pred]
    rw [en, e1, nI_clamp (by omega)]
    refine ⟨hv, hv, ⟨hm, hW, hQ⟩, hv, hv, hv, ?_, ?_⟩
    · rw [pk_us]; rfl
    · unfold askS shF shN; rw [if_neg c, if_neg c, if_neg c, if_neg c, if_neg c, en, nI_clamp (by omega)]; rfl
  · have e11 : sNh (mS σ) - 1 = nI 11 := by rw [c]; rfl
    rw [e11]
    have h0 : ∀ j, j ≤ 11 → T (nI j) (sAsked (mS σ) + 1) (nI 11) (shj j (sSaid (mS σ))) (shj j (sWhat (mS σ))) (shj j (sWhen (mS σ))) (shj j (sWhom (mS σ))) := by
      refine upN 11 _ ?_ (fun j hj ih => ?_)
      · refine hT _ _ _ _ _ _ _ ⟨fun _ => ?_, fun d => absurd (Int32.le_refl _) d⟩
        have hv : vp_in (nI 11) 12 := vin (by decide)
        have e1 : nI 11 + 1 - 1 = nI 11 := rfl
        have e12 : n = 12 := by
          have := en.symm.trans c
          exact (nI_eq (b := 12) (by omega) (by decide)).mp this
        have hm := okS_mid hS ha (n := nI 11) ⟨by decide, by decide⟩ (a := upd (shj 11 (sWhom (mS σ))) 11 p0) (b := upd (shj 11 (sWhat (mS σ))) 11 p1) (c := shj 11 (sSaid (mS σ))) (d := shj 11 (sWhen (mS σ))) (fun k hk hk2 => by
          have hkn : k < 11 := (nI_ltI (by omega) (by omega)).mp hk
          unfold upd shj
          have hne : ¬ k = 11 := by omega
          rw [if_neg hne, if_neg hne, if_pos hkn, if_pos hkn, if_pos hkn, if_pos hkn]
          exact okS_hN hS en hn (by omega))
        rw [e1]
        have ec : (nI 11).toNatClampNeg = 11 := nI_clamp (by decide)
        rw [ec]
        refine ⟨hv, hv, ⟨hm, hW, hQ⟩, hv, hv, hv, ?_, ?_⟩
        · rw [pk_us]; rfl
        · unfold askS shF shN; rw [if_pos c, if_pos c, if_pos c, if_pos c, if_pos c]; rfl
      · refine hT _ _ _ _ _ _ _ ⟨fun d => absurd d (nI_ge hj (by decide)), fun _ => ?_⟩
        have hv : vp_in (nI j) 12 := vin (by omega)
        have hv1 : vp_in (nI (j + 1)) 12 := vin (by omega)
        rw [nI_1, nI_clamp (by omega), nI_clamp (by omega), shj_step, shj_step, shj_step, shj_step]
        simp only [hv, hv1, true_and]
        exact ih
    have := h0 0 (by omega)
    rw [shj_0, shj_0, shj_0, shj_0] at this
    exact this
set_option maxRecDepth 20000 in
set_option maxHeartbeats 2000000 in
theorem v_X3_isSettled (σ : KM) (p0 : Int32) (p1 : Int32) (p2 : Int32) (p3 : Int32) (h : okS (mS σ) ∧ inW (mS σ) p0 ∧ 0 < sNq (mS σ) ∧ 0 ≤ p2 ∧ p2 ≤ 4096 ∧ 0 ≤ p3 ∧ p3 ≤ 4) : vc_X3_isSettled σ p0 p1 p2 p3 (fun r u => ∃ (ex_left : FI), (r = (b2i (settledB (mS σ) (fFit (mF σ)) p0 p1 p2 p3.toNatClampNeg)) ∧ u = (((mS σ), (mT σ), (mK σ), ((fFit (mF σ)), (ex_left), (fLeftBy (mF σ))), (mRow σ), (mRowMany σ), (mLots σ), (mRefused σ))))) := by
  obtain ⟨hS, hW, hq0, c0, c1, m0, m1⟩ := h
  obtain ⟨q, hq, eq⟩ := okS_nq hS
  obtain ⟨cc, hcc, rfl⟩ := nI_up (M := 4096) (n := 4096) (by decide) ⟨c0, c1⟩
  obtain ⟨n, hn, rfl⟩ := nI_up (M := 4) (n := 4) (by decide) ⟨m0, m1⟩
  have hqp : 0 < q := by
    rw [eq] at hq0
    exact (nI_ltI (a := 0) (by decide) (by omega)).mp hq0
  rw [nI_clamp (by omega)]
  unfold vc_X3_isSettled
  intro T hT
  refine upN n (fun j => T (nI j) (leftCode (mS σ) p0 (nI cc) n (fFit (mF σ)) j (fLeft (mF σ)))) ?_ (fun j hj ih => ?_) 0 (Nat.zero_le _)
  · refine hT _ _ ⟨fun _ => ⟨b2i_nar _, _, ?_, rfl⟩, fun c => absurd (Int32.le_refl _) c⟩
    unfold settledB
    rw [sure_congr (leftCode_congr n)]
  · refine hT _ _ ⟨fun c => absurd c (nI_ge hj (by omega)), fun _ => ?_⟩
    have e1 : nI n - 1 - nI j = nI (n - 1 - j) := by rw [show (1 : Int32) = nI 1 from rfl, pk_sub (by omega), pk_sub (by omega)]
    rw [e1, nI_clamp (by omega), nI_1]
    have hp := pow_le (q := q) (m := n - 1 - j) hq (by omega)
    have hp0 : 0 < q ^ (n - 1 - j) := Nat.pow_pos hqp
    have ed : nI cc / powI (sNq (mS σ)) (n - 1 - j) = nI (cc / q ^ (n - 1 - j)) := by rw [eq, pow_nI, pk_div (by omega) hp0 (by omega)]
    have hdc : cc / q ^ (n - 1 - j) ≤ cc := Nat.div_le_self _ _
    refine ⟨⟨nI_pos' (by omega), nI_le (b := 4) (by omega) (by decide)⟩, ?_, ?_, ⟨hS, hW, ?_⟩, ?_⟩
    · rw [eq, pow_nI]; exact nI_ne0 hp0 (by omega)
    · rw [eq]; exact nI_ne0 hqp (by omega)
    · rw [ed, eq, pk_rem (by omega) hqp (by omega)]
      exact inQ_nI eq hq (Nat.mod_lt _ hqp)
    · have e2 : leftCode (mS σ) p0 (nI cc) n (fFit (mF σ)) (j + 1) (fLeft (mF σ)) = leftAsk (mS σ) p0 (codeQ (mS σ) (nI cc) n j) (sAsked (mS σ) + 1 + nI j) (leftCode (mS σ) p0 (nI cc) n (fFit (mF σ)) j (fLeft (mF σ))) := rfl
      rw [e2] at ih
      exact ih
set_option maxRecDepth 20000 in
set_option maxHeartbeats 2000000 in
theorem v_X3_settle (σ : KM) (p0 : Int32) (p1 : Int32) (p2 : Int32) (h : okS (mS σ)) : vc_X3_settle σ p0 p1 p2 (fun r u => ∃ (ex_F : KF), (r = (rsX (whySettle (mS σ) p0 p1 p2) (settleV (mS σ) (fitM (mS σ) 0 (fFit (mF σ))) p0 p1 p2)) ∧ u = (((mS σ), (mT σ), (mK σ), (ex_F), (mRow σ), (mRowMany σ), (mLots σ), (rfX (mRefused σ) (whySettle (mS σ) p0 p1 p2)))))) := by
  have n1 : ((-1) : Int32) < 0 ∧ -6 ≤ ((-1) : Int32) := by decide
  have n2 : ((-2) : Int32) < 0 ∧ -6 ≤ ((-2) : Int32) := by decide
  have n3 : ((-3) : Int32) < 0 ∧ -6 ≤ ((-3) : Int32) := by decide
  have n6 : ((-6) : Int32) < 0 ∧ -6 ≤ ((-6) : Int32) := by decide
  obtain ⟨q, hq, eq⟩ := okS_nq h
  unfold vc_X3_settle
  intro T81 T90 h81 h90
  have b1 : (isWitnessI (mS σ) p0 = 0 ∨ isFactI p1 = 0) → whySettle (mS σ) p0 p1 p2 = -1 := fun c => by unfold whySettle; rw [if_pos c]
  refine ⟨fun c => ⟨n1, mF σ, rsX_n (b1 (Or.inl c)) (by decide), by rw [rfX_n (b1 (Or.inl c)) (by decide)]⟩, fun c => ⟨fun d => ⟨fun e => ?_, fun e => ⟨n2, mF σ, rsX_n (by unfold whySettle why01; rw [if_neg (by rintro (z | z); exact c z; exact d z), if_pos e]) (by decide), by rw [rfX_n (c := -2) (by unfold whySettle why01; rw [if_neg (by rintro (z | z); exact c z; exact d z), if_pos e]) (by decide)]⟩⟩, fun d => ⟨n1, mF σ, rsX_n (b1 (Or.inr d)) (by decide), by rw [rfX_n (b1 (Or.inr d)) (by decide)]⟩⟩⟩
  have hy : whySettle (mS σ) p0 p1 p2 = 0 := by unfold whySettle why01; rw [if_neg (by rintro (z | z); exact c z; exact d z), if_neg e]
  have hW := isW_in c
  refine ⟨⟨h, Or.inl rfl⟩, ?_⟩
  simp only [rfX_0 hy, ← rsX_0 hy] at h81 h90 ⊢
  unfold settleV at h81 h90 ⊢
  refine ⟨fun z => ?_, fun z => ?_⟩
  · have hz : ¬ hasB (sureOf (fitM (mS σ) 0 (fFit (mF σ)))) p1 = true := by rw [b2i_z.mp z]; decide
    rw [if_neg hz] at h81 h90
    have key : ∀ dd many, 1 ≤ many → many + dd = 4 → settleFrom (mS σ) (fitM (mS σ) 0 (fFit (mF σ))) p0 p1 p2 dd many = settleFrom (mS σ) (fitM (mS σ) 0 (fFit (mF σ))) p0 p1 p2 3 1 → ∀ left, T81 (nI many) (fitM (mS σ) 0 (fFit (mF σ))) left (mRefused σ) := by
      intro dd
      induction dd with
      | zero =>
        intro many h1 h2 e left
        obtain rfl : many = 4 := by omega
        exact h81 _ _ _ _ ⟨fun _ => ⟨_, e, rfl⟩, fun c => absurd (by decide) c⟩
      | succ dd ih =>
        intro many h1 h2 e
        rw [settleFrom] at e
        have hpw := pow_le (q := q) (m := many) hq (by omega)
        have epw : powI (sNq (mS σ)) many = nI (q ^ many) := by rw [eq, pow_nI]
        have ecl : (powI (sNq (mS σ)) many).toNatClampNeg = q ^ many := by rw [epw, nI_clamp (by omega)]
        rw [ecl] at e
        have hm4 : 0 ≤ nI many ∧ nI many ≤ 4 := ⟨nI_pos' (by omega), nI_le (b := 4) (by omega) (by decide)⟩
        intro left0
        refine h81 _ _ _ _ ⟨fun c => absurd c (nle_nI (N := 4) (n := 4) (by decide) (by decide) (by omega)), fun _ => ?_⟩
        refine first_loop (n := q ^ many) (fun cd => settledB (mS σ) (fitM (mS σ) 0 (fFit (mF σ))) p0 p1 (nI cd) many) (fun j => ∀ left, T90 (nI many) (nI j) (fitM (mS σ) 0 (fFit (mF σ))) left (mRefused σ)) (fun o => (match o with | some cd => if p2 = 0 then nI many else nI cd / powI (sNq (mS σ)) (many - 1) | none => settleFrom (mS σ) (fitM (mS σ) 0 (fFit (mF σ))) p0 p1 p2 dd (many + 1)) = settleFrom (mS σ) (fitM (mS σ) 0 (fFit (mF σ))) p0 p1 p2 3 1) 0 (fun g left => ?_) (fun j _ hj g1 g0 left => ?_) e left0
        · refine h90 _ _ _ _ _ ⟨hm4, fun _ => ?_, fun c => absurd (by rw [nI_clamp (by omega), epw, Nat.zero_add]; exact Int32.le_refl _) c⟩
          rw [nI_1]; exact ih (many + 1) (by omega) (by omega) g left
        · have hjq : j < q ^ many := by omega
          have hqp : 0 < q := by
            rcases Nat.eq_zero_or_pos q with z0 | z0
            · rw [z0, Nat.zero_pow (by omega)] at hjq; omega
            · exact z0
          refine h90 _ _ _ _ _ ⟨hm4, fun c => absurd c (by rw [nI_clamp (by omega), epw]; exact nI_ge hjq (by omega)), fun _ => ⟨⟨h, hW, by rw [eq]; exact nI_lt (a := 0) hqp (by omega), nI_pos' (by omega), nI_le (b := 4096) (by omega) (by decide), hm4.1, hm4.2⟩, fun lf => ?_⟩⟩
          rw [nI_clamp (by omega), nI_1]
          refine ⟨fun r => g1 (b2i_z.mp r) lf, fun r => ?_⟩
          have r2 := g0 (b2i_ne.mp r)
          have e1 : nI many - 1 = nI (many - 1) := by rw [show (1 : Int32) = nI 1 from rfl, pk_sub (by omega)]
          rw [e1, nI_clamp (by omega)]
          refine ⟨fun s => ⟨⟨nI_pos' (by omega), nI_le (b := 4) (by omega) (by decide)⟩, ?_, _, ?_, rfl⟩, fun s => ⟨_, ?_, rfl⟩⟩
          · rw [eq, pow_nI]; exact nI_ne0 (Nat.pow_pos hqp) (by have := pow_le (q := q) (m := many - 1) hq (by omega); omega)
          · rw [← r2]; show _ = if p2 = 0 then _ else _; rw [if_neg s]
          · rw [← r2]; show _ = if p2 = 0 then _ else _; rw [if_pos s]
    exact key 3 1 (by omega) (by omega) rfl _
  · have hz := b2i_ne.mp z
    rw [if_pos hz]
    exact ⟨fun s => ⟨_, by rw [if_neg s], rfl⟩, fun s => ⟨_, by rw [if_pos s], rfl⟩⟩
set_option maxRecDepth 20000 in
set_option maxHeartbeats 2000000 in
theorem v_X3_judge (σ : KM) (h : okS (mS σ) ∧ 0 ≤ mRowMany σ ∧ mRowMany σ ≤ 12) : vc_X3_judge σ (fun r u => (r = (judgeV (mS σ) (mRow σ) (mRowMany σ)) ∧ u = (((mS σ), (mT σ), (mK σ), (mF σ), (mRow σ), (0), (mLots σ), (mRefused σ))))) := by
  obtain ⟨hS, r0, r12⟩ := h
  obtain ⟨n, hn, en⟩ := nI_up (M := 12) (n := 12) (by decide) ⟨r0, r12⟩
  unfold vc_X3_judge
  intro T hT
  refine first_loop (n := n) (fun k => decide (sNh (mS σ) ≤ nI k) || !decide (sSaid (mS σ) k = mRow σ k)) (fun j => T (mRowMany σ) (nI j) 0) (fun o => (match o with | some k => nI k | none => (-9 : Int32)) = judgeV (mS σ) (mRow σ) (mRowMany σ)) 0 (fun q => ?_) (fun j _ hj h1 h0 => ?_) ?_
  · refine hT _ _ _ ⟨fun _ => ⟨q, rfl⟩, fun c => absurd (by rw [Nat.zero_add]; exact le_nI en) c⟩
  · refine hT _ _ _ ⟨fun c => absurd c (nle_nI en (by omega) (by omega)), fun _ => ⟨fun c => ⟨h0 (by simp [c]), rfl⟩, fun c => ?_⟩⟩
    have hv : vp_in (nI j) 12 := vin (by omega)
    rw [nI_clamp (by omega), nI_1]
    exact ⟨hv, hv, fun d => h1 (by simp [c, d]), fun d => ⟨h0 (by simp [d]), rfl⟩⟩
  · rw [judgeV, en, nI_clamp (by omega)]; rfl
