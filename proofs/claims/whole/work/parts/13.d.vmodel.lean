set_option maxRecDepth 20000 in
set_option maxHeartbeats 2000000 in
theorem v_X3_worstOf (σ : KM) (p0 : Int32) (p1 : Int32) (h : okS (mS σ) ∧ inW (mS σ) p0 ∧ inQ (mS σ) p1) : vc_X3_worstOf σ p0 p1 (fun r => r = (worstI (mS σ) (fFit (mF σ)) p0 p1)) := by
  unfold vc_X3_worstOf
  intro T5 T17 h5 h17
  have inner : ∀ (x : Int32) (v : Nat), v < 3 → T5 (jm x (cntFit (mS σ) (fFit (mF σ)) p0 p1 (nI v))) (nI (v + 1)) → T5 x (nI v) := by
    intro x v hv hT
    refine h5 _ _ ⟨fun c => absurd c (nle_nI (N := 3) (n := 3) (by decide) (by decide) hv), fun _ => ?_⟩
    refine cnt_up (n := 64) (fun k => decide (fFit (mF σ) k = 1) && decide (ansI (mS σ) p0 p1 (nI k) (sAsked (mS σ) + 1) = nI v)) (fun j a => T17 x (nI v) a (nI j)) ?_ (fun j hj a ih => ?_)
    · refine h17 _ _ _ _ ⟨fun _ => ?_, fun c => absurd (by decide) c⟩
      rw [nI_1]
      unfold jm cntFit at hT
      grind
    · refine h17 _ _ _ _ ⟨fun c => absurd c (nle_nI (N := 64) (n := 64) (by decide) (by decide) hj), fun _ => ⟨vin hj, ?_⟩⟩
      rw [nI_clamp (by omega), nI_1]
      grind [b2i]
  refine inner 0 0 (by decide) (inner _ 1 (by decide) (inner _ 2 (by decide) ?_))
  exact h5 _ _ ⟨fun _ => rfl, fun c => absurd (by decide) c⟩
set_option maxRecDepth 20000 in
set_option maxHeartbeats 2000000 in
theorem v_X3_next_ (σ : KM) (p0 : Int32) (h : okS (mS σ)) : vc_X3_next_ σ p0 (fun r u => ∃ (ex_F : KF), (r = (rsX (why01 p0) (if p0 = 0 then (nextBest (mS σ) (fitM (mS σ) 0 (fFit (mF σ)))).1 else (nextBest (mS σ) (fitM (mS σ) 0 (fFit (mF σ)))).2)) ∧ u = (((mS σ), (mT σ), (mK σ), (ex_F), (mRow σ), (mRowMany σ), (mLots σ), (rfX (mRefused σ) (why01 p0)))))) := by
  have n1 : ((-1) : Int32) < 0 ∧ -6 ≤ ((-1) : Int32) := by decide
  have n2 : ((-2) : Int32) < 0 ∧ -6 ≤ ((-2) : Int32) := by decide
  have n3 : ((-3) : Int32) < 0 ∧ -6 ≤ ((-3) : Int32) := by decide
  have n6 : ((-6) : Int32) < 0 ∧ -6 ≤ ((-6) : Int32) := by decide
  obtain ⟨nw, hnw, enw⟩ := okS_nw h
  obtain ⟨nq, hnq, enq⟩ := okS_nq h
  unfold vc_X3_next_
  intro T30 T42 h30 h42
  refine ⟨fun c => ⟨⟨h, Or.inl rfl⟩, ?_⟩, fun c => ⟨n2, mF σ, ?_⟩⟩
  · have key : T30 (nextBest (mS σ) (fitM (mS σ) 0 (fFit (mF σ)))).1 (nextBest (mS σ) (fitM (mS σ) 0 (fFit (mF σ)))).2 (nI nw) (fitM (mS σ) 0 (fFit (mF σ))) (mRefused σ) := by
      refine h30 _ _ _ _ _ ⟨fun _ => ?_, fun d => absurd (le_nI enw) d⟩
      have hw : why01 p0 = 0 := by unfold why01; rw [if_neg c]
      unfold rsX rfX
      rw [hw]
      exact ⟨fun d => ⟨((fitM (mS σ) 0 (fFit (mF σ))), (fLeft (mF σ)), (fLeftBy (mF σ))), by simp [d], by simp⟩, fun d => ⟨((fitM (mS σ) 0 (fFit (mF σ))), (fLeft (mF σ)), (fLeftBy (mF σ))), by simp [d], by simp⟩⟩
    refine fold_up (n := nw) (fun w b => foldN (fun q b => nextStep (mS σ) (fitM (mS σ) 0 (fFit (mF σ))) (nI w) (nI q) b) (sNq (mS σ)).toNatClampNeg b) ((-9, -9) : Int32 × Int32) (fun j b => T30 b.1 b.2 (nI j) (fitM (mS σ) 0 (fFit (mF σ))) (mRefused σ)) ?_ (fun w hw b ih => ?_)
    · have e : nextBest (mS σ) (fitM (mS σ) 0 (fFit (mF σ))) = foldN (fun w b => foldN (fun q b => nextStep (mS σ) (fitM (mS σ) 0 (fFit (mF σ))) (nI w) (nI q) b) (sNq (mS σ)).toNatClampNeg b) nw ((-9, -9) : Int32 × Int32) := by unfold nextBest; rw [enw, nI_clamp (by omega)]
      rw [← e]; exact key
    · refine h30 _ _ _ _ _ ⟨fun d => absurd d (nle_nI enw (by omega) hw), fun _ => ?_⟩
      rw [enq, nI_clamp (by omega)] at ih
      refine fold_up (n := nq) (fun q b => nextStep (mS σ) (fitM (mS σ) 0 (fFit (mF σ))) (nI w) (nI q) b) b (fun j b => T42 b.1 b.2 (nI w) (nI j) (fitM (mS σ) 0 (fFit (mF σ))) (mRefused σ)) ?_ (fun q hq b ih2 => ?_)
      · refine h42 _ _ _ _ _ _ ⟨fun _ => ?_, fun d => absurd (le_nI enq) d⟩
        rw [nI_1]; exact ih
      · refine h42 _ _ _ _ _ _ ⟨fun d => absurd d (nle_nI enq (by omega) hq), fun _ => ⟨⟨h, inW_nI enw hnw hw, inQ_nI enq hnq hq⟩, ?_⟩⟩
        rw [nI_1]
        unfold nextStep at ih2
        clear h h30 h42 ih
        grind
  · have hw : why01 p0 = -2 := by unfold why01; rw [if_pos c]
    unfold rsX rfX
    rw [hw]
    exact ⟨rfl, rfl⟩
set_option maxRecDepth 20000 in
set_option maxHeartbeats 2000000 in
theorem v_X3_startLeft (σ : KM) : vc_X3_startLeft σ (fun u => u = (((mS σ), (mT σ), (mK σ), ((fFit (mF σ)), (tab 64 (fFit (mF σ)) (fLeft (mF σ))), (fLeftBy (mF σ))), (mRow σ), (mRowMany σ), (mLots σ), (mRefused σ)))) := by
  unfold vc_X3_startLeft
  intro T hT
  refine tab_loop (n := 64) (fFit (mF σ)) (fLeft (mF σ)) (fun j s => T (nI j) s) ?_ (fun j hj s hs ih => ?_)
  · exact hT _ _ ⟨fun _ => rfl, fun c => absurd (by decide) c⟩
  · refine hT _ _ ⟨fun c => absurd c (nle_nI (N := 64) (n := 64) (by decide) (by decide) hj), fun _ => ⟨vin hj, vin hj, ?_⟩⟩
    rw [nI_clamp (by omega), nI_1]; exact ih
set_option maxRecDepth 20000 in
set_option maxHeartbeats 2000000 in
theorem v_X3_asksLeft (σ : KM) (p0 : Int32) (p1 : Int32) (p2 : Int32) (h : okS (mS σ) ∧ inW (mS σ) p0 ∧ inQ (mS σ) p1) : vc_X3_asksLeft σ p0 p1 p2 (fun u => u = (((mS σ), (mT σ), (mK σ), ((fFit (mF σ)), (leftAsk (mS σ) p0 p1 p2 (fLeft (mF σ))), (fLeftBy (mF σ))), (mRow σ), (mRowMany σ), (mLots σ), (mRefused σ)))) := by
  unfold vc_X3_asksLeft
  intro T hT
  refine ⟨h, ?_⟩
  refine tab_loop (n := 64) (fun k => b2i (decide (fLeft (mF σ) k = 1) && decide (ansI (mS σ) p0 p1 (nI k) p2 = ansI (mS σ) p0 p1 (sCase (mS σ)) p2))) (fLeft (mF σ)) (fun j s => T (ansI (mS σ) p0 p1 (sCase (mS σ)) p2) (nI j) s) ?_ (fun j hj s hs ih => ?_)
  · exact hT _ _ _ ⟨fun _ => rfl, fun c => absurd (by decide) c⟩
  · have hv : vp_in (nI j) 64 := vin hj
    refine hT _ _ _ ⟨fun c => absurd c (nle_nI (N := 64) (n := 64) (by decide) (by decide) hj), fun _ => ⟨hv, ?_⟩⟩
    rw [nI_clamp (by omega), nI_1, hs]
    grind [b2i]
set_option maxRecDepth 20000 in
set_option maxHeartbeats 2000000 in
theorem v_X3_power (p0 : Int32) (p1 : Int32) (h : 0 ≤ p1 ∧ p1 ≤ 4) : vc_X3_power p0 p1 (fun r => r = (powI p0 p1.toNatClampNeg)) := by
  obtain ⟨n, hn, rfl⟩ : ∃ n : Nat, n ≤ 4 ∧ p1 = nI n := nI_up (by decide) h
  unfold vc_X3_power
  intro T hT
  rw [nI_clamp (by omega)] at hT
  refine upN n (fun j => T (powI p0 j) (nI j)) ?_ (fun j hj ih => ?_) 0 (Nat.zero_le _)
  · exact hT _ _ ⟨fun _ => rfl, fun c => absurd (Int32.le_refl _) c⟩
  · refine hT _ _ ⟨fun c => absurd c (nI_ge hj (by omega)), fun _ => ?_⟩
    rw [nI_1]; exact ih
set_option maxRecDepth 20000 in
set_option maxHeartbeats 2000000 in
theorem v_X3_isSettled (σ : KM) (p0 : Int32) (p1 : Int32) (p2 : Int32) (p3 : Int32) (h : okS (mS σ) ∧ inW (mS σ) p0 ∧ 0 < sNq (mS σ) ∧ 0 ≤ p2 ∧ p2 ≤ 4096 ∧ 0 ≤ p3 ∧ p3 ≤ 4) : vc_X3_isSettled σ p0 p1 p2 p3 (fun r u => ∃ (ex_left : FI), (r = (b2i (settledB (mS σ) (fFit (mF σ)) p0 p1 p2 p3.toNatClampNeg)) ∧ u = (((mS σ), (mT σ), (mK σ), ((fFit (mF σ)), (ex_left), (fLeftBy (mF σ))), (mRow σ), (mRowMany σ), (mLots σ), (mRefused σ))))) := by
  obtain ⟨hS, hW, hq0, c0, c1, m0, m1⟩ := h
  obtain ⟨q, hq, eq⟩ := okS_nq hS
  obtain ⟨cc, hcc, rfl⟩ := nI_up (M := 4096) (n := 4096) (by decide) ⟨c0, c1⟩
  obtain ⟨n, hn, rfl⟩ := nI_up (M := 4) (n := 4) (by decide) ⟨m0, m1⟩
  have hqp : 0 < q := by
    rw [eq] at hq0
    exact (nI_ltI (a := 0) (by decide) (by omega)).mp hq0
  rw [nI_clamp (by omega)]
  unfold vc_X3_isSettled
  intro T hT
  refine upN n (fun j => T (nI j) (leftCode (mS σ) p0 (nI cc) n (fFit (mF σ)) j (fLeft (mF σ)))) ?_ (fun j hj ih => ?_) 0 (Nat.zero_le _)
  · refine hT _ _ ⟨fun _ => ⟨b2i_nar _, _, ?_, rfl⟩, fun c => absurd (Int32.le_refl _) c⟩
    unfold settledB
    rw [sure_congr (leftCode_congr n)]
  · refine hT _ _ ⟨fun c => absurd c (nI_ge hj (by omega)), fun _ => ?_⟩
    have e1 : nI n - 1 - nI j = nI (n - 1 - j) := by rw [show (1 : Int32) = nI 1 from rfl, pk_sub (by omega), pk_sub (by omega)]
    rw [e1, nI_clamp (by omega), nI_1]
    have hp := pow_le (q := q) (m := n - 1 - j) hq (by omega)
    have hp0 : 0 < q ^ (n - 1 - j) := Nat.pow_pos hqp
    have ed : nI cc / powI (sNq (mS σ)) (n - 1 - j) = nI (cc / q ^ (n - 1 - j)) := by rw [eq, pow_nI, pk_div (by omega) hp0 (by omega)]
    have hdc : cc / q ^ (n - 1 - j) ≤ cc := Nat.div_le_self _ _
    refine ⟨⟨nI_pos' (by omega), nI_le (b := 4) (by omega) (by decide)⟩, ?_, ?_, ⟨hS, hW, ?_⟩, ?_⟩
    · rw [eq, pow_nI]; exact nI_ne0 hp0 (by omega)
    · rw [eq]; exact nI_ne0 hqp (by omega)
    · rw [ed, eq, pk_rem (by omega) hqp (by omega)]
      exact inQ_nI eq hq (Nat.mod_lt _ hqp)
    · have e2 : leftCode (mS σ) p0 (nI cc) n (fFit (mF σ)) (j + 1) (fLeft (mF σ)) = leftAsk (mS σ) p0 (codeQ (mS σ) (nI cc) n j) (sAsked (mS σ) + 1 + nI j) (leftCode (mS σ) p0 (nI cc) n (fFit (mF σ)) j (fLeft (mF σ))) := rfl
      rw [e2] at ih
      exact ih
set_option maxRecDepth 20000 in
set_option maxHeartbeats 2000000 in
theorem v_X3_settle (σ : KM) (p0 : Int32) (p1 : Int32) (p2 : Int32) (h : okS (mS σ)) : vc_X3_settle σ p0 p1 p2 (fun r u => ∃ (ex_F : KF), (r = (rsX (whySettle (mS σ) p0 p1 p2) (settleV (mS σ) (fitM (mS σ) 0 (fFit (mF σ))) p0 p1 p2)) ∧ u = (((mS σ), (mT σ), (mK σ), (ex_F), (mRow σ), (mRowMany σ), (mLots σ), (rfX (mRefused σ) (whySettle (mS σ) p0 p1 p2)))))) := by
  have n1 : ((-1) : Int32) < 0 ∧ -6 ≤ ((-1) : Int32) := by decide
  have n2 : ((-2) : Int32) < 0 ∧ -6 ≤ ((-2) : Int32) := by decide
  have n3 : ((-3) : Int32) < 0 ∧ -6 ≤ ((-3) : Int32) := by decide
  have n6 : ((-6) : Int32) < 0 ∧ -6 ≤ ((-6) : Int32) := by decide
  obtain ⟨q, hq, eq⟩ := okS_nq h
  unfold vc_X3_settle
  intro T81 T90 h81 h90
  have b1 : (isWitnessI (mS σ) p0 = 0 ∨ isFactI p1 = 0) → whySettle (mS σ) p0 p1 p2 = -1 := fun c => by unfold whySettle; rw [if_pos c]
  refine ⟨fun c => ⟨n1, mF σ, rsX_n (b1 (Or.inl c)) (by decide), by rw [rfX_n (b1 (Or.inl c)) (by decide)]⟩, fun c => ⟨fun d => ⟨fun e => ?_, fun e => ⟨n2, mF σ, rsX_n (by unfold whySettle why01; rw [if_neg (by rintro (z | z); exact c z; exact d z), if_pos e]) (by decide), by rw [rfX_n (c := -2) (by unfold whySettle why01; rw [if_neg (by rintro (z | z); exact c z; exact d z), if_pos e]) (by decide)]⟩⟩, fun d => ⟨n1, mF σ, rsX_n (b1 (Or.inr d)) (by decide), by rw [rfX_n (b1 (Or.inr d)) (by decide)]⟩⟩⟩
  have hy : whySettle (mS σ) p0 p1 p2 = 0 := by unfold whySettle why01; rw [if_neg (by rintro (z | z); exact c z; exact d z), if_neg e]
  have hW := isW_in c
  refine ⟨⟨h, Or.inl rfl⟩, ?_⟩
  simp only [rfX_0 hy, ← rsX_0 hy] at h81 h90 ⊢
  unfold settleV at h81 h90 ⊢
  refine ⟨fun z => ?_, fun z => ?_⟩
  · have hz : ¬ hasB (sureOf (fitM (mS σ) 0 (fFit (mF σ)))) p1 = true := by rw [b2i_z.mp z]; decide
    rw [if_neg hz] at h81 h90
    have key : ∀ dd many, 1 ≤ many → many + dd = 4 → settleFrom (mS σ) (fitM (mS σ) 0 (fFit (mF σ))) p0 p1 p2 dd many = settleFrom (mS σ) (fitM (mS σ) 0 (fFit (mF σ))) p0 p1 p2 3 1 → ∀ left, T81 (nI many) (fitM (mS σ) 0 (fFit (mF σ))) left (mRefused σ) := by
      intro dd
      induction dd with
      | zero =>
        intro many h1 h2 e left
        obtain rfl : many = 4 := by omega
        exact h81 _ _ _ _ ⟨fun _ => ⟨_, e, rfl⟩, fun c => absurd (by decide) c⟩
      | succ dd ih =>
        intro many h1 h2 e
        rw [settleFrom] at e
        have hpw := pow_le (q := q) (m := many) hq (by omega)
        have epw : powI (sNq (mS σ)) many = nI (q ^ many) := by rw [eq, pow_nI]
        have ecl : (powI (sNq (mS σ)) many).toNatClampNeg = q ^ many := by rw [epw, nI_clamp (by omega)]
        rw [ecl] at e
        have hm4 : 0 ≤ nI many ∧ nI many ≤ 4 := ⟨nI_pos' (by omega), nI_le (b := 4) (by omega) (by decide)⟩
        intro left0
        refine h81 _ _ _ _ ⟨fun c => absurd c (nle_nI (N := 4) (n := 4) (by decide) (by decide) (by omega)), fun _ => ?_⟩
        refine first_loop (n := q ^ many) (fun cd => settledB (mS σ) (fitM (mS σ) 0 (fFit (mF σ))) p0 p1 (nI cd) many) (fun j => ∀ left, T90 (nI many) (nI j) (fitM (mS σ) 0 (fFit (mF σ))) left (mRefused σ)) (fun o => (match o with | some cd => if p2 = 0 then nI many else nI cd / powI (sNq (mS σ)) (many - 1) | none => settleFrom (mS σ) (fitM (mS σ) 0 (fFit (mF σ))) p0 p1 p2 dd (many + 1)) = settleFrom (mS σ) (fitM (mS σ) 0 (fFit (mF σ))) p0 p1 p2 3 1) 0 (fun g left => ?_) (fun j _ hj g1 g0 left => ?_) e left0
        · refine h90 _ _ _ _ _ ⟨hm4, fun _ => ?_, fun c => absurd (by rw [nI_clamp (by omega), epw, Nat.zero_add]; exact Int32.le_refl _) c⟩
          rw [nI_1]; exact ih (many + 1) (by omega) (by omega) g left
        · have hjq : j < q ^ many := by omega
          have hqp : 0 < q := by
            rcases Nat.eq_zero_or_pos q with z0 | z0
            · rw [z0, Nat.zero_pow (by omega)] at hjq; omega
            · exact z0
          refine h90 _ _ _ _ _ ⟨hm4, fun c => absurd c (by rw [nI_clamp (by omega), epw]; exact nI_ge hjq (by omega)), fun _ => ⟨⟨h, hW, by rw [eq]; exact nI_lt (a := 0) hqp (by omega), nI_pos' (by omega), nI_le (b := 4096) (by omega) (by decide), hm4.1, hm4.2⟩, fun lf => ?_⟩⟩
          rw [nI_clamp (by omega), nI_1]
          refine ⟨fun r => g1 (b2i_z.mp r) lf, fun r => ?_⟩
          have r2 := g0 (b2i_ne.mp r)
          have e1 : nI many - 1 = nI (many - 1) := by rw [show (1 : Int32) = nI 1 from rfl, pk_sub (by omega)]
          rw [e1, nI_clamp (by omega)]
          refine ⟨fun s => ⟨⟨nI_pos' (by omega), nI_le (b := 4) (by omega) (by decide)⟩, ?_, _, ?_, rfl⟩, fun s => ⟨_, ?_, rfl⟩⟩
          · rw [eq, pow_nI]; exact nI_ne0 (Nat.pow_pos hqp) (by have := pow_le (q := q) (m := many - 1) hq (by omega); omega)
          · rw [← r2]; show _ = if p2 = 0 then _ else _; rw [if_neg s]
          · rw [← r2]; show _ = if p2 = 0 then _ else _; rw [if_pos s]
    exact key 3 1 (by omega) (by omega) rfl _
  · have hz := b2i_ne.mp z
    rw [if_pos hz]
    exact ⟨fun s => ⟨_, by rw [if_neg s], rfl⟩, fun s => ⟨_, by rw [if_pos s], rfl⟩⟩
set_option maxRecDepth 20000 in
set_option maxHeartbeats 2000000 in
theorem v_X3_words (σ : KM) (p0 : Int32) (p1 : Int32) (h : okS (mS σ)) : vc_X3_words σ p0 p1 (fun r u => (r = (rsX (whyWords (mS σ) p0 p1) (wordsV (mS σ) p0 p1)) ∧ u = (((mS σ), (mT σ), (mK σ), (mF σ), (mRow σ), (mRowMany σ), (mLots σ), (rfX (mRefused σ) (whyWords (mS σ) p0 p1)))))) := by
  have n1 : ((-1) : Int32) < 0 ∧ -6 ≤ ((-1) : Int32) := by decide
  have n2 : ((-2) : Int32) < 0 ∧ -6 ≤ ((-2) : Int32) := by decide
  have n3 : ((-3) : Int32) < 0 ∧ -6 ≤ ((-3) : Int32) := by decide
  have n6 : ((-6) : Int32) < 0 ∧ -6 ≤ ((-6) : Int32) := by decide
  obtain ⟨n, hn, en⟩ := okS_nq h
  have hw := @isW_in (mS σ) p0
  unfold vc_X3_words
  intro T hT
  refine ⟨fun c => ⟨fun d => ?_, fun d => ⟨n2, rsX_n (by unfold whyWords; rw [if_neg c, if_pos d]) (by decide), by rw [rfX_n (c := -2) (by unfold whyWords; rw [if_neg c, if_pos d]) (by decide)]⟩⟩, fun c => ⟨n1, rsX_n (by unfold whyWords; rw [if_pos c]) (by decide), by rw [rfX_n (c := -1) (by unfold whyWords; rw [if_pos c]) (by decide)]⟩⟩
  have hy : whyWords (mS σ) p0 p1 = 0 := by unfold whyWords; rw [if_neg c, if_neg d]
  refine cnt_up (n := n) (fun q => decide (ansI (mS σ) p0 (nI q) (sCase (mS σ)) (sAsked (mS σ) + 1) = p1)) (fun j a => T a (nI j) (mRefused σ)) ?_ (fun j hj a ih => ?_)
  · refine hT _ _ _ ⟨fun _ => ⟨?_, by rw [rfX_0 hy]⟩, fun c => absurd (le_nI en) c⟩
    rw [← rsX_0 hy, wordsV, en, nI_clamp (by omega)]
  · refine hT _ _ _ ⟨fun c => absurd c (nle_nI en (by omega) hj), fun _ => ⟨⟨h, hw c, inQ_nI en hn hj⟩, ?_⟩⟩
    rw [nI_1]
    exact ⟨fun e => by simpa [e, add0] using ih, fun e => by simpa [e, add1] using ih⟩
set_option maxRecDepth 20000 in
set_option maxHeartbeats 2000000 in
theorem v_X3_trueAt (σ : KM) (p0 : Int32) (p1 : Int32) (h : okS (mS σ) ∧ 0 ≤ p0 ∧ p0 < sNh (mS σ)) : vc_X3_trueAt σ p0 p1 (fun r => r = (trueAt (mS σ) p0 p1)) := by
  obtain ⟨a0, a1, a2, -⟩ := okS_h h.1 h.2.1 h.2.2
  have hq := inQ_vin h.1 a2
  unfold vc_X3_trueAt trueAt; clear h; grind [b2i]
set_option maxRecDepth 20000 in
set_option maxHeartbeats 2000000 in
theorem v_X3_hasLied (σ : KM) (p0 : Int32) (p1 : Int32) (h : okS (mS σ)) : vc_X3_hasLied σ p0 p1 (fun r => r = (b2i (liedB (mS σ) p0 p1))) := by
  obtain ⟨n, hn, en⟩ := okS_nh h
  unfold vc_X3_hasLied
  intro T hT
  refine any_loop (n := n) (fun k => decide (sWhom (mS σ) k = p0) && decide (trueAt (mS σ) (nI k) p1 = 0)) (fun j => T (nI j)) (fun b => (if b then (1 : Int32) else 0) = b2i (liedB (mS σ) p0 p1)) (fun q => ?_) (fun j hj h1 h0 => ?_) ?_
  · exact hT _ ⟨fun _ => q, fun c => absurd (le_nI en) c⟩
  · refine hT _ ⟨fun c => absurd c (nle_nI en (by omega) hj), fun _ => ⟨vin (by omega), ?_⟩⟩
    rw [nI_clamp (by omega), nI_1]
    exact ⟨fun c => h1 (by simp [c]), fun c => ⟨⟨h, nI_pos' (by omega), by rw [en]; exact nI_lt hj (by omega)⟩, fun d => h1 (by simp [d]), fun d => h0 (by simp [c, d])⟩⟩
  · rw [liedB, en, nI_clamp (by omega)]; rfl
set_option maxRecDepth 20000 in
set_option maxHeartbeats 2000000 in
theorem v_X3_isLiar (σ : KM) (p0 : Int32) (h : okS (mS σ)) : vc_X3_isLiar σ p0 (fun r => r = (b2i (liarB (mS σ) (fFit (mF σ)) p0))) := by
  unfold vc_X3_isLiar
  intro T hT
  refine all_loop (n := 64) (fun k => !decide (fFit (mF σ) k = 1) || liedB (mS σ) p0 (nI k)) (fun j => T (nI j)) (fun b => b2i (b && decide (0 < sumN (fFit (mF σ)) 64)) = b2i (liarB (mS σ) (fFit (mF σ)) p0)) (fun q => ?_) (fun j hj h1 h0 => ?_) rfl
  · refine hT _ ⟨fun _ => ?_, fun c => absurd (by decide) c⟩
    have hd : (sumN (fFit (mF σ)) 64 ≤ 0) ↔ ¬ 0 < sumN (fFit (mF σ)) 64 := Int32.not_lt.symm
    rw [← q]
    exact ⟨fun c => by simp [hd.mp c, b2i], fun c => by rw [hd, Classical.not_not] at c; simp [c, b2i]⟩
  · refine hT _ ⟨fun c => absurd c (nle_nI (N := 64) (n := 64) (by decide) (by decide) hj), fun _ => ⟨vin hj, ?_⟩⟩
    rw [nI_clamp (by omega), nI_1]
    exact ⟨fun c => h1 (by simp [c]), fun c => ⟨h, fun d => h1 (by simp [b2i_ne.mp d]), fun d => h0 (by simp [c, b2i_z.mp d])⟩⟩
set_option maxRecDepth 20000 in
set_option maxHeartbeats 2000000 in
theorem v_X3_liars (σ : KM) (h : okS (mS σ)) : vc_X3_liars σ (fun r u => ∃ (ex_F : KF), (r = (liarsV (mS σ) (fitM (mS σ) 0 (fFit (mF σ)))) ∧ u = (((mS σ), (mT σ), (mK σ), (ex_F), (mRow σ), (mRowMany σ), (mLots σ), (mRefused σ))))) := by
  obtain ⟨n, hn, en⟩ := okS_nw h
  unfold vc_X3_liars
  intro T hT
  refine ⟨⟨h, Or.inl rfl⟩, ?_⟩
  refine set_up (n := n) (fun w => liarB (mS σ) (fitM (mS σ) 0 (fFit (mF σ))) (nI w)) (fun j a => T a (nI j) (fitM (mS σ) 0 (fFit (mF σ)))) ?_ (fun j hj a ih => ?_)
  · refine hT _ _ _ ⟨fun _ => ⟨_, ?_, rfl⟩, fun c => absurd (le_nI en) c⟩
    rw [liarsV, en, nI_clamp (by omega)]
  · refine hT _ _ _ ⟨fun c => absurd c (nle_nI en (by omega) hj), fun _ => ⟨h, ?_⟩⟩
    rw [nI_1]
    exact ⟨fun d => by simpa [b2i_z.mp d] using ih, fun d => by simpa [b2i_ne.mp d] using ih⟩
set_option maxRecDepth 20000 in
set_option maxHeartbeats 2000000 in
theorem v_X3_fitBoth (σ : KM) (p0 : Int32) (p1 : Int32) (h : okS (mS σ) ∧ (0 ≤ p0 ∧ p0 < sNh (mS σ)) ∧ (0 ≤ p1 ∧ p1 < sNh (mS σ))) : vc_X3_fitBoth σ p0 p1 (fun r => r = (b2i (bothB (mS σ) p0 p1))) := by
  obtain ⟨a0, a1, a2, -⟩ := okS_h h.1 h.2.1.1 h.2.1.2
  obtain ⟨c0, c1, c2, -⟩ := okS_h h.1 h.2.2.1 h.2.2.2
  unfold vc_X3_fitBoth
  intro T hT
  refine any_loop (n := 64) (fun k => hitB (mS σ) (sWhat (mS σ) p0.toNatClampNeg) (nI k) p0.toNatClampNeg && hitB (mS σ) (sWhat (mS σ) p1.toNatClampNeg) (nI k) p1.toNatClampNeg) (fun j => T (nI j)) (fun b => (if b then (1 : Int32) else 0) = b2i (bothB (mS σ) p0 p1)) (fun q => ?_) (fun j hj h1 h0 => ?_) rfl
  · exact hT _ ⟨fun _ => q, fun c => absurd (by decide) c⟩
  · refine hT _ ⟨fun c => absurd c (nle_nI (N := 64) (n := 64) (by decide) (by decide) hj), fun _ => ⟨a0, a0, a0, ⟨h.1, a1, a2⟩, a0, ?_⟩⟩
    rw [nI_1]
    exact ⟨fun c => h1 (by simp [hitB, c]), fun c => ⟨c0, c0, c0, ⟨h.1, c1, c2⟩, c0, fun d => h1 (by simp [hitB, d]), fun d => h0 (by simp [hitB, c, d])⟩⟩
set_option maxRecDepth 20000 in
set_option maxHeartbeats 2000000 in
theorem v_X3_clash (σ : KM) (h : okS (mS σ)) : vc_X3_clash σ (fun r => r = (clashV (mS σ))) := by
  obtain ⟨n, hn, en⟩ := okS_nh h
  unfold vc_X3_clash
  intro T2 T14 h2 h14
  have key : ∀ d a, a + d = n → clashFrom (mS σ) n d a = clashV (mS σ) → T2 (nI a) := by
    intro d
    induction d with
    | zero =>
      intro a ha e
      obtain rfl : a = n := by omega
      exact h2 _ ⟨fun _ => e, fun c => absurd (le_nI en) c⟩
    | succ d ih =>
      intro a ha e
      rw [clashFrom] at e
      refine h2 _ ⟨fun c => absurd c (nle_nI en (by omega) (by omega)), fun _ => ?_⟩
      rw [nI_1]
      refine first_loop (n := n - (a + 1)) (fun b => !bothB (mS σ) (nI a) (nI b)) (fun j => T14 (nI a) (nI j)) (fun o => (match o with | some b => 100 * nI a + nI b | none => clashFrom (mS σ) n d (a + 1)) = clashV (mS σ)) (a + 1) (fun q => ?_) (fun j j1 j2 h1 h0 => ?_) e
      · refine h14 _ _ ⟨fun _ => ?_, fun c => absurd (by rw [en]; exact nI_le (by omega) (by omega)) c⟩
        rw [nI_1]; exact ih (a + 1) (by omega) q
      · refine h14 _ _ ⟨fun c => absurd c (nle_nI en (by omega) (by omega)), fun _ => ⟨⟨h, ⟨nI_pos' (by omega), by rw [en]; exact nI_lt (by omega) (by omega)⟩, ⟨nI_pos' (by omega), by rw [en]; exact nI_lt (by omega) (by omega)⟩⟩, ?_⟩⟩
        rw [nI_1]
        exact ⟨fun d => h1 (by simp [b2i_ne.mp d]), fun d => h0 (by simp [b2i_z.mp d])⟩
  exact key n 0 (by omega) (by unfold clashV; rw [en, nI_clamp (by omega)])
set_option maxRecDepth 20000 in
set_option maxHeartbeats 2000000 in
theorem v_X3_trueOf (σ : KM) (p0 : Int32) (h : okS (mS σ)) : vc_X3_trueOf σ p0 (fun r u => (r = (rsX (whyW (mS σ) p0) (trueOfV (mS σ) p0)) ∧ u = (((mS σ), (mT σ), (mK σ), (mF σ), (mRow σ), (mRowMany σ), (mLots σ), (rfX (mRefused σ) (whyW (mS σ) p0)))))) := by
  have n1 : ((-1) : Int32) < 0 ∧ -6 ≤ ((-1) : Int32) := by decide
  have n2 : ((-2) : Int32) < 0 ∧ -6 ≤ ((-2) : Int32) := by decide
  have n3 : ((-3) : Int32) < 0 ∧ -6 ≤ ((-3) : Int32) := by decide
  have n6 : ((-6) : Int32) < 0 ∧ -6 ≤ ((-6) : Int32) := by decide
  obtain ⟨n, hn, en⟩ := okS_nh h
  unfold vc_X3_trueOf
  intro T hT
  refine ⟨fun c => ?_, fun c => ⟨n1, rsX_n (by unfold whyW; rw [if_pos c]) (by decide), by rw [rfX_n (c := -1) (by unfold whyW; rw [if_pos c]) (by decide)]⟩⟩
  have hy : whyW (mS σ) p0 = 0 := by unfold whyW; rw [if_neg c]
  refine cnt_up (n := n) (fun k => decide (sWhom (mS σ) k = p0) && decide (trueAt (mS σ) (nI k) (sCase (mS σ)) = 1)) (fun j a => T a (nI j) (mRefused σ)) ?_ (fun j hj a ih => ?_)
  · refine hT _ _ _ ⟨fun _ => ⟨?_, by rw [rfX_0 hy]⟩, fun c => absurd (le_nI en) c⟩
    rw [← rsX_0 hy, trueOfV, en, nI_clamp (by omega)]
  · refine hT _ _ _ ⟨fun c => absurd c (nle_nI en (by omega) hj), fun _ => ⟨vin (by omega), ?_⟩⟩
    rw [nI_clamp (by omega), nI_1]
    exact ⟨fun e => by simpa [e, add0] using ih, fun e => ⟨⟨h, nI_pos' (by omega), by rw [en]; exact nI_lt hj (by omega)⟩, fun d => by simpa [d, add0] using ih, fun d => by simpa [e, d, add1] using ih⟩⟩
set_option maxRecDepth 20000 in
set_option maxHeartbeats 2000000 in
theorem v_X3_talker (σ : KM) (h : okS (mS σ)) : vc_X3_talker σ (fun r => r = (talkerV (mS σ))) := by
  obtain ⟨n, hn, en⟩ := okS_nw h
  obtain ⟨nh, hnh, enh⟩ := okS_nh h
  unfold vc_X3_talker
  intro T7 T21 h7 h21
  refine fold_up (n := n) (fun w (b : Int32 × Int32) => if talkN (mS σ) (nI w) ≤ b.2 then b else (nI w, talkN (mS σ) (nI w))) ((-9, 0) : Int32 × Int32) (fun j b => T7 b.1 b.2 (nI j)) ?_ (fun w hw b ih => ?_)
  · refine h7 _ _ _ ⟨fun _ => ?_, fun c => absurd (le_nI en) c⟩
    rw [talkerV, en, nI_clamp (by omega)]
  · refine h7 _ _ _ ⟨fun c => absurd c (nle_nI en (by omega) hw), fun _ => ?_⟩
    refine cnt_up (n := nh) (fun k => decide (sWhom (mS σ) k = nI w) && !decide (sSaid (mS σ) k = 2)) (fun j a => T21 b.1 b.2 (nI w) a (nI j)) ?_ (fun j hj a ih2 => ?_)
    · refine h21 _ _ _ _ _ ⟨fun _ => ?_, fun c => absurd (le_nI enh) c⟩
      rw [nI_1]
      rw [talkN, enh, nI_clamp (by omega)] at ih
      exact ⟨fun d => by rw [if_neg (Int32.not_le.mpr d)] at ih; exact ih, fun d => by rw [if_pos (Int32.not_lt.mp d)] at ih; exact ih⟩
    · refine h21 _ _ _ _ _ ⟨fun c => absurd c (nle_nI enh (by omega) hj), fun _ => ⟨vin (by omega), ?_⟩⟩
      have hv : vp_in (nI j) 12 := vin (by omega)
      rw [nI_clamp (by omega), nI_1]
      exact ⟨fun e => by simpa [e, add0] using ih2, fun e => ⟨hv, fun d => by simpa [d, add0] using ih2, fun d => by simpa [e, d, add1] using ih2⟩⟩
set_option maxRecDepth 20000 in
set_option maxHeartbeats 2000000 in
theorem v_X3_betrays (σ : KM) (p0 : Int32) (h : okS (mS σ)) : vc_X3_betrays σ p0 (fun r u => (r = (rsX (whyPlace (mS σ) p0) (betraysV (mS σ) p0)) ∧ u = (((mS σ), (mT σ), (mK σ), (mF σ), (mRow σ), (mRowMany σ), (mLots σ), (rfX (mRefused σ) (whyPlace (mS σ) p0)))))) := by
  have n1 : ((-1) : Int32) < 0 ∧ -6 ≤ ((-1) : Int32) := by decide
  have n2 : ((-2) : Int32) < 0 ∧ -6 ≤ ((-2) : Int32) := by decide
  have n3 : ((-3) : Int32) < 0 ∧ -6 ≤ ((-3) : Int32) := by decide
  have n6 : ((-6) : Int32) < 0 ∧ -6 ≤ ((-6) : Int32) := by decide
  obtain ⟨n, hn, en⟩ := okS_nq h
  unfold vc_X3_betrays
  intro T hT
  have bad : (p0 < 0 ∨ sNh (mS σ) ≤ p0) → whyPlace (mS σ) p0 = -1 := fun c => by unfold whyPlace; rw [if_pos c]
  refine ⟨fun c => ⟨n1, rsX_n (bad (Or.inl c)) (by decide), by rw [rfX_n (bad (Or.inl c)) (by decide)]⟩, fun c => ⟨fun d => ?_, fun d => ⟨n1, rsX_n (bad (Or.inr (Int32.not_lt.mp d))) (by decide), by rw [rfX_n (bad (Or.inr (Int32.not_lt.mp d))) (by decide)]⟩⟩⟩
  obtain ⟨a0, a1, a2, -⟩ := okS_h h (Int32.not_lt.mp c) d
  have hy : whyPlace (mS σ) p0 = 0 := by unfold whyPlace; rw [if_neg]; rintro (q | q); exact c q; exact absurd d (Int32.not_lt.mpr q)
  refine cnt_up (n := n) (fun q => hitB (mS σ) (nI q) (sCase (mS σ)) p0.toNatClampNeg) (fun j a => T a (nI j) (mRefused σ)) ?_ (fun j hj a ih => ?_)
  · refine hT _ _ _ ⟨fun _ => ⟨?_, by rw [rfX_0 hy]⟩, fun c => absurd (le_nI en) c⟩
    rw [← rsX_0 hy, betraysV, en, nI_clamp (by omega)]
  · refine hT _ _ _ ⟨fun c => absurd c (nle_nI en (by omega) hj), fun _ => ⟨a0, a0, ⟨h, a1, inQ_nI en hn hj⟩, a0, ?_⟩⟩
    rw [nI_1]
    exact ⟨fun e => by simpa [hitB, e, add0] using ih, fun e => by simpa [hitB, e, add1] using ih⟩
set_option maxRecDepth 20000 in
set_option maxHeartbeats 2000000 in
theorem v_X3_divisor (p0 : Int64) (p1 : Int64) (h : 0 ≤ p0 ∧ 0 ≤ p1) : vc_X3_divisor p0 p1 (fun r => r = (gcdL p0 p1)) := by
  obtain ⟨a, ha, rfl⟩ := pk_lOf (Int64.not_lt.mpr h.1)
  obtain ⟨b, hb, rfl⟩ := pk_lOf (Int64.not_lt.mpr h.2)
  unfold vc_X3_divisor
  intro T hT
  rw [gcdL_lN ha hb] at hT
  have key : ∀ (d y x : Nat), y ≤ d → y < 2 ^ 63 → x < 2 ^ 63 → Nat.gcd x y = Nat.gcd a b → T (lN x) (lN y) := by
    intro d
    induction d with
    | zero =>
      intro y x hy h1 h2 e
      obtain rfl : y = 0 := by omega
      refine hT _ _ ⟨fun _ => by rw [← e, Nat.gcd_zero_right], fun c => absurd ((cmp_z _ _).mpr rfl) c⟩
    | succ d ih =>
      intro y x hy h1 h2 e
      refine hT _ _ ⟨fun c => ?_, fun c => ?_⟩
      · have hz : y = 0 := (lN_z h1).mp ((cmp_z _ _).mp c)
        subst hz
        rw [← e, Nat.gcd_zero_right]
      · have hz : ¬ lN y = 0 := fun q => c ((cmp_z _ _).mpr q)
        have hy0 : 0 < y := Nat.pos_of_ne_zero (fun q => hz ((lN_z h1).mpr q))
        refine ⟨hz, ?_⟩
        rw [pk_lRem h2 hy0 h1]
        have hm := Nat.mod_lt x hy0
        exact ih (x % y) y (by omega) (by omega) h1 (by rw [← e, Nat.gcd_comm x y, Nat.gcd_rec y x, Nat.gcd_comm])
  exact key b b a (Nat.le_refl _) hb ha rfl
set_option maxRecDepth 20000 in
set_option maxHeartbeats 2000000 in
theorem v_X3_partOf (p0 : Int64) (p1 : Int64) (p2 : Int32) (h : 0 ≤ p0 ∧ 0 ≤ p1) : vc_X3_partOf p0 p1 p2 (fun r => r = (partOfV p0 p1 p2)) := by
  obtain ⟨a, ha, rfl⟩ := pk_lOf (Int64.not_lt.mpr h.1)
  obtain ⟨b, hb, rfl⟩ := pk_lOf (Int64.not_lt.mpr h.2)
  unfold vc_X3_partOf partOfV
  simp only [cmp_z]
  refine ⟨fun c => ?_, fun c => by rw [if_pos c]⟩
  have hb0 : 0 < b := Nat.pos_of_ne_zero (fun q => c ((lN_z hb).mpr q))
  have hg : ¬ gcdL (lN a) (lN b) = 0 := by
    rw [gcdL_lN ha hb, lN_z (Nat.lt_of_le_of_lt (Nat.gcd_le_right a hb0) hb)]
    exact Nat.ne_of_gt (Nat.gcd_pos_of_pos_right a hb0)
  rw [if_neg c]
  exact ⟨fun d => ⟨h, hg, by rw [if_neg d]⟩, fun d => ⟨h, hg, by rw [if_pos d]⟩⟩
set_option maxRecDepth 20000 in
set_option maxHeartbeats 2000000 in
theorem v_X3_verdict (σ : KM) (p0 : Int32) (p1 : Int32) (h : okS (mS σ)) : vc_X3_verdict σ p0 p1 (fun r u => ∃ (ex_F : KF), (r = (rsL (whyVerdict p0 p1) (verdictV (fitM (mS σ) 1 (fFit (mF σ))) p0 p1)) ∧ u = (((mS σ), (mT σ), (mK σ), (ex_F), (mRow σ), (mRowMany σ), (mLots σ), (rfX (mRefused σ) (whyVerdict p0 p1)))))) := by
  have n1 : ((-1) : Int32) < 0 ∧ -6 ≤ ((-1) : Int32) := by decide
  have n2 : ((-2) : Int32) < 0 ∧ -6 ≤ ((-2) : Int32) := by decide
  have n3 : ((-3) : Int32) < 0 ∧ -6 ≤ ((-3) : Int32) := by decide
  have n6 : ((-6) : Int32) < 0 ∧ -6 ≤ ((-6) : Int32) := by decide
  unfold vc_X3_verdict
  intro T hT
  refine ⟨fun c => ⟨fun d => ?_, fun d => ⟨n2, mF σ, rsL_n (by unfold whyVerdict why01; rw [if_neg c, if_pos d]) (by decide), by rw [rfX_n (c := -2) (by unfold whyVerdict why01; rw [if_neg c, if_pos d]) (by decide)]⟩⟩, fun c => ⟨n1, mF σ, rsL_n (by unfold whyVerdict; rw [if_pos c]) (by decide), by rw [rfX_n (c := -1) (by unfold whyVerdict; rw [if_pos c]) (by decide)]⟩⟩
  have hy : whyVerdict p0 p1 = 0 := by unfold whyVerdict why01; rw [if_neg c, if_neg d]
  refine ⟨⟨h, Or.inr rfl⟩, ?_⟩
  refine sumL_up (n := 64) (fun k => if fitM (mS σ) 1 (fFit (mF σ)) k = 1 ∧ hasB (nI k) p0 = true then 1 else 0) (fun j a => T a (nI j) (fitM (mS σ) 1 (fFit (mF σ))) (mRefused σ)) ?_ (fun j hj a ih => ?_)
  · refine hT _ _ _ _ ⟨fun _ => ⟨⟨?_, fitM_long _ _ _⟩, _, rsL_0 hy, by rw [rfX_0 hy]⟩, fun c => absurd (by decide) c⟩
    obtain ⟨m, hm, e⟩ := sumL_lN (f := fun k => if fitM (mS σ) 1 (fFit (mF σ)) k = 1 ∧ hasB (nI k) p0 = true then 1 else 0) (B := 1) 64 (by decide) (fun k _ => by
      by_cases q : fitM (mS σ) 1 (fFit (mF σ)) k = 1 ∧ hasB (nI k) p0 = true
      · exact ⟨1, by omega, by rw [if_pos q]; rfl⟩
      · exact ⟨0, by omega, by rw [if_neg q]; rfl⟩)
    rw [e]; exact lN_nn (by omega)
  · refine hT _ _ _ _ ⟨fun c => absurd c (nle_nI (N := 64) (n := 64) (by decide) (by decide) hj), fun _ => ⟨vin hj, ?_⟩⟩
    rw [nI_clamp (by omega), nI_1]
    exact ⟨fun e => by simpa [e] using ih, fun e => ⟨fun q => by simpa [e, b2i_z.mp q] using ih, fun q => by simpa [e, b2i_ne.mp q] using ih⟩⟩
set_option maxRecDepth 20000 in
set_option maxHeartbeats 2000000 in
theorem v_X3_mean (σ : KM) (p0 : Int32) (h : okS (mS σ)) : vc_X3_mean σ p0 (fun r u => ∃ (ex_F : KF), (r = (rsL (why01 p0) (meanV (fitM (mS σ) 0 (fFit (mF σ))) p0)) ∧ u = (((mS σ), (mT σ), (mK σ), (ex_F), (mRow σ), (mRowMany σ), (mLots σ), (rfX (mRefused σ) (why01 p0)))))) := by
  have n1 : ((-1) : Int32) < 0 ∧ -6 ≤ ((-1) : Int32) := by decide
  have n2 : ((-2) : Int32) < 0 ∧ -6 ≤ ((-2) : Int32) := by decide
  have n3 : ((-3) : Int32) < 0 ∧ -6 ≤ ((-3) : Int32) := by decide
  have n6 : ((-6) : Int32) < 0 ∧ -6 ≤ ((-6) : Int32) := by decide
  unfold vc_X3_mean
  intro T hT
  refine ⟨fun d => ?_, fun d => ⟨n2, mF σ, rsL_n (by unfold why01; rw [if_pos d]) (by decide), by rw [rfX_n (c := -2) (by unfold why01; rw [if_pos d]) (by decide)]⟩⟩
  have hy : why01 p0 = 0 := by unfold why01; rw [if_neg d]
  refine ⟨⟨h, Or.inl rfl⟩, ?_⟩
  refine sumL_up (n := 64) (fun k => if fitM (mS σ) 0 (fFit (mF σ)) k = 1 then (bitsI (nI k)).toInt64 else 0) (fun j a => T a (nI j) (fitM (mS σ) 0 (fFit (mF σ))) (mRefused σ)) ?_ (fun j hj a ih => ?_)
  · refine hT _ _ _ _ ⟨fun _ => ⟨⟨?_, fitM_long _ _ _⟩, _, rsL_0 hy, by rw [rfX_0 hy]⟩, fun c => absurd (by decide) c⟩
    obtain ⟨m, hm, e⟩ := sumL_lN (f := fun k => if fitM (mS σ) 0 (fFit (mF σ)) k = 1 then (bitsI (nI k)).toInt64 else 0) (B := 31) 64 (by decide) (fun k _ => by
      by_cases q : fitM (mS σ) 0 (fFit (mF σ)) k = 1
      · rw [if_pos q]
        obtain ⟨m, h1, h2⟩ := bits_nat (nI k)
        exact ⟨m, h1, by rw [h2, nI_l (by omega)]⟩
      · exact ⟨0, by omega, by rw [if_neg q]; rfl⟩)
    rw [e]; exact lN_nn (by omega)
  · refine hT _ _ _ _ ⟨fun c => absurd c (nle_nI (N := 64) (n := 64) (by decide) (by decide) hj), fun _ => ⟨vin hj, ?_⟩⟩
    rw [nI_clamp (by omega), nI_1]
    exact ⟨fun e => by simpa [e] using ih, fun e => by simpa [e] using ih⟩
set_option maxRecDepth 20000 in
set_option maxHeartbeats 2000000 in
theorem v_X3_isHidden (σ : KM) (p0 : Int32) (h : okS (mS σ) ∧ inQ (mS σ) p0) : vc_X3_isHidden σ p0 (fun r => r = (b2i (hiddenB (mS σ) p0))) := by
  obtain ⟨n, hn, en⟩ := okS_nw h.1
  unfold vc_X3_isHidden
  intro T hT
  refine all_loop (n := n) (fun w => decide (ansI (mS σ) (nI w) p0 (sCase (mS σ)) (sAsked (mS σ) + 1) = 2)) (fun j => T (nI j)) (fun b => (if b then (1 : Int32) else 0) = b2i (hiddenB (mS σ) p0)) (fun q => ?_) (fun j hj h1 h0 => ?_) ?_
  · exact hT _ ⟨fun _ => q, fun c => absurd (le_nI en) c⟩
  · refine hT _ ⟨fun c => absurd c (nle_nI en (by omega) hj), fun _ => ⟨⟨h.1, inW_nI en hn hj, h.2⟩, fun c => ?_, fun c => h0 (by simp [c])⟩⟩
    rw [nI_1]; exact h1 (by simp [c])
  · rw [hiddenB, en, nI_clamp (by omega)]; rfl
set_option maxRecDepth 20000 in
set_option maxHeartbeats 2000000 in
theorem v_X3_hidden (σ : KM) (h : okS (mS σ)) : vc_X3_hidden σ (fun r => r = (hiddenV (mS σ))) := by
  obtain ⟨n, hn, en⟩ := okS_nq h
  unfold vc_X3_hidden
  intro T hT
  refine set_up (n := n) (fun q => hiddenB (mS σ) (nI q)) (fun j a => T a (nI j)) ?_ (fun j hj a ih => ?_)
  · refine hT _ _ ⟨fun _ => ?_, fun c => absurd (le_nI en) c⟩
    rw [hiddenV, en, nI_clamp (by omega)]
  · refine hT _ _ ⟨fun c => absurd c (nle_nI en (by omega) hj), fun _ => ⟨⟨h, inQ_nI en hn hj⟩, ?_⟩⟩
    rw [nI_1]
    exact ⟨fun d => by simpa [b2i_z.mp d] using ih, fun d => by simpa [b2i_ne.mp d] using ih⟩
set_option maxRecDepth 20000 in
set_option maxHeartbeats 2000000 in
theorem v_X3_areSame (σ : KM) (p0 : Int32) (p1 : Int32) (h : vp_in p0 8 ∧ vp_in p1 8) : vc_X3_areSame σ p0 p1 (fun r => r = (b2i (sameB (mS σ) p0 p1))) := by
  unfold vc_X3_areSame
  intro T hT
  refine all_loop (n := 64) (fun k => soB (mS σ) p0 (nI k) == soB (mS σ) p1 (nI k)) (fun j => T (nI j)) (fun b => (if b then (1 : Int32) else 0) = b2i (sameB (mS σ) p0 p1)) (fun q => ?_) (fun j hj h1 h0 => ?_) rfl
  · exact hT _ ⟨fun _ => q, fun c => absurd (by decide) c⟩
  · have hb : ∀ a b : Bool, b2i a = b2i b ↔ a = b := by decide
    refine hT _ ⟨fun c => absurd c (nle_nI (N := 64) (n := 64) (by decide) (by decide) hj), fun _ => ⟨h.1, h.2, ?_⟩⟩
    rw [nI_1, hb]
    exact ⟨fun c => h1 (by simp [c]), fun c => h0 (by simpa using c)⟩
set_option maxRecDepth 20000 in
set_option maxHeartbeats 2000000 in
theorem v_X3_same (σ : KM) (p0 : Int32) (h : okS (mS σ)) : vc_X3_same σ p0 (fun r u => (r = (rsX (why01 p0) (sameV (mS σ) p0)) ∧ u = (((mS σ), (mT σ), (mK σ), (mF σ), (mRow σ), (mRowMany σ), (mLots σ), (rfX (mRefused σ) (why01 p0)))))) := by
  have n1 : ((-1) : Int32) < 0 ∧ -6 ≤ ((-1) : Int32) := by decide
  have n2 : ((-2) : Int32) < 0 ∧ -6 ≤ ((-2) : Int32) := by decide
  have n3 : ((-3) : Int32) < 0 ∧ -6 ≤ ((-3) : Int32) := by decide
  have n6 : ((-6) : Int32) < 0 ∧ -6 ≤ ((-6) : Int32) := by decide
  obtain ⟨n, hn, en⟩ := okS_nq h
  unfold vc_X3_same
  intro T29 T42 h29 h42
  refine ⟨fun c => ?_, fun c => ⟨n2, rsX_n (by unfold why01; rw [if_pos c]) (by decide), by rw [rfX_n (c := -2) (by unfold why01; rw [if_pos c]) (by decide)]⟩⟩
  have hy : why01 p0 = 0 := by unfold why01; rw [if_neg c]
  simp only [rfX_0 hy, ← rsX_0 hy] at h29 h42 ⊢
  have hV : sameV (mS σ) p0 = if p0 = 0 then (sameFrom (mS σ) n n (0, -9)).1 else (sameFrom (mS σ) n n (0, -9)).2 := by unfold sameV; rw [en, nI_clamp (by omega)]
  have inner : ∀ (a : Nat), a < n → ∀ (d b : Nat) (acc : Int32 × Int32), b = a + d → b < n → T29 (sameRow (mS σ) a d b acc).1 (sameRow (mS σ) a d b acc).2 (nI a - 1) (mRefused σ) → T42 acc.1 acc.2 (nI a) (nI b) (mRefused σ) := by
    intro a ha d
    induction d with
    | zero =>
      intro b acc hb hbn hT
      obtain rfl : b = a := by omega
      refine h42 _ _ _ _ _ ⟨fun _ => ?_, fun c => absurd (Int32.le_refl _) c⟩
      rw [← Int32.sub_eq_add_neg]; exact hT
    | succ d ih =>
      intro b acc hb hbn hT
      obtain ⟨b', rfl⟩ : ∃ b', b = b' + 1 := ⟨b - 1, by omega⟩
      refine h42 _ _ _ _ _ ⟨fun c => absurd c (nI_ge (by omega) (by omega)), fun _ => ⟨⟨vin (by omega), vin (by omega)⟩, ?_⟩⟩
      rw [pk_m1]
      rw [sameRow, Nat.add_sub_cancel] at hT
      refine ⟨fun e => ?_, fun e => ?_⟩
      · rw [if_pos (b2i_ne.mp e)] at hT
        exact ih b' (acc.1 + 1, 10 * nI a + nI (b' + 1)) (by omega) (by omega) hT
      · rw [if_neg (by rw [b2i_z.mp e]; decide)] at hT
        exact ih b' acc (by omega) (by omega) hT
  have key : ∀ (a : Nat) (acc : Int32 × Int32), a ≤ n → sameFrom (mS σ) n a acc = sameFrom (mS σ) n n (0, -9) → T29 acc.1 acc.2 (nI a - 1) (mRefused σ) := by
    intro a
    induction a with
    | zero =>
      intro acc _ e
      refine h29 _ _ _ _ ⟨fun _ => ?_, fun c => absurd (by decide) c⟩
      rw [sameFrom] at e
      rw [hV, ← e]
      exact ⟨fun d => ⟨by rw [if_neg d], rfl⟩, fun d => ⟨by rw [if_pos d], rfl⟩⟩
    | succ a ih =>
      intro acc ha e
      rw [sameFrom] at e
      rw [nI_pred]
      refine h29 _ _ _ _ ⟨fun c => absurd c (nI_pos (by omega)), fun _ => ?_⟩
      have e1 : sNq (mS σ) - 1 = nI (n - 1) := by rw [en, show (1 : Int32) = nI 1 from rfl, pk_sub (by omega)]
      rw [e1]
      exact inner a (by omega) (n - 1 - a) (n - 1) acc (by omega) (by omega) (ih _ (by omega) e)
  rw [en]
  exact key n (0, -9) (Nat.le_refl _) rfl
set_option maxRecDepth 20000 in
set_option maxHeartbeats 2000000 in
theorem v_X3_implies (σ : KM) (p0 : Int32) (p1 : Int32) (h : okS (mS σ)) : vc_X3_implies σ p0 p1 (fun r u => ∃ (ex_F : KF), (r = (rsX (whyImplies (mS σ) p0 p1) (impliesV (mS σ) (fitM (mS σ) 0 (fFit (mF σ))) p0 p1)) ∧ u = (((mS σ), (mT σ), (mK σ), (ex_F), (mRow σ), (mRowMany σ), (mLots σ), (rfX (mRefused σ) (whyImplies (mS σ) p0 p1)))))) := by
  have n1 : ((-1) : Int32) < 0 ∧ -6 ≤ ((-1) : Int32) := by decide
  have n2 : ((-2) : Int32) < 0 ∧ -6 ≤ ((-2) : Int32) := by decide
  have n3 : ((-3) : Int32) < 0 ∧ -6 ≤ ((-3) : Int32) := by decide
  have n6 : ((-6) : Int32) < 0 ∧ -6 ≤ ((-6) : Int32) := by decide
  unfold vc_X3_implies
  intro T hT
  have b1 : (isQuestionI (mS σ) p0 = 0 ∨ isQuestionI (mS σ) p1 = 0) → whyImplies (mS σ) p0 p1 = -1 := fun c => by unfold whyImplies; rw [if_pos c]
  refine ⟨fun c => ⟨n1, mF σ, rsX_n (b1 (Or.inl c)) (by decide), by rw [rfX_n (b1 (Or.inl c)) (by decide)]⟩, fun c => ⟨fun d => ⟨⟨h, Or.inl rfl⟩, ?_⟩, fun d => ⟨n1, mF σ, rsX_n (b1 (Or.inr d)) (by decide), by rw [rfX_n (b1 (Or.inr d)) (by decide)]⟩⟩⟩
  have hy : whyImplies (mS σ) p0 p1 = 0 := by unfold whyImplies; rw [if_neg]; rintro (q | q); exact c q; exact d q
  have v0 := inQ_vin h (isQ_in c)
  have v1 := inQ_vin h (isQ_in d)
  refine all_loop (n := 64) (fun k => !(decide (fitM (mS σ) 0 (fFit (mF σ)) k = 1) && soB (mS σ) p0 (nI k) && !soB (mS σ) p1 (nI k))) (fun j => T (nI j) (fitM (mS σ) 0 (fFit (mF σ))) (mRefused σ)) (fun b => (if b then (1 : Int32) else 0) = impliesV (mS σ) (fitM (mS σ) 0 (fFit (mF σ))) p0 p1) (fun q => ?_) (fun j hj h1 h0 => ?_) rfl
  · exact hT _ _ _ ⟨fun _ => ⟨_, q.trans (rsX_0 hy), by rw [rfX_0 hy]⟩, fun c => absurd (by decide) c⟩
  · refine hT _ _ _ ⟨fun c => absurd c (nle_nI (N := 64) (n := 64) (by decide) (by decide) hj), fun _ => ⟨vin hj, ?_⟩⟩
    rw [nI_clamp (by omega), nI_1]
    exact ⟨fun e => h1 (by simp [e]), fun e => ⟨v0, fun q => h1 (by simp [b2i_z.mp q]), fun q => ⟨v1, fun r => h1 (by simp [b2i_ne.mp r]), fun r => ⟨_, (h0 (by simp [e, b2i_ne.mp q, b2i_z.mp r])).trans (rsX_0 hy), by rw [rfX_0 hy]⟩⟩⟩⟩
set_option maxRecDepth 20000 in
set_option maxHeartbeats 2000000 in
theorem v_X3_two (σ : KM) (p0 : Int32) (p1 : Int32) (p2 : Int32) (h : okS (mS σ)) : vc_X3_two σ p0 p1 p2 (fun r u => ∃ (ex_F : KF), (r = (rsX (whyTwo (mS σ) p0 p1 p2) (twoV (mS σ) (fitM (mS σ) 0 (fFit (mF σ))) p0 p1 p2)) ∧ u = (((mS σ), (mT σ), (mK σ), (ex_F), (mRow σ), (mRowMany σ), (mLots σ), (rfX (mRefused σ) (whyTwo (mS σ) p0 p1 p2)))))) := by
  have n1 : ((-1) : Int32) < 0 ∧ -6 ≤ ((-1) : Int32) := by decide
  have n2 : ((-2) : Int32) < 0 ∧ -6 ≤ ((-2) : Int32) := by decide
  have n3 : ((-3) : Int32) < 0 ∧ -6 ≤ ((-3) : Int32) := by decide
  have n6 : ((-6) : Int32) < 0 ∧ -6 ≤ ((-6) : Int32) := by decide
  obtain ⟨q, hq, eq⟩ := okS_nq h
  unfold vc_X3_two
  intro T38 T115 h38 h115
  have b1 : (isWitnessI (mS σ) p0 = 0 ∨ isQuestionI (mS σ) p1 = 0 ∨ isQuestionI (mS σ) p2 = 0) → whyTwo (mS σ) p0 p1 p2 = -1 := fun c => by unfold whyTwo; rw [if_pos c]
  refine ⟨fun c => ⟨n1, mF σ, rsX_n (b1 (Or.inl c)) (by decide), by rw [rfX_n (b1 (Or.inl c)) (by decide)]⟩, fun c => ⟨fun d => ⟨n1, mF σ, rsX_n (b1 (Or.inr (Or.inl d))) (by decide), by rw [rfX_n (b1 (Or.inr (Or.inl d))) (by decide)]⟩, fun d => ⟨fun e => ⟨⟨h, Or.inl rfl⟩, ?_⟩, fun e => ⟨n1, mF σ, rsX_n (b1 (Or.inr (Or.inr e))) (by decide), by rw [rfX_n (b1 (Or.inr (Or.inr e))) (by decide)]⟩⟩⟩⟩
  have hy : whyTwo (mS σ) p0 p1 p2 = 0 := by unfold whyTwo; rw [if_neg]; rintro (z | z | z); exact c z; exact d z; exact e z
  simp only [rfX_0 hy, ← rsX_0 hy] at h115
  have hW := isW_in c
  obtain ⟨a, n', ha, hn', rfl, en'⟩ := inQ_nat h (isQ_in d)
  obtain ⟨b, n'', hb, hn'', rfl, en''⟩ := inQ_nat h (isQ_in e)
  have hqn : n' = q := (nI_eq (by omega) (by omega)).mp (en'.symm.trans eq)
  have hqn2 : n'' = q := (nI_eq (by omega) (by omega)).mp (en''.symm.trans eq)
  subst hqn hqn2
  have hqp : 0 < n'' := by omega
  have hz : ¬ sNq (mS σ) = 0 := by rw [eq]; exact nI_ne0 hqp (by omega)
  have rem_in : ∀ m : Nat, m < 100 → inQ (mS σ) (nI m - nI m / sNq (mS σ) * sNq (mS σ)) := fun m hm => by
    rw [eq, pk_rem (by omega) hqp (by omega)]
    exact inQ_nI eq hq (Nat.mod_lt _ hqp)
  have two0 : ∀ k : Nat, k < 4 → nI k / 2 = nI (k / 2) ∧ nI k - nI k / 2 * 2 = nI (k % 2) := fun k hk => ⟨pk_div (d := 2) (by omega) (by decide) (by decide), pk_rem (d := 2) (by omega) (by decide) (by decide)⟩
  have start : ∀ s : FI, (∀ k, k < 4 → s k = leftTwo (mS σ) (fitM (mS σ) 0 (fFit (mF σ))) p0 (nI a) (nI b) k) → ∀ left, T115 0 (fitM (mS σ) 0 (fFit (mF σ))) left s (mRefused σ) := by
    intro s hs left
    refine first_loop (n := 4) (fun k => decide (leftTwo (mS σ) (fitM (mS σ) 0 (fFit (mF σ))) p0 (nI a) (nI b) (k ^^^ 2) ≤ leftTwo (mS σ) (fitM (mS σ) 0 (fFit (mF σ))) p0 (nI a) (nI b) k) && decide (leftTwo (mS σ) (fitM (mS σ) 0 (fFit (mF σ))) p0 (nI a) (nI b) k ≤ leftTwo (mS σ) (fitM (mS σ) 0 (fFit (mF σ))) p0 (nI a) (nI b) (k ^^^ 1))) (fun j => T115 (nI j) (fitM (mS σ) 0 (fFit (mF σ))) left s (mRefused σ)) (fun o => (match o with | some k => 10 * (nI k / 2) + remI (nI k) 2 | none => (-9 : Int32)) = twoV (mS σ) (fitM (mS σ) 0 (fFit (mF σ))) p0 (nI a) (nI b)) 0 (fun g => ?_) (fun j _ hj g1 g0 => ?_) rfl
    · exact h115 _ _ _ _ _ ⟨fun _ => ⟨_, g, rfl⟩, fun c => absurd (by decide) c⟩
    · have hx : ∀ k : Nat, k < 4 → (nI k ^^^ 2) = nI (k ^^^ 2) ∧ (nI k ^^^ 1) = nI (k ^^^ 1) ∧ k ^^^ 2 < 4 ∧ k ^^^ 1 < 4 := by decide
      obtain ⟨x1, x2, x3, x4⟩ := hx j (by omega)
      refine h115 _ _ _ _ _ ⟨fun c => absurd c (nle_nI (N := 4) (n := 4) (by decide) (by decide) (by omega)), fun _ => ?_⟩
      rw [x1, x2, nI_clamp (by omega), nI_clamp (by omega), nI_clamp (by omega), hs _ (by omega), hs _ x3, hs _ x4, nI_1]
      refine ⟨vin x3, vin (by omega), fun r => g1 (by simp [Int32.not_le.mpr r]), fun r => ⟨vin x4, vin (by omega), fun t => g1 (by simp [Int32.not_le.mpr t]), fun t => ⟨_, g0 (by simp [Int32.not_lt.mp r, Int32.not_lt.mp t]), rfl⟩⟩⟩
  refine tab_loop (n := 4) (leftTwo (mS σ) (fitM (mS σ) 0 (fFit (mF σ))) p0 (nI a) (nI b)) (fLeftBy (mF σ)) (fun j s => ∀ left, T38 (nI j) (fitM (mS σ) 0 (fFit (mF σ))) left s (mRefused σ)) (fun left => ?_) (fun j hj s _ ih left => ?_) _
  · refine h38 _ _ _ _ _ ⟨fun _ => start _ (fun k hk => ?_) _, fun c => absurd (by decide) c⟩
    unfold tab; rw [if_pos hk]
  · refine h38 _ _ _ _ _ ⟨fun c => absurd c (nle_nI (N := 4) (n := 4) (by decide) (by decide) hj), fun _ => ?_⟩
    obtain ⟨t1, t2⟩ := two0 j hj
    have e1 : ∀ left : FI, sumN (leftAsk (mS σ) p0 (nI b + (nI j - nI j / 2 * 2) - (nI b + (nI j - nI j / 2 * 2)) / sNq (mS σ) * sNq (mS σ)) (sAsked (mS σ) + 2) (leftAsk (mS σ) p0 (nI a + nI j / 2 - (nI a + nI j / 2) / sNq (mS σ) * sNq (mS σ)) (sAsked (mS σ) + 1) (tab 64 (fitM (mS σ) 0 (fFit (mF σ))) left))) 64 = leftTwo (mS σ) (fitM (mS σ) 0 (fFit (mF σ))) p0 (nI a) (nI b) j := fun left => sumN_congr (leftAsk_congr (leftAsk_congr tab_congr))
    rw [e1, nI_clamp (by omega), nI_1]
    have j2 : j / 2 < 50 := by omega
    have j3 : j % 2 < 50 := by omega
    refine ⟨hz, ⟨h, hW, ?_⟩, hz, ⟨h, hW, ?_⟩, vin hj, ih _⟩
    · rw [t1, nI_add]; exact rem_in _ (by omega)
    · rw [t2, nI_add]; exact rem_in _ (by omega)
set_option maxRecDepth 20000 in
set_option maxHeartbeats 2000000 in
theorem v_X3_drawn (σ : KM) (p0 : Int32) (p1 : Int32) (p2 : Int32) (p3 : Int32) (h : okS (mS σ)) : vc_X3_drawn σ p0 p1 p2 p3 (fun r u => ∃ (ex_F : KF), (r = (rsL (whyDrawn (mS σ) p0 p1 p2 p3) (drawnV (mS σ) (fitM (mS σ) 0 (fFit (mF σ))) p0 p1.toNatClampNeg p2 p3)) ∧ u = (((mS σ), (mT σ), (mK σ), (ex_F), (mRow σ), (mRowMany σ), (mLots σ), (rfX (mRefused σ) (whyDrawn (mS σ) p0 p1 p2 p3)))))) := by
  have n1 : ((-1) : Int32) < 0 ∧ -6 ≤ ((-1) : Int32) := by decide
  have n2 : ((-2) : Int32) < 0 ∧ -6 ≤ ((-2) : Int32) := by decide
  have n3 : ((-3) : Int32) < 0 ∧ -6 ≤ ((-3) : Int32) := by decide
  have n6 : ((-6) : Int32) < 0 ∧ -6 ≤ ((-6) : Int32) := by decide
  obtain ⟨q, hq, eq⟩ := okS_nq h
  unfold vc_X3_drawn
  intro T hT
  have main : whyDrawn (mS σ) p0 p1 p2 p3 = 0 → ¬ isWitnessI (mS σ) p0 = 0 → boundI p1 0 4 = 0 → ¬ sNq (mS σ) = 0 → T 0 0 (fitM (mS σ) 0 (fFit (mF σ))) (fLeft (mF σ)) (mRefused σ) := by
    intro hy hw hb hz
    obtain ⟨n, hn, rfl⟩ := nI_up (M := 4) (n := 4) (by decide) (bound_0 hb)
    have hqp : 0 < q := Nat.pos_of_ne_zero (fun z => hz (by rw [eq, z]; rfl))
    have hpw := pow_le (q := q) (m := n) hq hn
    have epw : powI (sNq (mS σ)) n = nI (q ^ n) := by rw [eq, pow_nI]
    simp only [rfX_0 hy, ← rsL_0 hy] at hT
    refine sumL_up (n := q ^ n) (fun c => if settledB (mS σ) (fitM (mS σ) 0 (fFit (mF σ))) p0 p2 (nI c) n then 1 else 0) (fun j a => ∀ left, T a (nI j) (fitM (mS σ) 0 (fFit (mF σ))) left (mRefused σ)) (fun left => ?_) (fun j hj a ih left => ?_) _
    · refine hT _ _ _ _ _ ⟨bound_0 hb, fun _ => ⟨bound_0 hb, ⟨?_, ?_⟩, _, ?_, rfl⟩, fun c => absurd (by rw [nI_clamp (by omega), epw]; exact Int32.le_refl _) c⟩
      · obtain ⟨m, hm, e⟩ := sumL_lN (f := fun c => if settledB (mS σ) (fitM (mS σ) 0 (fFit (mF σ))) p0 p2 (nI c) n then 1 else 0) (B := 1) (q ^ n) (by omega) (fun k _ => by
          by_cases z : settledB (mS σ) (fitM (mS σ) 0 (fFit (mF σ))) p0 p2 (nI k) n = true
          · exact ⟨1, by omega, by rw [if_pos z]; rfl⟩
          · exact ⟨0, by omega, by rw [if_neg z]; rfl⟩)
        rw [e]; exact lN_nn (by omega)
      · rw [nI_clamp (by omega), epw, nI_l (by omega)]; exact lN_nn (by omega)
      · unfold drawnV
        rw [nI_clamp (show n < 2 ^ 31 by omega), epw, nI_clamp (show q ^ n < 2 ^ 31 by omega)]
    · refine hT _ _ _ _ _ ⟨bound_0 hb, fun c => absurd c (by rw [nI_clamp (by omega), epw]; exact nI_ge hj (by omega)), fun _ => ⟨⟨h, isW_in hw, by rw [eq]; exact nI_lt (a := 0) hqp (by omega), nI_pos' (by omega), nI_le (b := 4096) (by omega) (by decide), (bound_0 hb).1, (bound_0 hb).2⟩, fun lf => ?_⟩⟩
      rw [nI_clamp (show n < 2 ^ 31 by omega), nI_1]
      exact ⟨fun r => by simpa [b2i_z.mp r] using ih lf, fun r => by simpa [b2i_ne.mp r] using ih lf⟩
  have rr : ∀ c : Int32, whyDrawn (mS σ) p0 p1 p2 p3 = c → ¬ c = 0 → ∃ ex_F : KF, 4000000000000000000 - c.toInt64 = rsL (whyDrawn (mS σ) p0 p1 p2 p3) (drawnV (mS σ) (fitM (mS σ) 0 (fFit (mF σ))) p0 p1.toNatClampNeg p2 p3) ∧ (mS σ, mT σ, mK σ, mF σ, mRow σ, mRowMany σ, mLots σ, refuX (mRefused σ) c) = (mS σ, mT σ, mK σ, ex_F, mRow σ, mRowMany σ, mLots σ, rfX (mRefused σ) (whyDrawn (mS σ) p0 p1 p2 p3)) := fun c hc h0 => ⟨mF σ, rsL_n hc h0, by rw [rfX_n hc h0]⟩
  have w1 : (isWitnessI (mS σ) p0 = 0 ∨ isFactI p2 = 0) → whyDrawn (mS σ) p0 p1 p2 p3 = -1 := fun c => by unfold whyDrawn; rw [if_pos c]
  refine ⟨fun c => ⟨n1, rr _ (w1 (Or.inl c)) (by decide)⟩, fun c => ⟨fun d => ?_, fun d => ⟨n1, rr _ (w1 (Or.inr d)) (by decide)⟩⟩⟩
  have hno : ¬ (isWitnessI (mS σ) p0 = 0 ∨ isFactI p2 = 0) := by rintro (z | z); exact c z; exact d z
  refine ⟨fun e => ⟨fun e2 => absurd e2 e, fun _ => ⟨bound_neg e, rr _ (by unfold whyDrawn; rw [if_neg hno, if_neg e]) e⟩⟩, fun e => ⟨fun f => ⟨fun g => ⟨⟨h, Or.inl rfl⟩, main (by unfold whyDrawn; rw [if_neg hno, if_pos e, if_neg f, if_neg g]) c e g⟩, fun g => ⟨n3, rr _ (by unfold whyDrawn; rw [if_neg hno, if_pos e, if_neg f, if_pos g]) (by decide)⟩⟩, fun f => ⟨n2, rr _ (by unfold whyDrawn; rw [if_neg hno, if_pos e, if_pos f]) (by decide)⟩⟩⟩
set_option maxRecDepth 20000 in
set_option maxHeartbeats 2000000 in
theorem v_X3_isRowSo (σ : KM) (p0 : Int32) (h : okS (mS σ) ∧ inW (mS σ) p0 ∧ 0 ≤ mRowMany σ ∧ mRowMany σ ≤ 12 ∧ mRowMany σ ≤ sNq (mS σ)) : vc_X3_isRowSo σ p0 (fun r => r = (b2i (rowB (mS σ) (mRow σ) (mRowMany σ) p0))) := by
  obtain ⟨hS, hW, r0, r12, rq⟩ := h
  obtain ⟨n, hn, en⟩ := nI_up (M := 12) (n := 12) (by decide) ⟨r0, r12⟩
  unfold vc_X3_isRowSo
  intro T hT
  refine all_loop (n := n) (fun q => decide (ansI (mS σ) p0 (nI q) (sCase (mS σ)) (sAsked (mS σ) + 1) = mRow σ q)) (fun j => T (nI j)) (fun b => (if b then (1 : Int32) else 0) = b2i (rowB (mS σ) (mRow σ) (mRowMany σ) p0)) (fun q => ?_) (fun j hj h1 h0 => ?_) ?_
  · exact hT _ ⟨fun _ => q, fun c => absurd (le_nI en) c⟩
  · have hlt : nI j < mRowMany σ := by rw [en]; exact nI_lt hj (by omega)
    refine hT _ ⟨fun c => absurd c (nle_nI en (by omega) hj), fun _ => ⟨⟨hS, hW, nI_pos' (by omega), Int32.lt_of_lt_of_le hlt rq⟩, vin (by omega), ?_⟩⟩
    rw [nI_clamp (by omega), nI_1]
    exact ⟨fun c => h1 (by simp [c]), fun c => h0 (by simp [c])⟩
  · rw [rowB, en, nI_clamp (by omega)]; rfl
set_option maxRecDepth 20000 in
set_option maxHeartbeats 2000000 in
theorem v_X3_kindsOf (σ : KM) (p0 : Int32) (h : okS (mS σ) ∧ inW (mS σ) p0 ∧ 0 ≤ mRowMany σ ∧ mRowMany σ ≤ 12 ∧ mRowMany σ ≤ sNq (mS σ)) : vc_X3_kindsOf σ p0 (fun r u => (r = (kindsV (mS σ) (mRow σ) (mRowMany σ) p0) ∧ u = (σ))) := by
  obtain ⟨hS, hW, r0, r12, rq⟩ := h
  have hv := inW_vin hS hW
  unfold vc_X3_kindsOf
  intro T hT
  refine ⟨hv, ?_⟩
  refine set_up (n := 6) (fun v => rowB (sSetKind (mS σ) (upd (sKind (mS σ)) p0.toNatClampNeg (nI v))) (mRow σ) (mRowMany σ) p0) (fun j a => ∀ s : FI, (∀ v, upd s p0.toNatClampNeg v = upd (sKind (mS σ)) p0.toNatClampNeg v) → T (sKind (mS σ) p0.toNatClampNeg) a (nI j) s) ?_ (fun j hj a ih => ?_) _ (fun _ => rfl)
  · intro s hs
    refine hT _ _ _ _ ⟨fun _ => ⟨hv, ?_, ?_⟩, fun c => absurd (by decide) c⟩
    · rfl
    · rw [hs, upd_self]
  · intro s hs
    refine hT _ _ _ _ ⟨fun c => absurd c (nle_nI (N := 6) (n := 6) (by decide) (by decide) hj), fun _ => ⟨hv, ?_⟩⟩
    rw [hs, nI_1]
    have hk := okS_kind hS hW (v := nI j) ⟨nI_pos' (by omega), nI_le (b := 5) (by omega) (by decide)⟩
    have hi := ih (upd (sKind (mS σ)) p0.toNatClampNeg (nI j)) (fun v => upd_upd _ _ _ _)
    refine ⟨⟨hk, hW, r0, r12, rq⟩, fun d => ?_, fun d => ?_⟩
    · have d2 : rowB (sSetKind (mS σ) (upd (sKind (mS σ)) p0.toNatClampNeg (nI j))) (mRow σ) (mRowMany σ) p0 = false := b2i_z.mp d
      simpa [d2] using hi
    · have d2 : rowB (sSetKind (mS σ) (upd (sKind (mS σ)) p0.toNatClampNeg (nI j))) (mRow σ) (mRowMany σ) p0 = true := b2i_ne.mp d
      simpa [d2] using hi
set_option maxRecDepth 20000 in
set_option maxHeartbeats 2000000 in
theorem v_X3_whatIs (σ : KM) (p0 : Int32) (p1 : Int32) (h : okS (mS σ) ∧ 0 ≤ mRowMany σ ∧ mRowMany σ ≤ 12) : vc_X3_whatIs σ p0 p1 (fun r u => (r = (rsX (whyWhatIs (mS σ) (mRowMany σ) p0 p1) (if p1 = 0 then kindsV (mS σ) (mRow σ) (mRowMany σ) p0 else knownV (mS σ) (mRow σ) (mRowMany σ) p0)) ∧ u = (((mS σ), (mT σ), (mK σ), (mF σ), (mRow σ), (mRowMany σ), (mLots σ), (rfX (mRefused σ) (whyWhatIs (mS σ) (mRowMany σ) p0 p1)))))) := by
  have n1 : ((-1) : Int32) < 0 ∧ -6 ≤ ((-1) : Int32) := by decide
  have n2 : ((-2) : Int32) < 0 ∧ -6 ≤ ((-2) : Int32) := by decide
  have n3 : ((-3) : Int32) < 0 ∧ -6 ≤ ((-3) : Int32) := by decide
  have n6 : ((-6) : Int32) < 0 ∧ -6 ≤ ((-6) : Int32) := by decide
  obtain ⟨hS, r0, r12⟩ := h
  unfold vc_X3_whatIs
  intro T hT
  refine ⟨fun c => ⟨fun d => ⟨fun e => ?_, fun e => ⟨n3, rsX_n (by unfold whyWhatIs; rw [if_neg c, if_neg d, if_pos (Int32.not_le.mp e)]) (by decide), by rw [rfX_n (c := -3) (by unfold whyWhatIs; rw [if_neg c, if_neg d, if_pos (Int32.not_le.mp e)]) (by decide)]⟩⟩, fun d => ⟨n2, rsX_n (by unfold whyWhatIs; rw [if_neg c, if_pos d]) (by decide), by rw [rfX_n (c := -2) (by unfold whyWhatIs; rw [if_neg c, if_pos d]) (by decide)]⟩⟩, fun c => ⟨n1, rsX_n (by unfold whyWhatIs; rw [if_pos c]) (by decide), by rw [rfX_n (c := -1) (by unfold whyWhatIs; rw [if_pos c]) (by decide)]⟩⟩
  have hy : whyWhatIs (mS σ) (mRowMany σ) p0 p1 = 0 := by unfold whyWhatIs; rw [if_neg c, if_neg d, if_neg (Int32.not_lt.mpr e)]
  have hW := isW_in c
  have hv := inW_vin hS hW
  refine ⟨fun q => ⟨hv, ?_⟩, fun q => ⟨⟨hS, hW, r0, r12, e⟩, ?_, by rw [rfX_0 hy]⟩⟩
  · refine cnt_up (n := 64) (fun v => rowB (sSetKnows (mS σ) (upd (sKnows (mS σ)) p0.toNatClampNeg (nI v))) (mRow σ) (mRowMany σ) p0) (fun j a => ∀ s : FI, (∀ v, upd s p0.toNatClampNeg v = upd (sKnows (mS σ)) p0.toNatClampNeg v) → T (sKnows (mS σ) p0.toNatClampNeg) a (nI j) (sKind (mS σ)) s (mRefused σ)) ?_ (fun j hj a ih => ?_) _ (fun _ => rfl)
    · intro s hs
      refine hT _ _ _ _ _ _ ⟨fun _ => ⟨hv, ?_, ?_⟩, fun c => absurd (by decide) c⟩
      · rw [← rsX_0 hy, if_neg q]; rfl
      · rw [hs, upd_self, rfX_0 hy]
    · intro s hs
      refine hT _ _ _ _ _ _ ⟨fun c => absurd c (nle_nI (N := 64) (n := 64) (by decide) (by decide) hj), fun _ => ⟨hv, ?_⟩⟩
      rw [hs, nI_1]
      have hk := okS_knows hS (w := p0) (v := nI j) ⟨nI_pos' (by omega), nI_le (b := 63) (by omega) (by decide)⟩
      have hi := ih (upd (sKnows (mS σ)) p0.toNatClampNeg (nI j)) (fun v => upd_upd _ _ _ _)
      refine ⟨⟨hk, hW, r0, r12, e⟩, fun d => ?_, fun d => ?_⟩
      · have d2 : rowB (sSetKnows (mS σ) (upd (sKnows (mS σ)) p0.toNatClampNeg (nI j))) (mRow σ) (mRowMany σ) p0 = false := b2i_z.mp d
        simpa [d2, add0] using hi
      · have d2 : rowB (sSetKnows (mS σ) (upd (sKnows (mS σ)) p0.toNatClampNeg (nI j))) (mRow σ) (mRowMany σ) p0 = true := b2i_ne.mp d
        simpa [d2, add1] using hi
  · rw [← rsX_0 hy, if_pos q]
set_option maxRecDepth 20000 in
set_option maxHeartbeats 2000000 in
theorem v_X3_row (σ : KM) (p0 : Int32) (h : 0 ≤ mRowMany σ ∧ mRowMany σ ≤ 12) : vc_X3_row σ p0 (fun r u => (r = (rsX (whyRow (mRowMany σ) p0) (mRowMany σ + 1)) ∧ u = (((mS σ), (mT σ), (mK σ), (mF σ), (if whyRow (mRowMany σ) p0 = 0 then upd (mRow σ) (mRowMany σ).toNatClampNeg p0 else mRow σ), (if whyRow (mRowMany σ) p0 = 0 then mRowMany σ + 1 else mRowMany σ), (mLots σ), (rfX (mRefused σ) (whyRow (mRowMany σ) p0)))))) := by
  have n1 : ((-1) : Int32) < 0 ∧ -6 ≤ ((-1) : Int32) := by decide
  have n2 : ((-2) : Int32) < 0 ∧ -6 ≤ ((-2) : Int32) := by decide
  have n3 : ((-3) : Int32) < 0 ∧ -6 ≤ ((-3) : Int32) := by decide
  have n6 : ((-6) : Int32) < 0 ∧ -6 ≤ ((-6) : Int32) := by decide
  have hb := @bound_neg p0 0 99
  have hv : ¬ mRowMany σ = 12 → vp_in (mRowMany σ) 12 := fun c => vin_lt (N := 12) (by decide) h.1 (Int32.lt_of_le_of_ne h.2 c)
  unfold vc_X3_row whyRow rsX rfX; grind
set_option maxRecDepth 20000 in
set_option maxHeartbeats 2000000 in
theorem v_X3_judge (σ : KM) (h : okS (mS σ) ∧ 0 ≤ mRowMany σ ∧ mRowMany σ ≤ 12) : vc_X3_judge σ (fun r u => (r = (judgeV (mS σ) (mRow σ) (mRowMany σ)) ∧ u = (((mS σ), (mT σ), (mK σ), (mF σ), (mRow σ), (0), (mLots σ), (mRefused σ))))) := by
  obtain ⟨hS, r0, r12⟩ := h
  obtain ⟨n, hn, en⟩ := nI_up (M := 12) (n := 12) (by decide) ⟨r0, r12⟩
  unfold vc_X3_judge
  intro T hT
  refine first_loop (n := n) (fun k => decide (sNh (mS σ) ≤ nI k) || !decide (sSaid (mS σ) k = mRow σ k)) (fun j => T (mRowMany σ) (nI j) 0) (fun o => (match o with | some k => nI k | none => (-9 : Int32)) = judgeV (mS σ) (mRow σ) (mRowMany σ)) 0 (fun q => ?_) (fun j _ hj h1 h0 => ?_) ?_
  · refine hT _ _ _ ⟨fun _ => ⟨q, rfl⟩, fun c => absurd (by rw [Nat.zero_add]; exact le_nI en) c⟩
  · refine hT _ _ _ ⟨fun c => absurd c (nle_nI en (by omega) (by omega)), fun _ => ⟨fun c => ⟨h0 (by simp [c]), rfl⟩, fun c => ?_⟩⟩
    have hv : vp_in (nI j) 12 := vin (by omega)
    rw [nI_clamp (by omega), nI_1]
    exact ⟨hv, hv, fun d => h1 (by simp [c, d]), fun d => ⟨h0 (by simp [d]), rfl⟩⟩
  · rw [judgeV, en, nI_clamp (by omega)]; rfl
set_option maxRecDepth 20000 in
set_option maxHeartbeats 2000000 in
theorem v_X3_clear (σ : KM) : vc_X3_clear σ (fun r u => (r = (mRowMany σ) ∧ u = (((mS σ), (mT σ), (mK σ), (mF σ), (mRow σ), (0), (mLots σ), (mRefused σ))))) := by
  unfold vc_X3_clear; exact ⟨rfl, rfl⟩
set_option maxRecDepth 20000 in
set_option maxHeartbeats 2000000 in
theorem v_X3_draw (σ : KM) (p0 : Int32) (h : 0 < p0) : vc_X3_draw σ p0 (fun r u => (r = (drawV (mLots σ) p0) ∧ u = (((mS σ), (mT σ), (mK σ), (mF σ), (mRow σ), (mRowMany σ), (drawZ (mLots σ)), (mRefused σ))))) := by
  unfold vc_X3_draw
  have h0 : ¬ p0 = 0 := fun c => by rw [c] at h; exact absurd h (by decide)
  intro z1 e1 z2 e2 z3 e3
  unfold drawV remI drawZ
  subst e1 e2 e3
  exact ⟨h0, rfl, rfl⟩
set_option maxRecDepth 20000 in
set_option maxHeartbeats 2000000 in
theorem v_X3_count (σ : KM) (p0 : Int32) (h : okS (mS σ)) : vc_X3_count σ p0 (fun r => r = (countV (mS σ) (mRefused σ) (mRowMany σ) (tTaped (mT σ)) p0)) := by
  obtain ⟨n, hn, en⟩ := okS_nq h
  unfold vc_X3_count
  intro T hT
  have h5 : T 0 0 → True := fun _ => trivial
  have hs : (p0 = 5 ∧ isInM p0 11 16 = 0) → T 0 0 := by
    rintro ⟨e5, e1⟩
    refine set_up (n := n) (fun q => soB (mS σ) (nI q) (sCase (mS σ))) (fun j a => T a (nI j)) ?_ (fun j hj a ih => ?_)
    · refine hT _ _ ⟨fun _ => ?_, fun c => absurd (le_nI en) c⟩
      subst e5
      show _ = countV _ _ _ _ 5
      unfold countV
      rw [if_pos (by decide), soSetV, en, nI_clamp (by omega)]
      rfl
    · refine hT _ _ ⟨fun c => absurd c (nle_nI en (by omega) hj), fun _ => ⟨vin (by omega), ?_⟩⟩
      rw [nI_1]
      exact ⟨fun d => by simpa [b2i_z.mp d] using ih, fun d => by simpa [b2i_ne.mp d] using ih⟩
  have hi : ¬ isInM p0 11 16 = 0 → vp_in (p0 - 10) 7 := fun c => sub10_vin (isInM_ne c)
  clear hT h en h5
  unfold countV
  grind (splits := 30)
