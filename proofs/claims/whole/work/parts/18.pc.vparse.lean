theorem lotsN_s (x : SS) (n : Nat) (a : Int32 × Int32 × Int32) : lotsN x (n + 1) a = ((sessionN (sNw x) (sNq x) 6 ((lotsN x n a).1, (lotsN x n a).2.1, x)).1, (sessionN (sNw x) (sNq x) 6 ((lotsN x n a).1, (lotsN x n a).2.1, x)).2.1, (lotsN x n a).2.2 + sumN (fitOf (sessionN (sNw x) (sNq x) 6 ((lotsN x n a).1, (lotsN x n a).2.1, x)).2.2 0) 64) := by rw [lotsN]
set_option maxRecDepth 20000 in
set_option maxHeartbeats 2000000 in
theorem v_X3_image (σ : KM) : vc_X3_image σ (fun r u => (r = (sAsked (mS σ)) ∧ u = (((mS σ), (mT σ), ((saveS (kKept (mK σ)) 0 (mS σ), 1, 1, 92)), (mF σ), (mRow σ), (mRowMany σ), (mLots σ), (mRefused σ))))) := by
  have e0 : (92 : Int32) * 0 = 0 := by decide
  have e1 : (0 : Int32) + 92 = 92 := by decide
  have i10 : ¬ (1 : Int32) = 0 := by decide
  unfold vc_X3_image
  rw [e0, e1, if_neg i10, if_neg i10]
  exact ⟨⟨Or.inl rfl, Or.inr rfl⟩, rfl, rfl⟩
set_option maxRecDepth 20000 in
set_option maxHeartbeats 2000000 in
theorem v_X3_on (σ : KM) : vc_X3_on σ (fun r u => (r = (rsX (if kHas (mK σ) = 0 then -3 else 0) (sAsked (loadS (kKept (mK σ)) 0 (mS σ)))) ∧ u = (((if kHas (mK σ) = 0 then mS σ else loadS (kKept (mK σ)) 0 (mS σ)), (mT σ), ((kKept (mK σ)), (kHas (mK σ)), (if kHas (mK σ) = 0 then kKeep (mK σ) else 0), (if kHas (mK σ) = 0 then kCur (mK σ) else 92)), (mF σ), (mRow σ), (mRowMany σ), (mLots σ), (rfX (mRefused σ) (if kHas (mK σ) = 0 then -3 else 0)))))) := by
  have e0 : (92 : Int32) * 0 = 0 := by decide
  have e1 : (0 : Int32) + 92 = 92 := by decide
  unfold vc_X3_on
  rw [e0, e1]
  refine ⟨fun c => ⟨⟨Or.inl rfl, Or.inl rfl⟩, ?_⟩, fun c => ⟨by decide, ?_⟩⟩
  · simp only [if_neg c]; exact ⟨rfl, rfl⟩
  · simp only [if_pos c]; exact ⟨rfl, rfl⟩
set_option maxRecDepth 20000 in
set_option maxHeartbeats 2000000 in
theorem v_X3_court (σ : KM) (h : okS (mS σ) ∧ zS (mS σ) ∧ sAsked (mS σ) ≤ 999 ∧ 0 ≤ tTaped (mT σ) ∧ tTaped (mT σ) ≤ 96) : vc_X3_court σ (fun r u => ∃ (ex_l : FI) (ex_la : FI) (ex_to : FI) (ex_at : Int32) (ex_st : Int32) (ex_kept : FI) (ex_keep : Int32) (ex_cur : Int32), (r = (courtV (mT σ) (mS σ)) ∧ u = (((courtS (mT σ) (mS σ)), ((tTape (mT σ), ex_l, ex_la, ex_to, 0, ex_at, ex_st)), ((mixK (kKept (mK σ)) ex_kept, kHas (mK σ), ex_keep, ex_cur)), (mF σ), (mRow σ), (mRowMany σ), (mLots σ), (mRefused σ))))) := by
  obtain ⟨hS, hZ, h9, hT0, hT1⟩ := h
  have hG : goodS (mS σ) := ⟨hS, hZ, h9⟩
  obtain ⟨len, hl, hz'⟩ := taped_nat ⟨hT0, hT1⟩
  obtain ⟨z, ez⟩ : ∃ z : KZ, z = (tTaped (mT σ), tTape (mT σ)) := ⟨_, rfl⟩
  have hz : zLen z = nI len := by rw [ez]; exact hz'
  have hL : LinkT z (mT σ) := by rw [ez]; exact ⟨rfl, rfl⟩
  have htape : ∀ u, LinkT z u → tTape u = tTape (mT σ) := fun u k => k.1.trans hL.1.symm
  obtain ⟨hLc, hC⟩ := courtT_eq hz hl hL
  have e92 : (92 : Int32) * 1 = nI 92 := by decide
  have i10 : ¬ (1 : Int32) = 0 := by decide
  unfold vc_X3_court
  intro T12 T86 h12 h86
  -- all read: they come
  have come : (courtT (mT σ)).1 = true → T86 0 (saveS (kKept (mK σ)) (nI 92) (mS σ), kHas (mK σ), 1, nI 92 + 92) (mS σ) (tTape (courtT (mT σ)).2, tLetter (courtT (mT σ)).2, tLetterAt (courtT (mT σ)).2, tTold (courtT (mT σ)).2, 0, tAt (courtT (mT σ)).2, tStm (courtT (mT σ)).2) := by
    intro hb
    obtain ⟨m, hm, em, epl, hJ⟩ : ∃ m, m ≤ 48 ∧ tStm (courtT (mT σ)).2 = nI m ∧ pl z m = len ∧ JT z (courtT (mT σ)).2 m := by
      rcases hC with q | q
      · rw [q.1] at hb; cases hb
      · exact q.2.2
    have hcm : (tStm (courtT (mT σ)).2).toNatClampNeg = m := by rw [em, nI_clamp (by omega)]
    have key : ∀ (d k : Nat) (x : SS), k + d = m → goodS x → comesN (courtT (mT σ)).2 d k x = comesN (courtT (mT σ)).2 m 0 (mS σ) → T86 (nI k) (saveS (kKept (mK σ)) (nI 92) (mS σ), kHas (mK σ), 1, nI 92 + 92) x (tTape (courtT (mT σ)).2, tLetter (courtT (mT σ)).2, tLetterAt (courtT (mT σ)).2, tTold (courtT (mT σ)).2, 0, tAt (courtT (mT σ)).2, tStm (courtT (mT σ)).2) := by
      intro d
      induction d with
      | zero =>
        intro k x hk hx he
        refine h86 _ _ _ _ ⟨fun _ => ?_, fun c => absurd (show tStm (courtT (mT σ)).2 ≤ nI k by rw [em, show k = m by omega]; exact Int32.le_refl _) c⟩
        refine ⟨tLetter (courtT (mT σ)).2, tLetterAt (courtT (mT σ)).2, tTold (courtT (mT σ)).2, tAt (courtT (mT σ)).2, tStm (courtT (mT σ)).2, saveS (kKept (mK σ)) (nI 92) (mS σ), 1, nI 92 + 92, ?_, ?_⟩
        · unfold courtV
          simp only [hb, hcm, ← he]
          rfl
        · unfold courtS
          simp only [hb, hcm, ← he]
          rw [mix_save (mix_self _) (by decide) (by decide), ← htape _ hLc]; rfl
      | succ d ih =>
        intro k x hk hx he
        have hlt : k < m := by omega
        have hke : (nI k).toNatClampNeg = k := nI_clamp (by omega)
        obtain ⟨j1, j2, j3, j4, j5⟩ := hJ k hlt
        have c0 : (3 * nI k).toNatClampNeg = 3 * k := by rw [three_n, nI_clamp (by omega)]
        have c1 : (3 * nI k + 1).toNatClampNeg = 3 * k + 1 := by rw [three_n]; exact cl_1 (by omega)
        have c2 : (3 * nI k + 2).toNatClampNeg = 3 * k + 2 := by rw [three_n]; exact cl_2 (by omega)
        have hg := comes_good hx (t := (courtT (mT σ)).2) (nI k) (by rw [hke, c0, c1, c2, j4]; exact told_R j5)
        rw [comesN] at he
        refine h86 _ _ _ _ ⟨fun c => absurd c (by show ¬ tStm (courtT (mT σ)).2 ≤ nI k; rw [em]; exact nI_ge hlt (by omega)), fun _ => ⟨⟨hx.1, hx.lt, nI_pos' (by omega), nI_lt (b := 48) (by omega) (by decide)⟩, fun c => ?_, fun c => ?_⟩⟩
        · have c' : (comesI (courtT (mT σ)).2 x (nI k)).1 = 0 := c
          simp only [c', if_true] at he
          refine ⟨⟨Or.inr (Or.inl rfl), Or.inl rfl⟩, vin (by omega), ?_⟩
          refine ⟨tLetter (courtT (mT σ)).2, tLetterAt (courtT (mT σ)).2, tTold (courtT (mT σ)).2, tAt (courtT (mT σ)).2, tStm (courtT (mT σ)).2, saveS (kKept (mK σ)) (nI 92) (mS σ), 0, 92 * 1 + 92, ?_, ?_⟩
          · unfold courtV
            simp only [hb, hcm, ← he, hke]
            rfl
          · have hls := load_save (kKept (mK σ)) (C := 92) (by decide) hG.2.1 hg.2.1
            unfold courtS
            simp only [hb, hcm, ← he]
            rw [mix_save (mix_self _) (by decide) (by decide), e92, ← htape _ hLc]
            show (loadS (saveS (kKept (mK σ)) (nI 92) (mS σ)) (nI 92) (comesI (courtT (mT σ)).2 x (nI k)).2, _) = _
            rw [hls]; rfl
        · have c' : ¬ (comesI (courtT (mT σ)).2 x (nI k)).1 = 0 := c
          simp only [c', if_false] at he
          rw [nI_1]
          exact ih (k + 1) _ (by omega) hg he
    exact key m 0 (mS σ) (by omega) hG rfl
  have bad : ∀ t : KT, courtT (mT σ) = (false, t) → T12 0 (mK σ) (mS σ) (tTape t, tLetter t, tLetterAt t, tTold t, tTaped t, tAt t, tStm t + 0) := by
    intro t et
    refine h12 _ _ _ _ ⟨fun _ => ⟨fun c => absurd rfl c, fun _ => ?_⟩, fun c => absurd rfl c⟩
    refine ⟨tLetter t, tLetterAt t, tTold t, tAt t, tStm t + 0, kKept (mK σ), kKeep (mK σ), kCur (mK σ), ?_, ?_⟩
    · unfold courtV; rw [et]; rfl
    · have ht : tTape t = tTape (mT σ) := by rw [et] at hLc; exact htape _ hLc
      unfold courtS; rw [et, mix_self, ← ht]; rfl
  have read : ∀ (n : Nat) (t : KT) (s : Nat), n + s = 49 → LinkT z t → tStm t = nI s → tAt t = nI (pl z s) → pl z s ≤ len → 2 * s ≤ pl z s → JT z t s → rdCourt n t = courtT (mT σ) → T12 1 (mK σ) (mS σ) t := by
    intro n
    induction n with
    | zero => intro t s hn _ _ _ _ _ _; omega
    | succ n ih =>
      intro t s hn hLt hs ha hp h2 hJ he
      have step : (tAt t < tTaped t ∨ tStm t = 0) → ((0 ≤ tAt t ∧ tAt t ≤ 96 ∧ tTaped t ≤ 96) ∧ vp_in (tStm t) 48) ∧ ((((stmT t).1) = 0) → (T12 ((stmT t).1) (mK σ) (mS σ) ((tTape ((stmT t).2)), (tLetter ((stmT t).2)), (tLetterAt ((stmT t).2)), (tTold ((stmT t).2)), (tTaped ((stmT t).2)), (tAt ((stmT t).2)), ((tStm ((stmT t).2)) + 0)))) ∧ ((¬ (((stmT t).1) = 0)) → (T12 ((stmT t).1) (mK σ) (mS σ) ((tTape ((stmT t).2)), (tLetter ((stmT t).2)), (tLetterAt ((stmT t).2)), (tTold ((stmT t).2)), (tTaped ((stmT t).2)), (tAt ((stmT t).2)), ((tStm ((stmT t).2)) + 1)))) := by
        intro hc
        obtain ⟨s48, hP, hLs, hr⟩ := stm_inv hz hl hLt hs ha hp h2 hJ hc
        rw [rdCourt, if_pos hc] at he
        refine ⟨⟨hP, by rw [hs]; exact vin s48⟩, fun c => ?_, fun c => ?_⟩
        · simp only [c, if_true] at he
          rw [c]
          exact bad _ he.symm
        · simp only [c, if_false] at he
          rcases hr with hr | ⟨g1, g2, g3, g4, g5, g6⟩
          · exact absurd hr c
          · rw [g1]
            exact ih _ (s + 1) (by omega) ⟨hLs.1, hLs.2⟩ (by show tStm (stmT t).2 + 1 = _; rw [g2, nI_1]) g3 g4 g5 g6 he
      refine h12 _ _ _ _ ⟨fun c => absurd c i10, fun _ => ⟨fun c => step (Or.inl c), fun c => ⟨fun c2 => ⟨fun _ => ⟨⟨Or.inr (Or.inl rfl), Or.inr rfl⟩, ?_⟩, fun c3 => absurd c3 i10⟩, fun c2 => step (Or.inr c2)⟩⟩⟩
      have hcond : ¬ (tAt t < tTaped t ∨ tStm t = 0) := fun q => q.elim c c2
      rw [rdCourt, if_neg hcond] at he
      rw [if_neg i10, if_neg i10, e92]
      have q1 : (courtT (mT σ)).1 = true := by rw [← he]
      have q2 : (courtT (mT σ)).2 = t := by rw [← he]
      have := come q1
      rw [q2] at this
      exact this
  exact read 49 _ 0 rfl ⟨hL.1, hL.2⟩ rfl rfl (Nat.zero_le _) (Nat.le_refl _) (fun k hk => absurd hk (by omega)) rfl
set_option maxRecDepth 20000 in
set_option maxHeartbeats 2000000 in
theorem v_X3_lots (σ : KM) (p0 : Int32) (p1 : Int32) (p2 : Int32) (h : okS (mS σ) ∧ zS (mS σ) ∧ sAsked (mS σ) ≤ 999) : vc_X3_lots σ p0 p1 p2 (fun r u => ∃ (ex_kept : FI) (ex_keep : Int32) (ex_cur : Int32) (ex_F : KF) (ex_lots : Int32), (r = (rsX (whyLots (mS σ) p0 p2) (lotsV (mS σ) p0 p1 p2)) ∧ u = (((mS σ), (mT σ), ((mixK (kKept (mK σ)) ex_kept, kHas (mK σ), ex_keep, ex_cur)), (ex_F), (mRow σ), (mRowMany σ), (ex_lots), (rfX (mRefused σ) (whyLots (mS σ) p0 p2)))))) := by
  have n1 : ((-1) : Int32) < 0 ∧ -6 ≤ ((-1) : Int32) := by decide
  have n2 : ((-2) : Int32) < 0 ∧ -6 ≤ ((-2) : Int32) := by decide
  have n3 : ((-3) : Int32) < 0 ∧ -6 ≤ ((-3) : Int32) := by decide
  have n6 : ((-6) : Int32) < 0 ∧ -6 ≤ ((-6) : Int32) := by decide
  obtain ⟨hS, hZ, h9⟩ := h
  obtain ⟨nq, hnq, enq⟩ := okS_nq hS
  obtain ⟨nw, hnw, enw⟩ := okS_nw hS
  have hb := @bound_neg p0 1 20
  have e184 : (92 : Int32) * 2 = nI 184 := by decide
  have i10 : ¬ (1 : Int32) = 0 := by decide
  unfold vc_X3_lots
  intro T76 T91 h76 h91
  have run : boundI p0 1 20 = 0 → ¬ isInM p2 0 1 = 0 → ¬ sNw (mS σ) = 0 → ¬ sNq (mS σ) = 0 → T76 0 0 0 (mS σ, mT σ, mK σ, mF σ, mRow σ, mRowMany σ, p1, mRefused σ) := by
    intro r1 r2 r3 r4
    have hwhy : whyLots (mS σ) p0 p2 = 0 := by
      unfold whyLots; rw [if_pos r1, if_neg r2, if_neg (fun q => q.elim r3 r4)]
    obtain ⟨m1, m20⟩ := bound_0 r1
    obtain ⟨n, hn, rfl⟩ := nI_up (M := 20) (n := 20) (by decide) ⟨Int32.le_trans (by decide) m1, m20⟩
    have hqp : 0 < nq := by
      rcases Nat.eq_zero_or_pos nq with q | q
      · exact absurd (by rw [enq, q]; rfl) r4
      · exact q
    have hwp : 0 < nw := by
      rcases Nat.eq_zero_or_pos nw with q | q
      · exact absurd (by rw [enw, q]; rfl) r3
      · exact q
    have q0 : 0 < sNq (mS σ) := by rw [enq]; exact nI_lt (a := 0) hqp (by omega)
    have w0 : 0 < sNw (mS σ) := by rw [enw]; exact nI_lt (a := 0) hwp (by omega)
    have hdw : ∀ z, ∃ d : Nat, d < nw ∧ drawV z (sNw (mS σ)) = nI d := fun z => by
      obtain ⟨d, hd, e⟩ := draw_nat (drawOnI z) hwp (by omega)
      exact ⟨d, hd, by rw [drawV_b w0, enw]; exact e⟩
    have hdq : ∀ z, ∃ d : Nat, d < nq ∧ drawV z (sNq (mS σ)) = nI d := fun z => by
      obtain ⟨d, hd, e⟩ := draw_nat (drawOnI z) hqp (by omega)
      exact ⟨d, hd, by rw [drawV_b q0, enq]; exact e⟩
    have inv : ∀ (k : Nat) (z y : Int32), k ≤ 6 → okS (sessionN (sNw (mS σ)) (sNq (mS σ)) k (z, y, mS σ)).2.2 ∧ zS (sessionN (sNw (mS σ)) (sNq (mS σ)) k (z, y, mS σ)).2.2 ∧ sNq (sessionN (sNw (mS σ)) (sNq (mS σ)) k (z, y, mS σ)).2.2 = sNq (mS σ) ∧ sNw (sessionN (sNw (mS σ)) (sNq (mS σ)) k (z, y, mS σ)).2.2 = sNw (mS σ) ∧ sAsked (sessionN (sNw (mS σ)) (sNq (mS σ)) k (z, y, mS σ)).2.2 = sAsked (mS σ) + nI k := by
      intro k
      induction k with
      | zero => intro z y _; exact ⟨hS, hZ, rfl, rfl, by show _ = _ + 0; simp [sessionN]⟩
      | succ k ih =>
        intro z y hk
        obtain ⟨a1, a2, a3, a4, a5⟩ := ih z y (by omega)
        obtain ⟨d1, hd1, e1⟩ := hdw (sessionN (sNw (mS σ)) (sNq (mS σ)) k (z, y, mS σ)).1
        obtain ⟨d2, hd2, e2⟩ := hdq (drawZ (sessionN (sNw (mS σ)) (sNq (mS σ)) k (z, y, mS σ)).1)
        have hw : inW (sessionN (sNw (mS σ)) (sNq (mS σ)) k (z, y, mS σ)).2.2 (drawV (sessionN (sNw (mS σ)) (sNq (mS σ)) k (z, y, mS σ)).1 (sNw (mS σ))) := by
          rw [e1]; exact inW_nI (a4.trans enw) hnw hd1
        have hq : inQ (sessionN (sNw (mS σ)) (sNq (mS σ)) k (z, y, mS σ)).2.2 (drawV (drawZ (sessionN (sNw (mS σ)) (sNq (mS σ)) k (z, y, mS σ)).1) (sNq (mS σ))) := by
          rw [e2]; exact inQ_nI (a3.trans enq) hnq hd2
        have ha : sAsked (sessionN (sNw (mS σ)) (sNq (mS σ)) k (z, y, mS σ)).2.2 < 5000 := by
          rw [a5]
          obtain ⟨x, hx, ex⟩ := le_of_nI (n := 999) hS.2.1.1 h9 (by decide)
          rw [ex, nI_add]; exact nI_lt (b := 5000) (by omega) (by decide)
        refine ⟨okS_ask a1 hw hq ha, zS_ask a1 a2 _ _, a3, a4, ?_⟩
        show sAsked (sessionN (sNw (mS σ)) (sNq (mS σ)) k (z, y, mS σ)).2.2 + 1 = _
        rw [a5, Int32.add_assoc, nI_1]
    refine upN n (fun i => ∀ (kk : FI) (ke cu : Int32) (F : KF), mixK (kKept (mK σ)) kk = kk → T76 (lotsN (mS σ) i (p1, 0, 0)).2.1 (lotsN (mS σ) i (p1, 0, 0)).2.2 (nI i) (mS σ, mT σ, (kk, kHas (mK σ), ke, cu), F, mRow σ, mRowMany σ, (lotsN (mS σ) i (p1, 0, 0)).1, mRefused σ)) ?_ (fun i hi ih => ?_) 0 (Nat.zero_le _) (kKept (mK σ)) (kKeep (mK σ)) (kCur (mK σ)) (mF σ) (mix_self _)
    · intro kk ke cu F hkk
      have fin2 : ∀ v : Int32, v = lotsV (mS σ) (nI n) p1 p2 → ∃ (ex_kept : FI) (ex_keep : Int32) (ex_cur : Int32) (ex_F : KF) (ex_lots : Int32), v = rsX (whyLots (mS σ) (nI n) p2) (lotsV (mS σ) (nI n) p1 p2) ∧ ((mS σ, mT σ, (kk, kHas (mK σ), ke, cu), F, mRow σ, mRowMany σ, (lotsN (mS σ) n (p1, 0, 0)).1, mRefused σ) : KM) = (mS σ, mT σ, (mixK (kKept (mK σ)) ex_kept, kHas (mK σ), ex_keep, ex_cur), ex_F, mRow σ, mRowMany σ, ex_lots, rfX (mRefused σ) (whyLots (mS σ) (nI n) p2)) := by
        intro v hv
        refine ⟨kk, ke, cu, F, (lotsN (mS σ) n (p1, 0, 0)).1, ?_, ?_⟩
        · rw [hv]; exact rsX_0 hwhy
        · rw [rfX_0 hwhy, hkk]
      refine h76 _ _ _ _ ⟨fun _ => ⟨fun c => fin2 _ ?_, fun c => fin2 _ ?_⟩, fun c => absurd (Int32.le_refl _) c⟩
      · unfold lotsV; rw [nI_clamp (show n < 2 ^ 31 by omega)]; simp only [if_neg c]
      · unfold lotsV; rw [nI_clamp (show n < 2 ^ 31 by omega)]; simp only [if_pos c]
    · intro kk ke cu F hkk
      refine h76 _ _ _ _ ⟨fun c => absurd c (nI_ge hi (by omega)), fun _ => ⟨⟨Or.inr (Or.inr rfl), Or.inr rfl⟩, ?_⟩⟩
      intro u eu
      rw [if_neg i10, if_neg i10, e184] at eu
      subst eu
      refine upN 6 (fun k => T91 (sessionN (sNw (mS σ)) (sNq (mS σ)) k ((lotsN (mS σ) i (p1, 0, 0)).1, (lotsN (mS σ) i (p1, 0, 0)).2.1, mS σ)).2.1 (lotsN (mS σ) i (p1, 0, 0)).2.2 (nI i) (nI k) ((sessionN (sNw (mS σ)) (sNq (mS σ)) k ((lotsN (mS σ) i (p1, 0, 0)).1, (lotsN (mS σ) i (p1, 0, 0)).2.1, mS σ)).2.2, mT σ, (saveS kk (nI 184) (mS σ), kHas (mK σ), 1, nI 184 + 92), F, mRow σ, mRowMany σ, (sessionN (sNw (mS σ)) (sNq (mS σ)) k ((lotsN (mS σ) i (p1, 0, 0)).1, (lotsN (mS σ) i (p1, 0, 0)).2.1, mS σ)).1, mRefused σ)) ?_ (fun k hk ih2 => ?_) 0 (Nat.zero_le _)
      · obtain ⟨a1, a2, -⟩ := inv 6 (lotsN (mS σ) i (p1, 0, 0)).1 (lotsN (mS σ) i (p1, 0, 0)).2.1 (by decide)
        have hnx := lotsN_s (mS σ) i (p1, 0, 0)
        have hL := ih
        rw [hnx] at hL
        clear hnx
        generalize sessionN (sNw (mS σ)) (sNq (mS σ)) 6 ((lotsN (mS σ) i (p1, 0, 0)).1, (lotsN (mS σ) i (p1, 0, 0)).2.1, mS σ) = B at a1 a2 hL ⊢
        refine h91 _ _ _ _ _ ⟨fun _ => ⟨⟨a1, Or.inl rfl⟩, ?_⟩, fun c => absurd (by decide) c⟩
        intro u eu; subst eu
        refine ⟨⟨Or.inr (Or.inr rfl), Or.inl rfl⟩, ?_⟩
        intro u eu
        rw [if_pos rfl, if_pos rfl, e184] at eu
        have hls := load_save kk (C := 184) (by decide) hZ a2
        have eu2 : u = (mS σ, mT σ, (saveS kk (nI 184) (mS σ), kHas (mK σ), 0, nI 184 + 92), (fitM B.2.2 0 (fFit F), fLeft F, fLeftBy F), mRow σ, mRowMany σ, B.1, mRefused σ) := by
          rw [eu]
          show (loadS (saveS kk (nI 184) (mS σ)) (nI 184) _, _) = _
          rw [hls]
        subst eu2
        have hsum : sumN (fitM B.2.2 0 (fFit F)) 64 = sumN (fitOf B.2.2 0) 64 := sumN_congr (fun k hk => by unfold fitM tab; rw [if_pos hk])
        have hm := mix_save hkk (C := 184) (by decide) (by decide) (mS σ)
        have hT := hL (saveS kk (nI 184) (mS σ)) 0 (nI 184 + 92) (fitM B.2.2 0 (fFit F), fLeft F, fLeftBy F) hm
        rw [← hsum] at hT
        rw [nI_1]
        exact hT
      · obtain ⟨a1, a2, a3, a4, a5⟩ := inv k (lotsN (mS σ) i (p1, 0, 0)).1 (lotsN (mS σ) i (p1, 0, 0)).2.1 (by omega)
        generalize hses : sessionN (sNw (mS σ)) (sNq (mS σ)) k ((lotsN (mS σ) i (p1, 0, 0)).1, (lotsN (mS σ) i (p1, 0, 0)).2.1, mS σ) = B at a1 a2 a3 a4 a5 ⊢
        have hw : inW B.2.2 (drawV B.1 (sNw B.2.2)) := by
          obtain ⟨d, hd, e⟩ := hdw B.1
          rw [a4, e]; exact inW_nI (a4.trans enw) hnw hd
        have hq : inQ B.2.2 (drawV (drawZ B.1) (sNq B.2.2)) := by
          obtain ⟨d, hd, e⟩ := hdq (drawZ B.1)
          rw [a3, e]; exact inQ_nI (a3.trans enq) hnq hd
        have ha : sAsked B.2.2 < 5000 := by
          rw [a5]
          obtain ⟨x, hx, ex⟩ := le_of_nI (n := 999) hS.2.1.1 h9 (by decide)
          rw [ex, nI_add]; exact nI_lt (b := 5000) (by omega) (by decide)
        refine h91 _ _ _ _ _ ⟨fun c => absurd c (nle_nI (N := 6) (n := 6) (by decide) (by decide) hk), fun _ => ⟨by show 0 < sNw B.2.2; rw [a4]; exact w0, ?_⟩⟩
        intro u eu; subst eu
        refine ⟨by show 0 < sNq B.2.2; rw [a3]; exact q0, ?_⟩
        intro u eu; subst eu
        refine ⟨⟨a1, hw, hq, ha⟩, ?_⟩
        intro u eu; subst eu
        rw [nI_1]
        rw [sessionN] at ih2
        simp only [hses] at ih2
        rw [← a4, ← a3] at ih2
        refine ⟨fun e => ?_, fun e => ?_⟩
        · have e' : ¬ askV B.2.2 (drawV B.1 (sNw B.2.2)) (drawV (drawZ B.1) (sNq B.2.2)) = 1 := e
          simp only [e', decide_false] at ih2
          exact ih2
        · have e' : askV B.2.2 (drawV B.1 (sNw B.2.2)) (drawV (drawZ B.1) (sNq B.2.2)) = 1 := e
          simp only [e', decide_true] at ih2
          exact ih2
  have no : ∀ w : Int32, whyLots (mS σ) p0 p2 = w → ¬ w = 0 → ∃ (ex_kept : FI) (ex_keep : Int32) (ex_cur : Int32) (ex_F : KF) (ex_lots : Int32), w = rsX (whyLots (mS σ) p0 p2) (lotsV (mS σ) p0 p1 p2) ∧ ((mS σ, mT σ, mK σ, mF σ, mRow σ, mRowMany σ, mLots σ, refuX (mRefused σ) w) : KM) = (mS σ, mT σ, (mixK (kKept (mK σ)) ex_kept, kHas (mK σ), ex_keep, ex_cur), ex_F, mRow σ, mRowMany σ, ex_lots, rfX (mRefused σ) (whyLots (mS σ) p0 p2)) := by
    intro w hw hn
    refine ⟨kKept (mK σ), kKeep (mK σ), kCur (mK σ), mF σ, mLots σ, rsX_n hw hn, ?_⟩
    rw [rfX_n hw hn, mix_self]
  refine ⟨fun c => ⟨fun c2 => absurd c2 c, fun _ => ⟨hb c, ?_⟩⟩, fun c => ⟨fun c2 => ⟨fun c3 => ⟨n3, ?_⟩, fun c3 => ⟨fun c4 => run c c2 c3 c4, fun c4 => ⟨n3, ?_⟩⟩⟩, fun c2 => ⟨n2, ?_⟩⟩⟩
  · intro u eu; subst eu
    exact no _ (by unfold whyLots; rw [if_neg c]) c
  · intro u eu; subst eu
    exact no _ (by unfold whyLots; rw [if_pos c, if_neg c2, if_pos (Or.inl c3)]) (by decide)
  · intro u eu; subst eu
    exact no _ (by unfold whyLots; rw [if_pos c, if_neg c2, if_pos (Or.inr c4)]) (by decide)
  · intro u eu; subst eu
    exact no _ (by unfold whyLots; rw [if_pos c, if_pos c2]) (by decide)
