set_option maxRecDepth 20000 in
set_option maxHeartbeats 2000000 in
theorem v_X3_image (σ : KM) : vc_X3_image σ (fun r u => (r = (sAsked (mS σ)) ∧ u = (((mS σ), (mT σ), ((saveS (kKept (mK σ)) 0 (mS σ), 1, 1, 92)), (mF σ), (mRow σ), (mRowMany σ), (mLots σ), (mRefused σ))))) := by
  have e0 : (92 : Int32) * 0 = 0 := by decide
  have e1 : (0 : Int32) + 92 = 92 := by decide
  have i10 : ¬ (1 : Int32) = 0 := by decide
  unfold vc_X3_image
  rw [e0, e1, if_neg i10, if_neg i10]
  exact ⟨⟨Or.inl rfl, Or.inr rfl⟩, rfl, rfl⟩
set_option maxRecDepth 20000 in
set_option maxHeartbeats 2000000 in
theorem v_X3_on (σ : KM) : vc_X3_on σ (fun r u => (r = (rsX (if kHas (mK σ) = 0 then -3 else 0) (sAsked (loadS (kKept (mK σ)) 0 (mS σ)))) ∧ u = (((if kHas (mK σ) = 0 then mS σ else loadS (kKept (mK σ)) 0 (mS σ)), (mT σ), ((kKept (mK σ)), (kHas (mK σ)), (if kHas (mK σ) = 0 then kKeep (mK σ) else 0), (if kHas (mK σ) = 0 then kCur (mK σ) else 92)), (mF σ), (mRow σ), (mRowMany σ), (mLots σ), (rfX (mRefused σ) (if kHas (mK σ) = 0 then -3 else 0)))))) := by
  have e0 : (92 : Int32) * 0 = 0 := by decide
  have e1 : (0 : Int32) + 92 = 92 := by decide
  unfold vc_X3_on
  rw [e0, e1]
  refine ⟨fun c => ⟨⟨Or.inl rfl, Or.inl rfl⟩, ?_⟩, fun c => ⟨by decide, ?_⟩⟩
  · simp only [if_neg c]; exact ⟨rfl, rfl⟩
  · simp only [if_pos c]; exact ⟨rfl, rfl⟩
set_option maxRecDepth 20000 in
set_option maxHeartbeats 2000000 in
theorem v_X3_court (σ : KM) (h : okS (mS σ) ∧ zS (mS σ) ∧ sAsked (mS σ) ≤ 999 ∧ 0 ≤ tTaped (mT σ) ∧ tTaped (mT σ) ≤ 96) : vc_X3_court σ (fun r u => ∃ (ex_l : FI) (ex_la : FI) (ex_to : FI) (ex_at : Int32) (ex_st : Int32) (ex_kept : FI) (ex_keep : Int32) (ex_cur : Int32), (r = (courtV (mT σ) (mS σ)) ∧ u = (((courtS (mT σ) (mS σ)), ((tTape (mT σ), ex_l, ex_la, ex_to, 0, ex_at, ex_st)), ((mixK (kKept (mK σ)) ex_kept, kHas (mK σ), ex_keep, ex_cur)), (mF σ), (mRow σ), (mRowMany σ), (mLots σ), (mRefused σ))))) := by
  obtain ⟨hS, hZ, h9, hT0, hT1⟩ := h
  have hG : goodS (mS σ) := ⟨hS, hZ, h9⟩
  obtain ⟨len, hl, hz'⟩ := taped_nat ⟨hT0, hT1⟩
  obtain ⟨z, ez⟩ : ∃ z : KZ, z = (tTaped (mT σ), tTape (mT σ)) := ⟨_, rfl⟩
  have hz : zLen z = nI len := by rw [ez]; exact hz'
  have hL : LinkT z (mT σ) := by rw [ez]; exact ⟨rfl, rfl⟩
  have htape : ∀ u, LinkT z u → tTape u = tTape (mT σ) := fun u k => k.1.trans hL.1.symm
  obtain ⟨hLc, hC⟩ := courtT_eq hz hl hL
  have e92 : (92 : Int32) * 1 = nI 92 := by decide
  have i10 : ¬ (1 : Int32) = 0 := by decide
  unfold vc_X3_court
  intro T12 T86 h12 h86
  -- all read: they come
  have come : (courtT (mT σ)).1 = true → T86 0 (saveS (kKept (mK σ)) (nI 92) (mS σ), kHas (mK σ), 1, nI 92 + 92) (mS σ) (tTape (courtT (mT σ)).2, tLetter (courtT (mT σ)).2, tLetterAt (courtT (mT σ)).2, tTold (courtT (mT σ)).2, 0, tAt (courtT (mT σ)).2, tStm (courtT (mT σ)).2) := by
    intro hb
    obtain ⟨m, hm, em, epl, hJ⟩ : ∃ m, m ≤ 48 ∧ tStm (courtT (mT σ)).2 = nI m ∧ pl z m = len ∧ JT z (courtT (mT σ)).2 m := by
      rcases hC with q | q
      · rw [q.1] at hb; cases hb
      · exact q.2.2
    have hcm : (tStm (courtT (mT σ)).2).toNatClampNeg = m := by rw [em, nI_clamp (by omega)]
    have key : ∀ (d k : Nat) (x : SS), k + d = m → goodS x → comesN (courtT (mT σ)).2 d k x = comesN (courtT (mT σ)).2 m 0 (mS σ) → T86 (nI k) (saveS (kKept (mK σ)) (nI 92) (mS σ), kHas (mK σ), 1, nI 92 + 92) x (tTape (courtT (mT σ)).2, tLetter (courtT (mT σ)).2, tLetterAt (courtT (mT σ)).2, tTold (courtT (mT σ)).2, 0, tAt (courtT (mT σ)).2, tStm (courtT (mT σ)).2) := by
      intro d
      induction d with
      | zero =>
        intro k x hk hx he
        refine h86 _ _ _ _ ⟨fun _ => ?_, fun c => absurd (show tStm (courtT (mT σ)).2 ≤ nI k by rw [em, show k = m by omega]; exact Int32.le_refl _) c⟩
        refine ⟨tLetter (courtT (mT σ)).2, tLetterAt (courtT (mT σ)).2, tTold (courtT (mT σ)).2, tAt (courtT (mT σ)).2, tStm (courtT (mT σ)).2, saveS (kKept (mK σ)) (nI 92) (mS σ), 1, nI 92 + 92, ?_, ?_⟩
        · unfold courtV
          simp only [hb, hcm, ← he]
          rfl
        · unfold courtS
          simp only [hb, hcm, ← he]
          rw [mix_save (mix_self _) (by decide) (by decide), ← htape _ hLc]; rfl
      | succ d ih =>
        intro k x hk hx he
        have hlt : k < m := by omega
        have hke : (nI k).toNatClampNeg = k := nI_clamp (by omega)
        obtain ⟨j1, j2, j3, j4, j5⟩ := hJ k hlt
        have c0 : (3 * nI k).toNatClampNeg = 3 * k := by rw [three_n, nI_clamp (by omega)]
        have c1 : (3 * nI k + 1).toNatClampNeg = 3 * k + 1 := by rw [three_n]; exact cl_1 (by omega)
        have c2 : (3 * nI k + 2).toNatClampNeg = 3 * k + 2 := by rw [three_n]; exact cl_2 (by omega)
        have hg := comes_good hx (t := (courtT (mT σ)).2) (nI k) (by rw [hke, c0, c1, c2, j4]; exact told_R j5)
        rw [comesN] at he
        refine h86 _ _ _ _ ⟨fun c => absurd c (by show ¬ tStm (courtT (mT σ)).2 ≤ nI k; rw [em]; exact nI_ge hlt (by omega)), fun _ => ⟨⟨hx.1, hx.lt, nI_pos' (by omega), nI_lt (b := 48) (by omega) (by decide)⟩, fun c => ?_, fun c => ?_⟩⟩
        · have c' : (comesI (courtT (mT σ)).2 x (nI k)).1 = 0 := c
          simp only [c', if_true] at he
          refine ⟨⟨Or.inr (Or.inl rfl), Or.inl rfl⟩, vin (by omega), ?_⟩
          refine ⟨tLetter (courtT (mT σ)).2, tLetterAt (courtT (mT σ)).2, tTold (courtT (mT σ)).2, tAt (courtT (mT σ)).2, tStm (courtT (mT σ)).2, saveS (kKept (mK σ)) (nI 92) (mS σ), 0, 92 * 1 + 92, ?_, ?_⟩
          · unfold courtV
            simp only [hb, hcm, ← he, hke]
            rfl
          · have hls := load_save (kKept (mK σ)) (C := 92) (by decide) hG.2.1 hg.2.1
            unfold courtS
            simp only [hb, hcm, ← he]
            rw [mix_save (mix_self _) (by decide) (by decide), e92, ← htape _ hLc]
            show (loadS (saveS (kKept (mK σ)) (nI 92) (mS σ)) (nI 92) (comesI (courtT (mT σ)).2 x (nI k)).2, _) = _
            rw [hls]; rfl
        · have c' : ¬ (comesI (courtT (mT σ)).2 x (nI k)).1 = 0 := c
          simp only [c', if_false] at he
          rw [nI_1]
          exact ih (k + 1) _ (by omega) hg he
    exact key m 0 (mS σ) (by omega) hG rfl
  have bad : ∀ t : KT, courtT (mT σ) = (false, t) → T12 0 (mK σ) (mS σ) (tTape t, tLetter t, tLetterAt t, tTold t, tTaped t, tAt t, tStm t + 0) := by
    intro t et
    refine h12 _ _ _ _ ⟨fun _ => ⟨fun c => absurd rfl c, fun _ => ?_⟩, fun c => absurd rfl c⟩
    refine ⟨tLetter t, tLetterAt t, tTold t, tAt t, tStm t + 0, kKept (mK σ), kKeep (mK σ), kCur (mK σ), ?_, ?_⟩
    · unfold courtV; rw [et]; rfl
    · have ht : tTape t = tTape (mT σ) := by rw [et] at hLc; exact htape _ hLc
      unfold courtS; rw [et, mix_self, ← ht]; rfl
  have read : ∀ (n : Nat) (t : KT) (s : Nat), n + s = 49 → LinkT z t → tStm t = nI s → tAt t = nI (pl z s) → pl z s ≤ len → 2 * s ≤ pl z s → JT z t s → rdCourt n t = courtT (mT σ) → T12 1 (mK σ) (mS σ) t := by
    intro n
    induction n with
    | zero => intro t s hn _ _ _ _ _ _; omega
    | succ n ih =>
      intro t s hn hLt hs ha hp h2 hJ he
      have step : (tAt t < tTaped t ∨ tStm t = 0) → ((0 ≤ tAt t ∧ tAt t ≤ 96 ∧ tTaped t ≤ 96) ∧ vp_in (tStm t) 48) ∧ ((((stmT t).1) = 0) → (T12 ((stmT t).1) (mK σ) (mS σ) ((tTape ((stmT t).2)), (tLetter ((stmT t).2)), (tLetterAt ((stmT t).2)), (tTold ((stmT t).2)), (tTaped ((stmT t).2)), (tAt ((stmT t).2)), ((tStm ((stmT t).2)) + 0)))) ∧ ((¬ (((stmT t).1) = 0)) → (T12 ((stmT t).1) (mK σ) (mS σ) ((tTape ((stmT t).2)), (tLetter ((stmT t).2)), (tLetterAt ((stmT t).2)), (tTold ((stmT t).2)), (tTaped ((stmT t).2)), (tAt ((stmT t).2)), ((tStm ((stmT t).2)) + 1)))) := by
        intro hc
        obtain ⟨s48, hP, hLs, hr⟩ := stm_inv hz hl hLt hs ha hp h2 hJ hc
        rw [rdCourt, if_pos hc] at he
        refine ⟨⟨hP, by rw [hs]; exact vin s48⟩, fun c => ?_, fun c => ?_⟩
        · simp only [c, if_true] at he
          rw [c]
          exact bad _ he.symm
        · simp only [c, if_false] at he
          rcases hr with hr | ⟨g1, g2, g3, g4, g5, g6⟩
          · exact absurd hr c
          · rw [g1]
            exact ih _ (s + 1) (by omega) ⟨hLs.1, hLs.2⟩ (by show tStm (stmT t).2 + 1 = _; rw [g2, nI_1]) g3 g4 g5 g6 he
      refine h12 _ _ _ _ ⟨fun c => absurd c i10, fun _ => ⟨fun c => step (Or.inl c), fun c => ⟨fun c2 => ⟨fun _ => ⟨⟨Or.inr (Or.inl rfl), Or.inr rfl⟩, ?_⟩, fun c3 => absurd c3 i10⟩, fun c2 => step (Or.inr c2)⟩⟩⟩
      have hcond : ¬ (tAt t < tTaped t ∨ tStm t = 0) := fun q => q.elim c c2
      rw [rdCourt, if_neg hcond] at he
      rw [if_neg i10, if_neg i10, e92]
      have q1 : (courtT (mT σ)).1 = true := by rw [← he]
      have q2 : (courtT (mT σ)).2 = t := by rw [← he]
      have := come q1
      rw [q2] at this
      exact this
  exact read 49 _ 0 rfl ⟨hL.1, hL.2⟩ rfl rfl (Nat.zero_le _) (Nat.le_refl _) (fun k hk => absurd hk (by omega)) rfl
