set_option maxRecDepth 20000 in
set_option maxHeartbeats 2000000 in
theorem v_X3_sure (σ : KM) (p0 : Int32) (h : okS (mS σ)) : vc_X3_sure σ p0 (fun r u => ∃ (ex_F : KF), (r = (rsX (why01 p0) (sureOf (fitM (mS σ) p0 (fFit (mF σ))))) ∧ u = (((mS σ), (mT σ), (mK σ), (ex_F), (mRow σ), (mRowMany σ), (mLots σ), (rfX (mRefused σ) (why01 p0)))))) := by
  have n1 : ((-1) : Int32) < 0 ∧ -6 ≤ ((-1) : Int32) := by decide
  have n2 : ((-2) : Int32) < 0 ∧ -6 ≤ ((-2) : Int32) := by decide
  have n3 : ((-3) : Int32) < 0 ∧ -6 ≤ ((-3) : Int32) := by decide
  have n6 : ((-6) : Int32) < 0 ∧ -6 ≤ ((-6) : Int32) := by decide
  unfold vc_X3_sure
  refine ⟨fun c => ?_, fun c => ⟨n2, mF σ, rsX_n (by unfold why01; rw [if_pos c]) (by decide), by rw [rfX_n (c := -2) (by unfold why01; rw [if_pos c]) (by decide)]⟩⟩
  have hw : why01 p0 = 0 := by unfold why01; rw [if_neg c]
  have hp : p0 = 0 ∨ p0 = 1 := Classical.not_not.mp (fun d => c ((isInM_01 p0).mpr d))
  rw [← rsX_0 hw, rfX_0 hw]
  exact ⟨fun d => ⟨⟨h, Or.inl rfl⟩, _, by rw [hp.resolve_right d], rfl⟩, fun d => ⟨⟨h, Or.inr rfl⟩, _, by rw [d], rfl⟩⟩
set_option maxRecDepth 20000 in
set_option maxHeartbeats 2000000 in
theorem v_X3_words (σ : KM) (p0 : Int32) (p1 : Int32) (h : okS (mS σ)) : vc_X3_words σ p0 p1 (fun r u => (r = (rsX (whyWords (mS σ) p0 p1) (wordsV (mS σ) p0 p1)) ∧ u = (((mS σ), (mT σ), (mK σ), (mF σ), (mRow σ), (mRowMany σ), (mLots σ), (rfX (mRefused σ) (whyWords (mS σ) p0 p1)))))) := by
  have n1 : ((-1) : Int32) < 0 ∧ -6 ≤ ((-1) : Int32) := by decide
  have n2 : ((-2) : Int32) < 0 ∧ -6 ≤ ((-2) : Int32) := by decide
  have n3 : ((-3) : Int32) < 0 ∧ -6 ≤ ((-3) : Int32) := by decide
  have n6 : ((-6) : Int32) < 0 ∧ -6 ≤ ((-6) : Int32) := by decide
  obtain ⟨n, hn, en⟩ := okS_nq h
  have hw := @isW_in (mS σ) p0
  unfold vc_X3_words
  intro T hT
  refine ⟨fun c => ⟨fun d => ?_, fun d => ⟨n2, rsX_n (by unfold whyWords; rw [if_neg c, if_pos d]) (by decide), by rw [rfX_n (c := -2) (by unfold whyWords; rw [if_neg c, if_pos d]) (by decide)]⟩⟩, fun c => ⟨n1, rsX_n (by unfold whyWords; rw [if_pos c]) (by decide), by rw [rfX_n (c := -1) (by unfold whyWords; rw [if_pos c]) (by decide)]⟩⟩
  have hy : whyWords (mS σ) p0 p1 = 0 := by unfold whyWords; rw [if_neg c, if_neg d]
  refine cnt_up (n := n) (fun q => decide (ansI (mS σ) p0 (nI q) (sCase (mS σ)) (sAsked (mS σ) + 1) = p1)) (fun j a => T a (nI j) (mRefused σ)) ?_ (fun j hj a ih => ?_)
  · refine hT _ _ _ ⟨fun _ => ⟨?_, by rw [rfX_0 hy]⟩, fun c => absurd (le_nI en) c⟩
    rw [← rsX_0 hy, wordsV, en, nI_clamp (by omega)]
  · refine hT _ _ _ ⟨fun c => absurd c (nle_nI en (by omega) hj), fun _ => ⟨⟨h, hw c, inQ_nI en hn hj⟩, ?_⟩⟩
    rw [nI_1]
    exact ⟨fun e => by simpa [e, add0] using ih, fun e => by simpa [e, add1] using ih⟩
set_option maxRecDepth 20000 in
set_option maxHeartbeats 2000000 in
theorem v_X3_hasLied (σ : KM) (p0 : Int32) (p1 : Int32) (h : okS (mS σ)) : vc_X3_hasLied σ p0 p1 (fun r => r = (b2i (liedB (mS σ) p0 p1))) := by
  obtain ⟨n, hn, en⟩ := okS_nh h
  unfold vc_X3_hasLied
  intro T hT
  refine any_loop (n := n) (fun k => decide (sWhom (mS σ) k = p0) && decide (trueAt (mS σ) (nI k) p1 = 0)) (fun j => T (nI j)) (fun b => (if b then (1 : Int32) else 0) = b2i (liedB (mS σ) p0 p1)) (fun q => ?_) (fun j hj h1 h0 => ?_) ?_
  · exact hT _ ⟨fun _ => q, fun c => absurd (le_nI en) c⟩
  · refine hT _ ⟨fun c => absurd c (nle_nI en (by omega) hj), fun _ => ⟨vin (by omega), ?_⟩⟩
    rw [nI_clamp (by omega), nI_1]
    exact ⟨fun c => h1 (by simp [c]), fun c => ⟨⟨h, nI_pos' (by omega), by rw [en]; exact nI_lt hj (by omega)⟩, fun d => h1 (by simp [d]), fun d => h0 (by simp [c, d])⟩⟩
  · rw [liedB, en, nI_clamp (by omega)]; rfl
set_option maxRecDepth 20000 in
set_option maxHeartbeats 2000000 in
theorem v_X3_isLiar (σ : KM) (p0 : Int32) (h : okS (mS σ)) : vc_X3_isLiar σ p0 (fun r => r = (b2i (liarB (mS σ) (fFit (mF σ)) p0))) := by
  unfold vc_X3_isLiar
  intro T hT
  refine all_loop (n := 64) (fun k => !decide (fFit (mF σ) k = 1) || liedB (mS σ) p0 (nI k)) (fun j => T (nI j)) (fun b => b2i (b && decide (0 < sumN (fFit (mF σ)) 64)) = b2i (liarB (mS σ) (fFit (mF σ)) p0)) (fun q => ?_) (fun j hj h1 h0 => ?_) rfl
  · refine hT _ ⟨fun _ => ?_, fun c => absurd (by decide) c⟩
    have hd : (sumN (fFit (mF σ)) 64 ≤ 0) ↔ ¬ 0 < sumN (fFit (mF σ)) 64 := Int32.not_lt.symm
    rw [← q]
    exact ⟨fun c => by simp [hd.mp c, b2i], fun c => by rw [hd, Classical.not_not] at c; simp [c, b2i]⟩
  · refine hT _ ⟨fun c => absurd c (nle_nI (N := 64) (n := 64) (by decide) (by decide) hj), fun _ => ⟨vin hj, ?_⟩⟩
    rw [nI_clamp (by omega), nI_1]
    exact ⟨fun c => h1 (by simp [c]), fun c => ⟨h, fun d => h1 (by simp [b2i_ne.mp d]), fun d => h0 (by simp [c, b2i_z.mp d])⟩⟩
set_option maxRecDepth 20000 in
set_option maxHeartbeats 2000000 in
theorem v_X3_liars (σ : KM) (h : okS (mS σ)) : vc_X3_liars σ (fun r u => ∃ (ex_F : KF), (r = (liarsV (mS σ) (fitM (mS σ) 0 (fFit (mF σ)))) ∧ u = (((mS σ), (mT σ), (mK σ), (ex_F), (mRow σ), (mRowMany σ), (mLots σ), (mRefused σ))))) := by
  obtain ⟨n, hn, en⟩ := okS_nw h
  unfold vc_X3_liars
  intro T hT
  refine ⟨⟨h, Or.inl rfl⟩, ?_⟩
  refine set_up (n := n) (fun w => liarB (mS σ) (fitM (mS σ) 0 (fFit (mF σ))) (nI w)) (fun j a => T a (nI j) (fitM (mS σ) 0 (fFit (mF σ)))) ?_ (fun j hj a ih => ?_)
  · refine hT _ _ _ ⟨fun _ => ⟨_, ?_, rfl⟩, fun c => absurd (le_nI en) c⟩
    rw [liarsV, en, nI_clamp (by omega)]
  · refine hT _ _ _ ⟨fun c => absurd c (nle_nI en (by omega) hj), fun _ => ⟨h, ?_⟩⟩
    rw [nI_1]
    exact ⟨fun d => by simpa [b2i_z.mp d] using ih, fun d => by simpa [b2i_ne.mp d] using ih⟩
set_option maxRecDepth 20000 in
set_option maxHeartbeats 2000000 in
theorem v_X3_fitBoth (σ : KM) (p0 : Int32) (p1 : Int32) (h : okS (mS σ) ∧ (0 ≤ p0 ∧ p0 < sNh (mS σ)) ∧ (0 ≤ p1 ∧ p1 < sNh (mS σ))) : vc_X3_fitBoth σ p0 p1 (fun r => r = (b2i (bothB (mS σ) p0 p1))) := by
  obtain ⟨a0, a1, a2, -⟩ := okS_h h.1 h.2.1.1 h.2.1.2
  obtain ⟨c0, c1, c2, -⟩ := okS_h h.1 h.2.2.1 h.2.2.2
  unfold vc_X3_fitBoth
  intro T hT
  refine any_loop (n := 64) (fun k => hitB (mS σ) (sWhat (mS σ) p0.toNatClampNeg) (nI k) p0.toNatClampNeg && hitB (mS σ) (sWhat (mS σ) p1.toNatClampNeg) (nI k) p1.toNatClampNeg) (fun j => T (nI j)) (fun b => (if b then (1 : Int32) else 0) = b2i (bothB (mS σ) p0 p1)) (fun q => ?_) (fun j hj h1 h0 => ?_) rfl
  · exact hT _ ⟨fun _ => q, fun c => absurd (by decide) c⟩
  · refine hT _ ⟨fun c => absurd c (nle_nI (N := 64) (n := 64) (by decide) (by decide) hj), fun _ => ⟨a0, a0, a0, ⟨h.1, a1, a2⟩, a0, ?_⟩⟩
    rw [nI_1]
    exact ⟨fun c => h1 (by simp [hitB, c]), fun c => ⟨c0, c0, c0, ⟨h.1, c1, c2⟩, c0, fun d => h1 (by simp [hitB, d]), fun d => h0 (by simp [hitB, c, d])⟩⟩
set_option maxRecDepth 20000 in
set_option maxHeartbeats 2000000 in
theorem v_X3_clash (σ : KM) (h : okS (mS σ)) : vc_X3_clash σ (fun r => r = (clashV (mS σ))) := by
  obtain ⟨n, hn, en⟩ := okS_nh h
  unfold vc_X3_clash
  intro T2 T14 h2 h14
  have key : ∀ d a, a + d = n → clashFrom (mS σ) n d a = clashV (mS σ) → T2 (nI a) := by
    intro d
    induction d with
    | zero =>
      intro a ha e
      obtain rfl : a = n := by omega
      exact h2 _ ⟨fun _ => e, fun c => absurd (le_nI en) c⟩
    | succ d ih =>
      intro a ha e
      rw [clashFrom] at e
      refine h2 _ ⟨fun c => absurd c (nle_nI en (by omega) (by omega)), fun _ => ?_⟩
      rw [nI_1]
      refine first_loop (n := n - (a + 1)) (fun b => !bothB (mS σ) (nI a) (nI b)) (fun j => T14 (nI a) (nI j)) (fun o => (match o with | some b => 100 * nI a + nI b | none => clashFrom (mS σ) n d (a + 1)) = clashV (mS σ)) (a + 1) (fun q => ?_) (fun j j1 j2 h1 h0 => ?_) e
      · refine h14 _ _ ⟨fun _ => ?_, fun c => absurd (by rw [en]; exact nI_le (by omega) (by omega)) c⟩
        rw [nI_1]; exact ih (a + 1) (by omega) q
      · refine h14 _ _ ⟨fun c => absurd c (nle_nI en (by omega) (by omega)), fun _ => ⟨⟨h, ⟨nI_pos' (by omega), by rw [en]; exact nI_lt (by omega) (by omega)⟩, ⟨nI_pos' (by omega), by rw [en]; exact nI_lt (by omega) (by omega)⟩⟩, ?_⟩⟩
        rw [nI_1]
        exact ⟨fun d => h1 (by simp [b2i_ne.mp d]), fun d => h0 (by simp [b2i_z.mp d])⟩
  exact key n 0 (by omega) (by unfold clashV; rw [en, nI_clamp (by omega)])
set_option maxRecDepth 20000 in
set_option maxHeartbeats 2000000 in
theorem v_X3_trueOf (σ : KM) (p0 : Int32) (h : okS (mS σ)) : vc_X3_trueOf σ p0 (fun r u => (r = (rsX (whyW (mS σ) p0) (trueOfV (mS σ) p0)) ∧ u = (((mS σ), (mT σ), (mK σ), (mF σ), (mRow σ), (mRowMany σ), (mLots σ), (rfX (mRefused σ) (whyW (mS σ) p0)))))) := by
  have n1 : ((-1) : Int32) < 0 ∧ -6 ≤ ((-1) : Int32) := by decide
  have n2 : ((-2) : Int32) < 0 ∧ -6 ≤ ((-2) : Int32) := by decide
  have n3 : ((-3) : Int32) < 0 ∧ -6 ≤ ((-3) : Int32) := by decide
  have n6 : ((-6) : Int32) < 0 ∧ -6 ≤ ((-6) : Int32) := by decide
  obtain ⟨n, hn, en⟩ := okS_nh h
  unfold vc_X3_trueOf
  intro T hT
  refine ⟨fun c => ?_, fun c => ⟨n1, rsX_n (by unfold whyW; rw [if_pos c]) (by decide), by rw [rfX_n (c := -1) (by unfold whyW; rw [if_pos c]) (by decide)]⟩⟩
  have hy : whyW (mS σ) p0 = 0 := by unfold whyW; rw [if_neg c]
  refine cnt_up (n := n) (fun k => decide (sWhom (mS σ) k = p0) && decide (trueAt (mS σ) (nI k) (sCase (mS σ)) = 1)) (fun j a => T a (nI j) (mRefused σ)) ?_ (fun j hj a ih => ?_)
  · refine hT _ _ _ ⟨fun _ => ⟨?_, by rw [rfX_0 hy]⟩, fun c => absurd (le_nI en) c⟩
    rw [← rsX_0 hy, trueOfV, en, nI_clamp (by omega)]
  · refine hT _ _ _ ⟨fun c => absurd c (nle_nI en (by omega) hj), fun _ => ⟨vin (by omega), ?_⟩⟩
    rw [nI_clamp (by omega), nI_1]
    exact ⟨fun e => by simpa [e, add0] using ih, fun e => ⟨⟨h, nI_pos' (by omega), by rw [en]; exact nI_lt hj (by omega)⟩, fun d => by simpa [d, add0] using ih, fun d => by simpa [e, d, add1] using ih⟩⟩
set_option maxRecDepth 20000 in
set_option maxHeartbeats 2000000 in
theorem v_X3_talker (σ : KM) (h : okS (mS σ)) : vc_X3_talker σ (fun r => r = (talkerV (mS σ))) := by
  obtain ⟨n, hn, en⟩ := okS_nw h
  obtain ⟨nh, hnh, enh⟩ := okS_nh h
  unfold vc_X3_talker
  intro T7 T21 h7 h21
  refine fold_up (n := n) (fun w (b : Int32 × Int32) => if talkN (mS σ) (nI w) ≤ b.2 then b else (nI w, talkN (mS σ) (nI w))) ((-9, 0) : Int32 × Int32) (fun j b => T7 b.1 b.2 (nI j)) ?_ (fun w hw b ih => ?_)
  · refine h7 _ _ _ ⟨fun _ => ?_, fun c => absurd (le_nI en) c⟩
    rw [talkerV, en, nI_clamp (by omega)]
  · refine h7 _ _ _ ⟨fun c => absurd c (nle_nI en (by omega) hw), fun _ => ?_⟩
    refine cnt_up (n := nh) (fun k => decide (sWhom (mS σ) k = nI w) && !decide (sSaid (mS σ) k = 2)) (fun j a => T21 b.1 b.2 (nI w) a (nI j)) ?_ (fun j hj a ih2 => ?_)
    · refine h21 _ _ _ _ _ ⟨fun _ => ?_, fun c => absurd (le_nI enh) c⟩
      rw [nI_1]
      rw [talkN, enh, nI_clamp (by omega)] at ih
      exact ⟨fun d => by rw [if_neg (Int32.not_le.mpr d)] at ih; exact ih, fun d => by rw [if_pos (Int32.not_lt.mp d)] at ih; exact ih⟩
    · refine h21 _ _ _ _ _ ⟨fun c => absurd c (nle_nI enh (by omega) hj), fun _ => ⟨vin (by omega), ?_⟩⟩
      have hv : vp_in (nI j) 12 := vin (by omega)
      rw [nI_clamp (by omega), nI_1]
      exact ⟨fun e => by simpa [e, add0] using ih2, fun e => ⟨hv, fun d => by simpa [d, add0] using ih2, fun d => by simpa [e, d, add1] using ih2⟩⟩
set_option maxRecDepth 20000 in
set_option maxHeartbeats 2000000 in
theorem v_X3_betrays (σ : KM) (p0 : Int32) (h : okS (mS σ)) : vc_X3_betrays σ p0 (fun r u => (r = (rsX (whyPlace (mS σ) p0) (betraysV (mS σ) p0)) ∧ u = (((mS σ), (mT σ), (mK σ), (mF σ), (mRow σ), (mRowMany σ), (mLots σ), (rfX (mRefused σ) (whyPlace (mS σ) p0)))))) := by
  have n1 : ((-1) : Int32) < 0 ∧ -6 ≤ ((-1) : Int32) := by decide
  have n2 : ((-2) : Int32) < 0 ∧ -6 ≤ ((-2) : Int32) := by decide
  have n3 : ((-3) : Int32) < 0 ∧ -6 ≤ ((-3) : Int32) := by decide
  have n6 : ((-6) : Int32) < 0 ∧ -6 ≤ ((-6) : Int32) := by decide
  obtain ⟨n, hn, en⟩ := okS_nq h
  unfold vc_X3_betrays
  intro T hT
  have bad : (p0 < 0 ∨ sNh (mS σ) ≤ p0) → whyPlace (mS σ) p0 = -1 := fun c => by unfold whyPlace; rw [if_pos c]
  refine ⟨fun c => ⟨n1, rsX_n (bad (Or.inl c)) (by decide), by rw [rfX_n (bad (Or.inl c)) (by decide)]⟩, fun c => ⟨fun d => ?_, fun d => ⟨n1, rsX_n (bad (Or.inr (Int32.not_lt.mp d))) (by decide), by rw [rfX_n (bad (Or.inr (Int32.not_lt.mp d))) (by decide)]⟩⟩⟩
  obtain ⟨a0, a1, a2, -⟩ := okS_h h (Int32.not_lt.mp c) d
  have hy : whyPlace (mS σ) p0 = 0 := by unfold whyPlace; rw [if_neg]; rintro (q | q); exact c q; exact absurd d (Int32.not_lt.mpr q)
  refine cnt_up (n := n) (fun q => hitB (mS σ) (nI q) (sCase (mS σ)) p0.toNatClampNeg) (fun j a => T a (nI j) (mRefused σ)) ?_ (fun j hj a ih => ?_)
  · refine hT _ _ _ ⟨fun _ => ⟨?_, by rw [rfX_0 hy]⟩, fun c => absurd (le_nI en) c⟩
    rw [← rsX_0 hy, betraysV, en, nI_clamp (by omega)]
  · refine hT _ _ _ ⟨fun c => absurd c (nle_nI en (by omega) hj), fun _ => ⟨a0, a0, ⟨h, a1, inQ_nI en hn hj⟩, a0, ?_⟩⟩
    rw [nI_1]
    exact ⟨fun e => by simpa [hitB, e, add0] using ih, fun e => by simpa [hitB, e, add1] using ih⟩
set_option maxRecDepth 20000 in
set_option maxHeartbeats 2000000 in
theorem v_X3_isHidden (σ : KM) (p0 : Int32) (h : okS (mS σ) ∧ inQ (mS σ) p0) : vc_X3_isHidden σ p0 (fun r => r = (b2i (hiddenB (mS σ) p0))) := by
  obtain ⟨n, hn, en⟩ := okS_nw h.1
  unfold vc_X3_isHidden
  intro T hT
  refine all_loop (n := n) (fun w => decide (ansI (mS σ) (nI w) p0 (sCase (mS σ)) (sAsked (mS σ) + 1) = 2)) (fun j => T (nI j)) (fun b => (if b then (1 : Int32) else 0) = b2i (hiddenB (mS σ) p0)) (fun q => ?_) (fun j hj h1 h0 => ?_) ?_
  · exact hT _ ⟨fun _ => q, fun c => absurd (le_nI en) c⟩
  · refine hT _ ⟨fun c => absurd c (nle_nI en (by omega) hj), fun _ => ⟨⟨h.1, inW_nI en hn hj, h.2⟩, fun c => ?_, fun c => h0 (by simp [c])⟩⟩
    rw [nI_1]; exact h1 (by simp [c])
  · rw [hiddenB, en, nI_clamp (by omega)]; rfl
set_option maxRecDepth 20000 in
set_option maxHeartbeats 2000000 in
theorem v_X3_hidden (σ : KM) (h : okS (mS σ)) : vc_X3_hidden σ (fun r => r = (hiddenV (mS σ))) := by
  obtain ⟨n, hn, en⟩ := okS_nq h
  unfold vc_X3_hidden
  intro T hT
  refine set_up (n := n) (fun q => hiddenB (mS σ) (nI q)) (fun j a => T a (nI j)) ?_ (fun j hj a ih => ?_)
  · refine hT _ _ ⟨fun _ => ?_, fun c => absurd (le_nI en) c⟩
    rw [hiddenV, en, nI_clamp (by omega)]
  · refine hT _ _ ⟨fun c => absurd c (nle_nI en (by omega) hj), fun _ => ⟨⟨h, inQ_nI en hn hj⟩, ?_⟩⟩
    rw [nI_1]
    exact ⟨fun d => by simpa [b2i_z.mp d] using ih, fun d => by simpa [b2i_ne.mp d] using ih⟩
set_option maxRecDepth 20000 in
set_option maxHeartbeats 2000000 in
theorem v_X3_areSame (σ : KM) (p0 : Int32) (p1 : Int32) (h : vp_in p0 8 ∧ vp_in p1 8) : vc_X3_areSame σ p0 p1 (fun r => r = (b2i (sameB (mS σ) p0 p1))) := by
  unfold vc_X3_areSame
  intro T hT
  refine all_loop (n := 64) (fun k => soB (mS σ) p0 (nI k) == soB (mS σ) p1 (nI k)) (fun j => T (nI j)) (fun b => (if b then (1 : Int32) else 0) = b2i (sameB (mS σ) p0 p1)) (fun q => ?_) (fun j hj h1 h0 => ?_) rfl
  · exact hT _ ⟨fun _ => q, fun c => absurd (by decide) c⟩
  · have hb : ∀ a b : Bool, b2i a = b2i b ↔ a = b := by decide
    refine hT _ ⟨fun c => absurd c (nle_nI (N := 64) (n := 64) (by decide) (by decide) hj), fun _ => ⟨h.1, h.2, ?_⟩⟩
    rw [nI_1, hb]
    exact ⟨fun c => h1 (by simp [c]), fun c => h0 (by simpa using c)⟩
