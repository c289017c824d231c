set_option maxRecDepth 20000 in
set_option maxHeartbeats 2000000 in
theorem v_X3_next (σ : KM) (h : 0 ≤ tAt (mT σ) ∧ tTaped (mT σ) ≤ 96) : vc_X3_next σ (fun r => r = (nxt (mT σ) (tAt (mT σ)))) := by
  have hv : ¬ (tTaped (mT σ) ≤ tAt (mT σ)) → vp_in (tAt (mT σ)) 96 := fun c => vin_lt (N := 96) (by decide) h.1 (Int32.lt_of_lt_of_le (Int32.not_le.mp c) h.2)
  unfold vc_X3_next nxt; grind
set_option maxRecDepth 20000 in
set_option maxHeartbeats 2000000 in
theorem v_X3_kindOf (p0 : Int32) : vc_X3_kindOf p0 (fun r => r = (kindOfI p0)) := by
  unfold vc_X3_kindOf kindOfI; grind
set_option maxRecDepth 20000 in
set_option maxHeartbeats 2000000 in
theorem v_X3_readsDigits (σ : KM) (p0 : Int32) (p1 : Int32) (h : (0 ≤ tAt (mT σ) ∧ tAt (mT σ) ≤ 96 ∧ tTaped (mT σ) ≤ 96) ∧ vp_in p0 144 ∧ (p1 = 1 ∨ p1 = 2)) : vc_X3_readsDigits σ p0 p1 (fun r u => (r = ((rdD (mT σ) p0 p1).1) ∧ u = (((mS σ), ((rdD (mT σ) p0 p1).2), (mK σ), (mF σ), (mRow σ), (mRowMany σ), (mLots σ), (mRefused σ))))) := by
  obtain ⟨⟨ha0, ha1, ht⟩, hp, hd⟩ := h
  obtain ⟨n, hn, en⟩ : ∃ n : Nat, n ≤ 2 ∧ p1 = nI n := by
    rcases hd with e | e
    · exact ⟨1, by omega, e⟩
    · exact ⟨2, by omega, e⟩
  subst en
  unfold vc_X3_readsDigits
  intro T hT
  have key : ∀ (d k : Nat) (a v : Int32), k + d = n → 0 ≤ a → rdLoop (mT σ) d a v = rdLoop (mT σ) n (tAt (mT σ)) 0 → T v (nI k) a (tTold (mT σ)) := by
    intro d
    induction d with
    | zero =>
      intro k a v hk h0 hr
      obtain rfl : k = n := by omega
      refine hT _ _ _ _ ⟨fun _ => ⟨hp, pq ?_⟩, fun c => absurd (Int32.le_refl _) c⟩
      rw [rdD_e, nI_clamp (by omega), ← hr]; rfl
    | succ d ih =>
      intro k a v hk h0 hr
      refine hT _ _ _ _ ⟨fun c => absurd c (nI_ge (by omega) (by omega)), fun _ => ⟨⟨h0, ht⟩, fun c => ⟨⟨h0, ht⟩, ?_⟩, fun c => pq ?_⟩⟩
      · have c' : ¬ isInM (nxt (mT σ) a) 48 57 = 0 := c
        obtain ⟨i0, i1, i2⟩ := inc_le h0 (dig_lt c') ht
        rw [nI_1]
        refine ih (k + 1) (a + 1) _ (by omega) i0 ?_
        rw [← hr, rdLoop, if_neg c']; rfl
      · have c' : isInM (nxt (mT σ) a) 48 57 = 0 := c
        rw [rdD_e, nI_clamp (by omega), ← hr, rdLoop, if_pos c']; rfl
  exact key n 0 _ _ (by omega) ha0 rfl
set_option maxRecDepth 20000 in
set_option maxHeartbeats 2000000 in
theorem v_X3_readsWitness (σ : KM) (p0 : Int32) (h : (0 ≤ tAt (mT σ) ∧ tAt (mT σ) ≤ 96 ∧ tTaped (mT σ) ≤ 96) ∧ 0 ≤ p0 ∧ p0 ≤ 141) : vc_X3_readsWitness σ p0 (fun r u => (r = ((rdW (mT σ) p0).1) ∧ u = (((mS σ), ((rdW (mT σ) p0).2), (mK σ), (mF σ), (mRow σ), (mRowMany σ), (mLots σ), (mRefused σ))))) := by
  obtain ⟨hA, hp⟩ := h
  have hA : PAt (mT σ) := hA
  obtain ⟨v0, v1, v2⟩ := pk_144 hp
  unfold vc_X3_readsWitness
  rw [pk_us]
  refine ⟨⟨hA.1, hA.2.2⟩, v0, v0, fun c => ?_, fun c => pq (rdW_0 (Int32.not_le.mp c))⟩
  have hn : ¬ kindOfI (nxt (mT σ) (tAt (mT σ))) < 0 := Int32.not_lt.mpr c
  have g0 := tW_g hA (p := p0) hn
  refine ⟨⟨g0.pa hA, v1, Or.inl rfl⟩, ?_⟩
  intro u e; subst e
  have g1 := rdD_g (g0.pa hA) (p0 + 1) 1
  refine ⟨fun c1 => pq (rdW_1 hn c1), fun c1 => ⟨⟨g1.pa (g0.pa hA), v2, Or.inr rfl⟩, ?_⟩⟩
  intro u e; subst e
  exact ⟨fun c2 => pq (rdW_2 hn c1 c2), fun c2 => pq (rdW_3 hn c1 c2)⟩
set_option maxRecDepth 20000 in
set_option maxHeartbeats 2000000 in
theorem v_X3_readsAll (σ : KM) (p0 : Int32) (p1 : Int32) (h : (0 ≤ tAt (mT σ) ∧ tAt (mT σ) ≤ 96 ∧ tTaped (mT σ) ≤ 96) ∧ 0 ≤ p1 ∧ p1 ≤ 141) : vc_X3_readsAll σ p0 p1 (fun r u => (r = ((rdAll (mT σ) p0 p1).1) ∧ u = (((mS σ), ((rdAll (mT σ) p0 p1).2), (mK σ), (mF σ), (mRow σ), (mRowMany σ), (mLots σ), (mRefused σ))))) := by
  obtain ⟨hA, hp⟩ := h
  have hA : PAt (mT σ) := hA
  obtain ⟨v0, v1, v2⟩ := pk_144 hp
  have g1 := rdD_g hA p1 1
  have g2 := rdD_g (g1.pa hA) (p1 + 1) 1
  unfold vc_X3_readsAll
  refine ⟨fun c => ⟨⟨hA, v0, Or.inl rfl⟩, ?_⟩, fun n1 => ⟨fun c => ?_, fun n2 => ⟨fun c => ⟨⟨hA, v0, Or.inl rfl⟩, ?_⟩, fun n3 => ⟨fun c => ⟨⟨hA, hp⟩, ?_⟩, fun n4 => ⟨⟨hA, v0, Or.inl rfl⟩, ?_⟩⟩⟩⟩⟩
  · intro u e; subst e
    exact ⟨nar01 (rdD_01 _ _ _), pq ((rdAll_e _ _ _).trans (if_pos c))⟩
  · have q : rdAll (mT σ) p0 p1 = (1, mT σ) := by
      rw [rdAll_e, if_neg (by rw [c]; decide), if_neg (by rw [c]; decide), if_neg (by rw [c]; decide), if_pos c]
    exact pq q
  · have q : rdAll (mT σ) p0 p1 = rd3 (mT σ) p1 := by rw [rdAll_e, if_neg n1, if_pos c]
    intro u e; subst e
    refine ⟨fun c1 => pq (q.trans (if_pos c1)), fun c1 => ⟨⟨g1.pa hA, v1, Or.inl rfl⟩, ?_⟩⟩
    intro u e; subst e
    refine ⟨fun c2 => pq (q.trans ((if_neg c1).trans (if_pos c2))), fun c2 => ⟨⟨g2.pa (g1.pa hA), v2, Or.inl rfl⟩, ?_⟩⟩
    intro u e; subst e
    exact ⟨fun c3 => pq (q.trans ((if_neg c1).trans ((if_neg c2).trans (if_pos c3)))), fun c3 => pq (q.trans ((if_neg c1).trans ((if_neg c2).trans (if_neg c3))))⟩
  · have q : rdAll (mT σ) p0 p1 = rdW (mT σ) p1 := by rw [rdAll_e, if_neg n1, if_neg n3, if_pos c]
    intro u e; subst e
    exact ⟨nar01 (rdW_01 _ _), pq q⟩
  · have q : rdAll (mT σ) p0 p1 = rd2 (mT σ) p1 := by rw [rdAll_e, if_neg n1, if_neg n3, if_neg n4, if_neg n2]
    intro u e; subst e
    refine ⟨fun c1 => pq (q.trans (if_pos c1)), fun c1 => ⟨⟨g1.pa hA, v1, Or.inl rfl⟩, ?_⟩⟩
    intro u e; subst e
    exact ⟨fun c2 => pq (q.trans ((if_neg c1).trans (if_pos c2))), fun c2 => pq (q.trans ((if_neg c1).trans (if_neg c2)))⟩
set_option maxRecDepth 20000 in
set_option maxHeartbeats 2000000 in
theorem v_X3_statement (σ : KM) (h : (0 ≤ tAt (mT σ) ∧ tAt (mT σ) ≤ 96 ∧ tTaped (mT σ) ≤ 96) ∧ vp_in (tStm (mT σ)) 48) : vc_X3_statement σ (fun r u => (r = ((stmT (mT σ)).1) ∧ u = (((mS σ), ((stmT (mT σ)).2), (mK σ), (mF σ), (mRow σ), (mRowMany σ), (mLots σ), (mRefused σ))))) := by
  obtain ⟨hA, hs⟩ := h
  have hA : PAt (mT σ) := hA
  unfold vc_X3_statement
  refine ⟨⟨hA.1, hA.2.2⟩, ?_⟩
  refine ⟨fun c => ?_, fun n1 => ⟨fun c => ?_, fun n2 => ⟨fun c => ?_, fun n3 => ⟨fun c => ?_, fun n4 => ⟨fun c => ?_, fun n5 => ⟨fun c => ?_, fun n6 => ?_⟩⟩⟩⟩⟩⟩
  iterate 6 (
    · have hb : isHeadB (nxt (mT σ) (tAt (mT σ))) = true := by rw [c]; decide
      have hT := tH_pa hA hb
      refine ⟨hs, hs, ⟨hT, three_48 hs⟩, ?_⟩
      intro u e; subst e
      have g := rdAll_g hT (nxt (mT σ) (tAt (mT σ))) (3 * tStm (mT σ))
      have hU := g.pa hT
      exact ⟨fun d => pq (stm_0 hb d), fun d => ⟨⟨hU.1, hU.2.2⟩, fun d2 => pq (stm_1 hb d d2), fun d2 => pq (stm_2 hb d d2)⟩⟩)
  refine pq (stm_n ?_)
  unfold isHeadB
  simp [n1, n2, n3, n4, n5, n6]
set_option maxRecDepth 20000 in
set_option maxHeartbeats 2000000 in
theorem v_X3_comesQuestion (σ : KM) (p0 : Int32) (h : okS (mS σ) ∧ 0 ≤ p0 ∧ p0 ≤ 141) : vc_X3_comesQuestion σ p0 (fun r u => (r = (b2i (cqB (mT σ) (mS σ) p0)) ∧ u = (((if cqB (mT σ) (mS σ) p0 = true then addQ (mS σ) (tTold (mT σ) p0.toNatClampNeg) (tTold (mT σ) (p0 + 1).toNatClampNeg) (tTold (mT σ) (p0 + 2).toNatClampNeg) else mS σ), (mT σ), (mK σ), (mF σ), (mRow σ), (mRowMany σ), (mLots σ), (mRefused σ))))) := by
  obtain ⟨hS, hp⟩ := h
  obtain ⟨v0, v1, v2⟩ := pk_144 hp
  have hn : ¬ sNq (mS σ) = 8 → vp_in (sNq (mS σ)) 8 := fun c => vin_lt (N := 8) (by decide) hS.2.2.1.1 (Int32.lt_of_le_of_ne hS.2.2.1.2 c)
  clear hS hp
  obtain ⟨S, T, K, F, row, rm, lots, ref⟩ := σ
  unfold vc_X3_comesQuestion cqB addQ sSetQ
  grind (splits := 30) [b2i]
set_option maxRecDepth 20000 in
set_option maxHeartbeats 2000000 in
theorem v_X3_comesWitness (σ : KM) (p0 : Int32) (h : okS (mS σ) ∧ 0 ≤ p0 ∧ p0 ≤ 141) : vc_X3_comesWitness σ p0 (fun r u => (r = (b2i (cwB (mT σ) (mS σ) p0)) ∧ u = (((if cwB (mT σ) (mS σ) p0 = true then addW (mS σ) (tTold (mT σ) p0.toNatClampNeg) (tTold (mT σ) (p0 + 1).toNatClampNeg) (tTold (mT σ) (p0 + 2).toNatClampNeg) else mS σ), (mT σ), (mK σ), (mF σ), (mRow σ), (mRowMany σ), (mLots σ), (mRefused σ))))) := by
  obtain ⟨hS, hp⟩ := h
  obtain ⟨v0, v1, v2⟩ := pk_144 hp
  have hn : ¬ sNw (mS σ) = 5 → vp_in (sNw (mS σ)) 5 := fun c => vin_lt (N := 5) (by decide) hS.2.2.2.1.1 (Int32.lt_of_le_of_ne hS.2.2.2.1.2 c)
  clear hS hp
  obtain ⟨S, T, K, F, row, rm, lots, ref⟩ := σ
  unfold vc_X3_comesWitness cwB addW sSetW
  grind (splits := 30) [b2i]
set_option maxRecDepth 20000 in
set_option maxHeartbeats 2000000 in
theorem v_X3_comesAsking (σ : KM) (p0 : Int32) (p1 : Int32) (h : okS (mS σ) ∧ sAsked (mS σ) < 5000) : vc_X3_comesAsking σ p0 p1 (fun r u => (r = (b2i (caB (mS σ) p0 p1)) ∧ u = (((if caB (mS σ) p0 p1 = true then askS (mS σ) p0 p1 else mS σ), (mT σ), (mK σ), (mF σ), (mRow σ), (mRowMany σ), (mLots σ), (mRefused σ))))) := by
  have hw := @isW_in (mS σ) p0
  have hq := @isQ_in (mS σ) p1
  obtain ⟨S, T, K, F, row, rm, lots, ref⟩ := σ
  unfold vc_X3_comesAsking caB
  grind (splits := 30) [b2i]
set_option maxRecDepth 20000 in
set_option maxHeartbeats 2000000 in
theorem v_X3_comes (σ : KM) (p0 : Int32) (h : okS (mS σ) ∧ sAsked (mS σ) < 5000 ∧ 0 ≤ p0 ∧ p0 < 48) : vc_X3_comes σ p0 (fun r u => (r = ((comesI (mT σ) (mS σ) p0).1) ∧ u = ((((comesI (mT σ) (mS σ) p0).2), (mT σ), (mK σ), (mF σ), (mRow σ), (mRowMany σ), (mLots σ), (mRefused σ))))) := by
  obtain ⟨hS, ha, h0, h48⟩ := h
  have hp : vp_in p0 48 := vin_lt (N := 48) (by decide) h0 h48
  have h3 := three_48 hp
  obtain ⟨v0, v1, v2⟩ := pk_144 h3
  have hw : ¬ isWitnessI (mS σ) (tTold (mT σ) (3 * p0).toNatClampNeg) = 0 → vp_in (tTold (mT σ) (3 * p0).toNatClampNeg) 5 := fun c => inW_vin hS (isW_in c)
  have hn := b2i_nar
  unfold vc_X3_comes
  refine ⟨hp, fun c => ⟨v0, v1, ⟨hS, ha⟩, hn _, ?_⟩, fun n1 => ⟨fun c => ⟨v0, fun d => ⟨v0, ?_⟩, fun d => ?_⟩, fun n2 => ⟨fun c => ⟨v0, fun d => ?_, fun d => ⟨v1, fun d2 => ⟨v0, hw d, v1, hw d, ?_⟩, fun d2 => ?_⟩⟩, fun n3 => ⟨fun c => ⟨⟨hS, h3⟩, hn _, ?_⟩, fun n4 => ⟨fun c => ⟨⟨hS, h3⟩, hn _, ?_⟩, fun n5 => ?_⟩⟩⟩⟩⟩
  · have e : comesI (mT σ) (mS σ) p0 = (if caB (mS σ) (tTold (mT σ) (3 * p0).toNatClampNeg) (tTold (mT σ) (3 * p0 + 1).toNatClampNeg) then (1, askS (mS σ) (tTold (mT σ) (3 * p0).toNatClampNeg) (tTold (mT σ) (3 * p0 + 1).toNatClampNeg)) else (0, mS σ)) := by
      simp only [comesI, c]; rfl
    rw [e]
    by_cases z : caB (mS σ) (tTold (mT σ) (3 * p0).toNatClampNeg) (tTold (mT σ) (3 * p0 + 1).toNatClampNeg) = true
    · simp only [z]; exact ⟨rfl, rfl⟩
    · simp only [z]; exact ⟨rfl, rfl⟩
  · have e : comesI (mT σ) (mS σ) p0 = (1, sSetCase (mS σ) (sCase (mS σ) ^^^ (1 <<< (tTold (mT σ) (3 * p0).toNatClampNeg &&& 31)))) := by
      simp only [comesI, c, d]; rfl
    rw [e]; exact ⟨rfl, rfl⟩
  · have e : comesI (mT σ) (mS σ) p0 = (0, mS σ) := by
      simp only [comesI, c, d]; rfl
    rw [e]; exact ⟨rfl, rfl⟩
  · have e : comesI (mT σ) (mS σ) p0 = (0, mS σ) := by
      simp only [comesI, c, d]; rfl
    rw [e]; exact ⟨rfl, rfl⟩
  · have e : comesI (mT σ) (mS σ) p0 = (1, sSetKnows (mS σ) (upd (sKnows (mS σ)) (tTold (mT σ) (3 * p0).toNatClampNeg).toNatClampNeg (sKnows (mS σ) (tTold (mT σ) (3 * p0).toNatClampNeg).toNatClampNeg ^^^ (1 <<< (tTold (mT σ) (3 * p0 + 1).toNatClampNeg &&& 31))))) := by
      simp only [comesI, c, d, d2]; rfl
    rw [e]; exact ⟨rfl, rfl⟩
  · have e : comesI (mT σ) (mS σ) p0 = (0, mS σ) := by
      simp only [comesI, c, d, d2]; simp
    rw [e]; exact ⟨rfl, rfl⟩
  · have e : comesI (mT σ) (mS σ) p0 = (if cqB (mT σ) (mS σ) (3 * p0) then (1, addQ (mS σ) (tTold (mT σ) (3 * p0).toNatClampNeg) (tTold (mT σ) (3 * p0 + 1).toNatClampNeg) (tTold (mT σ) (3 * p0 + 2).toNatClampNeg)) else (0, mS σ)) := by
      simp only [comesI, c]; rfl
    rw [e]
    by_cases z : cqB (mT σ) (mS σ) (3 * p0) = true
    · simp only [z]; exact ⟨rfl, rfl⟩
    · simp only [z]; exact ⟨rfl, rfl⟩
  · have e : comesI (mT σ) (mS σ) p0 = (if cwB (mT σ) (mS σ) (3 * p0) then (1, addW (mS σ) (tTold (mT σ) (3 * p0).toNatClampNeg) (tTold (mT σ) (3 * p0 + 1).toNatClampNeg) (tTold (mT σ) (3 * p0 + 2).toNatClampNeg)) else (0, mS σ)) := by
      simp only [comesI, c]; rfl
    rw [e]
    by_cases z : cwB (mT σ) (mS σ) (3 * p0) = true
    · simp only [z]; exact ⟨rfl, rfl⟩
    · simp only [z]; exact ⟨rfl, rfl⟩
  · have e : comesI (mT σ) (mS σ) p0 = (1, sSetNh (mS σ) 0) := by
      simp only [comesI]; rw [if_neg n2, if_neg n4, if_neg n5, if_neg n3, if_neg n1]
    rw [e]; exact ⟨rfl, rfl⟩
set_option maxRecDepth 20000 in
set_option maxHeartbeats 2000000 in
theorem v_X3_passes_2 (σ : KM) (h : 0 ≤ kCur (mK σ) ∧ kCur (mK σ) ≤ 276 - 8) : vc_X3_passes_2 σ (fun u => u = ((((sCase (mS σ)), (sAsked (mS σ)), (sNq (mS σ)), (sNw (mS σ)), (sNh (mS σ)), (if kKeep (mK σ) = 0 then loadA (kKept (mK σ)) (kCur (mK σ)) 8 (sForm (mS σ)) else (sForm (mS σ))), (sFirst (mS σ)), (sSecond (mS σ)), (sKind (mS σ)), (sFigure (mS σ)), (sKnows (mS σ)), (sWhom (mS σ)), (sWhat (mS σ)), (sSaid (mS σ)), (sWhen (mS σ))), (mT σ), ((if kKeep (mK σ) = 0 then kKept (mK σ) else saveA (kKept (mK σ)) (kCur (mK σ)) 8 (sForm (mS σ))), (kHas (mK σ)), (kKeep (mK σ)), (kCur (mK σ) + 8)), (mF σ), (mRow σ), (mRowMany σ), (mLots σ), (mRefused σ)))) := by
  obtain ⟨c, hc, ec⟩ := nI_up (M := 276 - 8) (n := 268) (by decide) h
  unfold vc_X3_passes_2
  intro T hT
  rw [ec]
  refine pass_loop (n := 8) (c := c) (by decide) (by omega) (kKeep (mK σ)) (kKept (mK σ)) (sForm (mS σ)) T (fun k => ?_) (fun k => ?_) (fun k j hj kp s ih => ?_) (fun k j hj kp s ih => ?_)
  · refine hT _ _ _ _ ⟨fun _ => ?_, fun c => absurd (by decide) c⟩
    rw [if_pos k, if_pos k, show (8 : Int32) = nI 8 from rfl, nI_add]
  · refine hT _ _ _ _ ⟨fun _ => ?_, fun c => absurd (by decide) c⟩
    rw [if_neg k, if_neg k, show (8 : Int32) = nI 8 from rfl, nI_add]
  · refine hT _ _ _ _ ⟨fun z => absurd z (nle_nI (N := 8) (n := 8) (by decide) (by decide) hj), fun _ => ⟨fun _ => ⟨vin (by omega), vin hj, ?_⟩, fun z => absurd k z⟩⟩
    rw [nI_clamp (by omega), nI_clamp (by omega), nI_1, nI_1]; exact ih
  · refine hT _ _ _ _ ⟨fun z => absurd z (nle_nI (N := 8) (n := 8) (by decide) (by decide) hj), fun _ => ⟨fun z => absurd z k, fun _ => ⟨vin hj, vin (by omega), ?_⟩⟩⟩
    rw [nI_clamp (by omega), nI_clamp (by omega), nI_1, nI_1]; exact ih
set_option maxRecDepth 20000 in
set_option maxHeartbeats 2000000 in
theorem v_X3_passes_3 (σ : KM) (h : 0 ≤ kCur (mK σ) ∧ kCur (mK σ) ≤ 276 - 8) : vc_X3_passes_3 σ (fun u => u = ((((sCase (mS σ)), (sAsked (mS σ)), (sNq (mS σ)), (sNw (mS σ)), (sNh (mS σ)), (sForm (mS σ)), (if kKeep (mK σ) = 0 then loadA (kKept (mK σ)) (kCur (mK σ)) 8 (sFirst (mS σ)) else (sFirst (mS σ))), (sSecond (mS σ)), (sKind (mS σ)), (sFigure (mS σ)), (sKnows (mS σ)), (sWhom (mS σ)), (sWhat (mS σ)), (sSaid (mS σ)), (sWhen (mS σ))), (mT σ), ((if kKeep (mK σ) = 0 then kKept (mK σ) else saveA (kKept (mK σ)) (kCur (mK σ)) 8 (sFirst (mS σ))), (kHas (mK σ)), (kKeep (mK σ)), (kCur (mK σ) + 8)), (mF σ), (mRow σ), (mRowMany σ), (mLots σ), (mRefused σ)))) := by
  obtain ⟨c, hc, ec⟩ := nI_up (M := 276 - 8) (n := 268) (by decide) h
  unfold vc_X3_passes_3
  intro T hT
  rw [ec]
  refine pass_loop (n := 8) (c := c) (by decide) (by omega) (kKeep (mK σ)) (kKept (mK σ)) (sFirst (mS σ)) T (fun k => ?_) (fun k => ?_) (fun k j hj kp s ih => ?_) (fun k j hj kp s ih => ?_)
  · refine hT _ _ _ _ ⟨fun _ => ?_, fun c => absurd (by decide) c⟩
    rw [if_pos k, if_pos k, show (8 : Int32) = nI 8 from rfl, nI_add]
  · refine hT _ _ _ _ ⟨fun _ => ?_, fun c => absurd (by decide) c⟩
    rw [if_neg k, if_neg k, show (8 : Int32) = nI 8 from rfl, nI_add]
  · refine hT _ _ _ _ ⟨fun z => absurd z (nle_nI (N := 8) (n := 8) (by decide) (by decide) hj), fun _ => ⟨fun _ => ⟨vin (by omega), vin hj, ?_⟩, fun z => absurd k z⟩⟩
    rw [nI_clamp (by omega), nI_clamp (by omega), nI_1, nI_1]; exact ih
  · refine hT _ _ _ _ ⟨fun z => absurd z (nle_nI (N := 8) (n := 8) (by decide) (by decide) hj), fun _ => ⟨fun z => absurd z k, fun _ => ⟨vin hj, vin (by omega), ?_⟩⟩⟩
    rw [nI_clamp (by omega), nI_clamp (by omega), nI_1, nI_1]; exact ih
set_option maxRecDepth 20000 in
set_option maxHeartbeats 2000000 in
theorem v_X3_passes_4 (σ : KM) (h : 0 ≤ kCur (mK σ) ∧ kCur (mK σ) ≤ 276 - 8) : vc_X3_passes_4 σ (fun u => u = ((((sCase (mS σ)), (sAsked (mS σ)), (sNq (mS σ)), (sNw (mS σ)), (sNh (mS σ)), (sForm (mS σ)), (sFirst (mS σ)), (if kKeep (mK σ) = 0 then loadA (kKept (mK σ)) (kCur (mK σ)) 8 (sSecond (mS σ)) else (sSecond (mS σ))), (sKind (mS σ)), (sFigure (mS σ)), (sKnows (mS σ)), (sWhom (mS σ)), (sWhat (mS σ)), (sSaid (mS σ)), (sWhen (mS σ))), (mT σ), ((if kKeep (mK σ) = 0 then kKept (mK σ) else saveA (kKept (mK σ)) (kCur (mK σ)) 8 (sSecond (mS σ))), (kHas (mK σ)), (kKeep (mK σ)), (kCur (mK σ) + 8)), (mF σ), (mRow σ), (mRowMany σ), (mLots σ), (mRefused σ)))) := by
  obtain ⟨c, hc, ec⟩ := nI_up (M := 276 - 8) (n := 268) (by decide) h
  unfold vc_X3_passes_4
  intro T hT
  rw [ec]
  refine pass_loop (n := 8) (c := c) (by decide) (by omega) (kKeep (mK σ)) (kKept (mK σ)) (sSecond (mS σ)) T (fun k => ?_) (fun k => ?_) (fun k j hj kp s ih => ?_) (fun k j hj kp s ih => ?_)
  · refine hT _ _ _ _ ⟨fun _ => ?_, fun c => absurd (by decide) c⟩
    rw [if_pos k, if_pos k, show (8 : Int32) = nI 8 from rfl, nI_add]
  · refine hT _ _ _ _ ⟨fun _ => ?_, fun c => absurd (by decide) c⟩
    rw [if_neg k, if_neg k, show (8 : Int32) = nI 8 from rfl, nI_add]
  · refine hT _ _ _ _ ⟨fun z => absurd z (nle_nI (N := 8) (n := 8) (by decide) (by decide) hj), fun _ => ⟨fun _ => ⟨vin (by omega), vin hj, ?_⟩, fun z => absurd k z⟩⟩
    rw [nI_clamp (by omega), nI_clamp (by omega), nI_1, nI_1]; exact ih
  · refine hT _ _ _ _ ⟨fun z => absurd z (nle_nI (N := 8) (n := 8) (by decide) (by decide) hj), fun _ => ⟨fun z => absurd z k, fun _ => ⟨vin hj, vin (by omega), ?_⟩⟩⟩
    rw [nI_clamp (by omega), nI_clamp (by omega), nI_1, nI_1]; exact ih
set_option maxRecDepth 20000 in
set_option maxHeartbeats 2000000 in
theorem v_X3_passes_5 (σ : KM) (h : 0 ≤ kCur (mK σ) ∧ kCur (mK σ) ≤ 276 - 5) : vc_X3_passes_5 σ (fun u => u = ((((sCase (mS σ)), (sAsked (mS σ)), (sNq (mS σ)), (sNw (mS σ)), (sNh (mS σ)), (sForm (mS σ)), (sFirst (mS σ)), (sSecond (mS σ)), (if kKeep (mK σ) = 0 then loadA (kKept (mK σ)) (kCur (mK σ)) 5 (sKind (mS σ)) else (sKind (mS σ))), (sFigure (mS σ)), (sKnows (mS σ)), (sWhom (mS σ)), (sWhat (mS σ)), (sSaid (mS σ)), (sWhen (mS σ))), (mT σ), ((if kKeep (mK σ) = 0 then kKept (mK σ) else saveA (kKept (mK σ)) (kCur (mK σ)) 5 (sKind (mS σ))), (kHas (mK σ)), (kKeep (mK σ)), (kCur (mK σ) + 5)), (mF σ), (mRow σ), (mRowMany σ), (mLots σ), (mRefused σ)))) := by
  obtain ⟨c, hc, ec⟩ := nI_up (M := 276 - 5) (n := 271) (by decide) h
  unfold vc_X3_passes_5
  intro T hT
  rw [ec]
  refine pass_loop (n := 5) (c := c) (by decide) (by omega) (kKeep (mK σ)) (kKept (mK σ)) (sKind (mS σ)) T (fun k => ?_) (fun k => ?_) (fun k j hj kp s ih => ?_) (fun k j hj kp s ih => ?_)
  · refine hT _ _ _ _ ⟨fun _ => ?_, fun c => absurd (by decide) c⟩
    rw [if_pos k, if_pos k, show (5 : Int32) = nI 5 from rfl, nI_add]
  · refine hT _ _ _ _ ⟨fun _ => ?_, fun c => absurd (by decide) c⟩
    rw [if_neg k, if_neg k, show (5 : Int32) = nI 5 from rfl, nI_add]
  · refine hT _ _ _ _ ⟨fun z => absurd z (nle_nI (N := 5) (n := 5) (by decide) (by decide) hj), fun _ => ⟨fun _ => ⟨vin (by omega), vin hj, ?_⟩, fun z => absurd k z⟩⟩
    rw [nI_clamp (by omega), nI_clamp (by omega), nI_1, nI_1]; exact ih
  · refine hT _ _ _ _ ⟨fun z => absurd z (nle_nI (N := 5) (n := 5) (by decide) (by decide) hj), fun _ => ⟨fun z => absurd z k, fun _ => ⟨vin hj, vin (by omega), ?_⟩⟩⟩
    rw [nI_clamp (by omega), nI_clamp (by omega), nI_1, nI_1]; exact ih
set_option maxRecDepth 20000 in
set_option maxHeartbeats 2000000 in
theorem v_X3_passes_6 (σ : KM) (h : 0 ≤ kCur (mK σ) ∧ kCur (mK σ) ≤ 276 - 5) : vc_X3_passes_6 σ (fun u => u = ((((sCase (mS σ)), (sAsked (mS σ)), (sNq (mS σ)), (sNw (mS σ)), (sNh (mS σ)), (sForm (mS σ)), (sFirst (mS σ)), (sSecond (mS σ)), (sKind (mS σ)), (if kKeep (mK σ) = 0 then loadA (kKept (mK σ)) (kCur (mK σ)) 5 (sFigure (mS σ)) else (sFigure (mS σ))), (sKnows (mS σ)), (sWhom (mS σ)), (sWhat (mS σ)), (sSaid (mS σ)), (sWhen (mS σ))), (mT σ), ((if kKeep (mK σ) = 0 then kKept (mK σ) else saveA (kKept (mK σ)) (kCur (mK σ)) 5 (sFigure (mS σ))), (kHas (mK σ)), (kKeep (mK σ)), (kCur (mK σ) + 5)), (mF σ), (mRow σ), (mRowMany σ), (mLots σ), (mRefused σ)))) := by
  obtain ⟨c, hc, ec⟩ := nI_up (M := 276 - 5) (n := 271) (by decide) h
  unfold vc_X3_passes_6
  intro T hT
  rw [ec]
  refine pass_loop (n := 5) (c := c) (by decide) (by omega) (kKeep (mK σ)) (kKept (mK σ)) (sFigure (mS σ)) T (fun k => ?_) (fun k => ?_) (fun k j hj kp s ih => ?_) (fun k j hj kp s ih => ?_)
  · refine hT _ _ _ _ ⟨fun _ => ?_, fun c => absurd (by decide) c⟩
    rw [if_pos k, if_pos k, show (5 : Int32) = nI 5 from rfl, nI_add]
  · refine hT _ _ _ _ ⟨fun _ => ?_, fun c => absurd (by decide) c⟩
    rw [if_neg k, if_neg k, show (5 : Int32) = nI 5 from rfl, nI_add]
  · refine hT _ _ _ _ ⟨fun z => absurd z (nle_nI (N := 5) (n := 5) (by decide) (by decide) hj), fun _ => ⟨fun _ => ⟨vin (by omega), vin hj, ?_⟩, fun z => absurd k z⟩⟩
    rw [nI_clamp (by omega), nI_clamp (by omega), nI_1, nI_1]; exact ih
  · refine hT _ _ _ _ ⟨fun z => absurd z (nle_nI (N := 5) (n := 5) (by decide) (by decide) hj), fun _ => ⟨fun z => absurd z k, fun _ => ⟨vin hj, vin (by omega), ?_⟩⟩⟩
    rw [nI_clamp (by omega), nI_clamp (by omega), nI_1, nI_1]; exact ih
set_option maxRecDepth 20000 in
set_option maxHeartbeats 2000000 in
theorem v_X3_passes_7 (σ : KM) (h : 0 ≤ kCur (mK σ) ∧ kCur (mK σ) ≤ 276 - 5) : vc_X3_passes_7 σ (fun u => u = ((((sCase (mS σ)), (sAsked (mS σ)), (sNq (mS σ)), (sNw (mS σ)), (sNh (mS σ)), (sForm (mS σ)), (sFirst (mS σ)), (sSecond (mS σ)), (sKind (mS σ)), (sFigure (mS σ)), (if kKeep (mK σ) = 0 then loadA (kKept (mK σ)) (kCur (mK σ)) 5 (sKnows (mS σ)) else (sKnows (mS σ))), (sWhom (mS σ)), (sWhat (mS σ)), (sSaid (mS σ)), (sWhen (mS σ))), (mT σ), ((if kKeep (mK σ) = 0 then kKept (mK σ) else saveA (kKept (mK σ)) (kCur (mK σ)) 5 (sKnows (mS σ))), (kHas (mK σ)), (kKeep (mK σ)), (kCur (mK σ) + 5)), (mF σ), (mRow σ), (mRowMany σ), (mLots σ), (mRefused σ)))) := by
  obtain ⟨c, hc, ec⟩ := nI_up (M := 276 - 5) (n := 271) (by decide) h
  unfold vc_X3_passes_7
  intro T hT
  rw [ec]
  refine pass_loop (n := 5) (c := c) (by decide) (by omega) (kKeep (mK σ)) (kKept (mK σ)) (sKnows (mS σ)) T (fun k => ?_) (fun k => ?_) (fun k j hj kp s ih => ?_) (fun k j hj kp s ih => ?_)
  · refine hT _ _ _ _ ⟨fun _ => ?_, fun c => absurd (by decide) c⟩
    rw [if_pos k, if_pos k, show (5 : Int32) = nI 5 from rfl, nI_add]
  · refine hT _ _ _ _ ⟨fun _ => ?_, fun c => absurd (by decide) c⟩
    rw [if_neg k, if_neg k, show (5 : Int32) = nI 5 from rfl, nI_add]
  · refine hT _ _ _ _ ⟨fun z => absurd z (nle_nI (N := 5) (n := 5) (by decide) (by decide) hj), fun _ => ⟨fun _ => ⟨vin (by omega), vin hj, ?_⟩, fun z => absurd k z⟩⟩
    rw [nI_clamp (by omega), nI_clamp (by omega), nI_1, nI_1]; exact ih
  · refine hT _ _ _ _ ⟨fun z => absurd z (nle_nI (N := 5) (n := 5) (by decide) (by decide) hj), fun _ => ⟨fun z => absurd z k, fun _ => ⟨vin hj, vin (by omega), ?_⟩⟩⟩
    rw [nI_clamp (by omega), nI_clamp (by omega), nI_1, nI_1]; exact ih
set_option maxRecDepth 20000 in
set_option maxHeartbeats 2000000 in
theorem v_X3_passes_8 (σ : KM) (h : 0 ≤ kCur (mK σ) ∧ kCur (mK σ) ≤ 276 - 12) : vc_X3_passes_8 σ (fun u => u = ((((sCase (mS σ)), (sAsked (mS σ)), (sNq (mS σ)), (sNw (mS σ)), (sNh (mS σ)), (sForm (mS σ)), (sFirst (mS σ)), (sSecond (mS σ)), (sKind (mS σ)), (sFigure (mS σ)), (sKnows (mS σ)), (if kKeep (mK σ) = 0 then loadA (kKept (mK σ)) (kCur (mK σ)) 12 (sWhom (mS σ)) else (sWhom (mS σ))), (sWhat (mS σ)), (sSaid (mS σ)), (sWhen (mS σ))), (mT σ), ((if kKeep (mK σ) = 0 then kKept (mK σ) else saveA (kKept (mK σ)) (kCur (mK σ)) 12 (sWhom (mS σ))), (kHas (mK σ)), (kKeep (mK σ)), (kCur (mK σ) + 12)), (mF σ), (mRow σ), (mRowMany σ), (mLots σ), (mRefused σ)))) := by
  obtain ⟨c, hc, ec⟩ := nI_up (M := 276 - 12) (n := 264) (by decide) h
  unfold vc_X3_passes_8
  intro T hT
  rw [ec]
  refine pass_loop (n := 12) (c := c) (by decide) (by omega) (kKeep (mK σ)) (kKept (mK σ)) (sWhom (mS σ)) T (fun k => ?_) (fun k => ?_) (fun k j hj kp s ih => ?_) (fun k j hj kp s ih => ?_)
  · refine hT _ _ _ _ ⟨fun _ => ?_, fun c => absurd (by decide) c⟩
    rw [if_pos k, if_pos k, show (12 : Int32) = nI 12 from rfl, nI_add]
  · refine hT _ _ _ _ ⟨fun _ => ?_, fun c => absurd (by decide) c⟩
    rw [if_neg k, if_neg k, show (12 : Int32) = nI 12 from rfl, nI_add]
  · refine hT _ _ _ _ ⟨fun z => absurd z (nle_nI (N := 12) (n := 12) (by decide) (by decide) hj), fun _ => ⟨fun _ => ⟨vin (by omega), vin hj, ?_⟩, fun z => absurd k z⟩⟩
    rw [nI_clamp (by omega), nI_clamp (by omega), nI_1, nI_1]; exact ih
  · refine hT _ _ _ _ ⟨fun z => absurd z (nle_nI (N := 12) (n := 12) (by decide) (by decide) hj), fun _ => ⟨fun z => absurd z k, fun _ => ⟨vin hj, vin (by omega), ?_⟩⟩⟩
    rw [nI_clamp (by omega), nI_clamp (by omega), nI_1, nI_1]; exact ih
set_option maxRecDepth 20000 in
set_option maxHeartbeats 2000000 in
theorem v_X3_passes_9 (σ : KM) (h : 0 ≤ kCur (mK σ) ∧ kCur (mK σ) ≤ 276 - 12) : vc_X3_passes_9 σ (fun u => u = ((((sCase (mS σ)), (sAsked (mS σ)), (sNq (mS σ)), (sNw (mS σ)), (sNh (mS σ)), (sForm (mS σ)), (sFirst (mS σ)), (sSecond (mS σ)), (sKind (mS σ)), (sFigure (mS σ)), (sKnows (mS σ)), (sWhom (mS σ)), (if kKeep (mK σ) = 0 then loadA (kKept (mK σ)) (kCur (mK σ)) 12 (sWhat (mS σ)) else (sWhat (mS σ))), (sSaid (mS σ)), (sWhen (mS σ))), (mT σ), ((if kKeep (mK σ) = 0 then kKept (mK σ) else saveA (kKept (mK σ)) (kCur (mK σ)) 12 (sWhat (mS σ))), (kHas (mK σ)), (kKeep (mK σ)), (kCur (mK σ) + 12)), (mF σ), (mRow σ), (mRowMany σ), (mLots σ), (mRefused σ)))) := by
  obtain ⟨c, hc, ec⟩ := nI_up (M := 276 - 12) (n := 264) (by decide) h
  unfold vc_X3_passes_9
  intro T hT
  rw [ec]
  refine pass_loop (n := 12) (c := c) (by decide) (by omega) (kKeep (mK σ)) (kKept (mK σ)) (sWhat (mS σ)) T (fun k => ?_) (fun k => ?_) (fun k j hj kp s ih => ?_) (fun k j hj kp s ih => ?_)
  · refine hT _ _ _ _ ⟨fun _ => ?_, fun c => absurd (by decide) c⟩
    rw [if_pos k, if_pos k, show (12 : Int32) = nI 12 from rfl, nI_add]
  · refine hT _ _ _ _ ⟨fun _ => ?_, fun c => absurd (by decide) c⟩
    rw [if_neg k, if_neg k, show (12 : Int32) = nI 12 from rfl, nI_add]
  · refine hT _ _ _ _ ⟨fun z => absurd z (nle_nI (N := 12) (n := 12) (by decide) (by decide) hj), fun _ => ⟨fun _ => ⟨vin (by omega), vin hj, ?_⟩, fun z => absurd k z⟩⟩
    rw [nI_clamp (by omega), nI_clamp (by omega), nI_1, nI_1]; exact ih
  · refine hT _ _ _ _ ⟨fun z => absurd z (nle_nI (N := 12) (n := 12) (by decide) (by decide) hj), fun _ => ⟨fun z => absurd z k, fun _ => ⟨vin hj, vin (by omega), ?_⟩⟩⟩
    rw [nI_clamp (by omega), nI_clamp (by omega), nI_1, nI_1]; exact ih
set_option maxRecDepth 20000 in
set_option maxHeartbeats 2000000 in
theorem v_X3_passes_10 (σ : KM) (h : 0 ≤ kCur (mK σ) ∧ kCur (mK σ) ≤ 276 - 12) : vc_X3_passes_10 σ (fun u => u = ((((sCase (mS σ)), (sAsked (mS σ)), (sNq (mS σ)), (sNw (mS σ)), (sNh (mS σ)), (sForm (mS σ)), (sFirst (mS σ)), (sSecond (mS σ)), (sKind (mS σ)), (sFigure (mS σ)), (sKnows (mS σ)), (sWhom (mS σ)), (sWhat (mS σ)), (if kKeep (mK σ) = 0 then loadA (kKept (mK σ)) (kCur (mK σ)) 12 (sSaid (mS σ)) else (sSaid (mS σ))), (sWhen (mS σ))), (mT σ), ((if kKeep (mK σ) = 0 then kKept (mK σ) else saveA (kKept (mK σ)) (kCur (mK σ)) 12 (sSaid (mS σ))), (kHas (mK σ)), (kKeep (mK σ)), (kCur (mK σ) + 12)), (mF σ), (mRow σ), (mRowMany σ), (mLots σ), (mRefused σ)))) := by
  obtain ⟨c, hc, ec⟩ := nI_up (M := 276 - 12) (n := 264) (by decide) h
  unfold vc_X3_passes_10
  intro T hT
  rw [ec]
  refine pass_loop (n := 12) (c := c) (by decide) (by omega) (kKeep (mK σ)) (kKept (mK σ)) (sSaid (mS σ)) T (fun k => ?_) (fun k => ?_) (fun k j hj kp s ih => ?_) (fun k j hj kp s ih => ?_)
  · refine hT _ _ _ _ ⟨fun _ => ?_, fun c => absurd (by decide) c⟩
    rw [if_pos k, if_pos k, show (12 : Int32) = nI 12 from rfl, nI_add]
  · refine hT _ _ _ _ ⟨fun _ => ?_, fun c => absurd (by decide) c⟩
    rw [if_neg k, if_neg k, show (12 : Int32) = nI 12 from rfl, nI_add]
  · refine hT _ _ _ _ ⟨fun z => absurd z (nle_nI (N := 12) (n := 12) (by decide) (by decide) hj), fun _ => ⟨fun _ => ⟨vin (by omega), vin hj, ?_⟩, fun z => absurd k z⟩⟩
    rw [nI_clamp (by omega), nI_clamp (by omega), nI_1, nI_1]; exact ih
  · refine hT _ _ _ _ ⟨fun z => absurd z (nle_nI (N := 12) (n := 12) (by decide) (by decide) hj), fun _ => ⟨fun z => absurd z k, fun _ => ⟨vin hj, vin (by omega), ?_⟩⟩⟩
    rw [nI_clamp (by omega), nI_clamp (by omega), nI_1, nI_1]; exact ih
set_option maxRecDepth 20000 in
set_option maxHeartbeats 2000000 in
theorem v_X3_passes_11 (σ : KM) (h : 0 ≤ kCur (mK σ) ∧ kCur (mK σ) ≤ 276 - 12) : vc_X3_passes_11 σ (fun u => u = ((((sCase (mS σ)), (sAsked (mS σ)), (sNq (mS σ)), (sNw (mS σ)), (sNh (mS σ)), (sForm (mS σ)), (sFirst (mS σ)), (sSecond (mS σ)), (sKind (mS σ)), (sFigure (mS σ)), (sKnows (mS σ)), (sWhom (mS σ)), (sWhat (mS σ)), (sSaid (mS σ)), (if kKeep (mK σ) = 0 then loadA (kKept (mK σ)) (kCur (mK σ)) 12 (sWhen (mS σ)) else (sWhen (mS σ)))), (mT σ), ((if kKeep (mK σ) = 0 then kKept (mK σ) else saveA (kKept (mK σ)) (kCur (mK σ)) 12 (sWhen (mS σ))), (kHas (mK σ)), (kKeep (mK σ)), (kCur (mK σ) + 12)), (mF σ), (mRow σ), (mRowMany σ), (mLots σ), (mRefused σ)))) := by
  obtain ⟨c, hc, ec⟩ := nI_up (M := 276 - 12) (n := 264) (by decide) h
  unfold vc_X3_passes_11
  intro T hT
  rw [ec]
  refine pass_loop (n := 12) (c := c) (by decide) (by omega) (kKeep (mK σ)) (kKept (mK σ)) (sWhen (mS σ)) T (fun k => ?_) (fun k => ?_) (fun k j hj kp s ih => ?_) (fun k j hj kp s ih => ?_)
  · refine hT _ _ _ _ ⟨fun _ => ?_, fun c => absurd (by decide) c⟩
    rw [if_pos k, if_pos k, show (12 : Int32) = nI 12 from rfl, nI_add]
  · refine hT _ _ _ _ ⟨fun _ => ?_, fun c => absurd (by decide) c⟩
    rw [if_neg k, if_neg k, show (12 : Int32) = nI 12 from rfl, nI_add]
  · refine hT _ _ _ _ ⟨fun z => absurd z (nle_nI (N := 12) (n := 12) (by decide) (by decide) hj), fun _ => ⟨fun _ => ⟨vin (by omega), vin hj, ?_⟩, fun z => absurd k z⟩⟩
    rw [nI_clamp (by omega), nI_clamp (by omega), nI_1, nI_1]; exact ih
  · refine hT _ _ _ _ ⟨fun z => absurd z (nle_nI (N := 12) (n := 12) (by decide) (by decide) hj), fun _ => ⟨fun z => absurd z k, fun _ => ⟨vin hj, vin (by omega), ?_⟩⟩⟩
    rw [nI_clamp (by omega), nI_clamp (by omega), nI_1, nI_1]; exact ih
set_option maxRecDepth 20000 in
set_option maxHeartbeats 2000000 in
theorem v_X3_passOne (σ : KM) (p0 : Int32) (h : 0 ≤ kCur (mK σ) ∧ kCur (mK σ) ≤ 276 - 1) : vc_X3_passOne σ p0 (fun r u => (r = (if kKeep (mK σ) = 0 then kKept (mK σ) (kCur (mK σ)).toNatClampNeg else p0) ∧ u = (((mS σ), (mT σ), ((if kKeep (mK σ) = 0 then kKept (mK σ) else save1 (kKept (mK σ)) (kCur (mK σ)) p0), (kHas (mK σ)), (kKeep (mK σ)), (kCur (mK σ) + 1)), (mF σ), (mRow σ), (mRowMany σ), (mLots σ), (mRefused σ))))) := by
  have hv : vp_in (kCur (mK σ)) 276 := vin_lt (N := 276) (by decide) h.1 (Int32.lt_of_le_of_lt h.2 (by decide))
  unfold vc_X3_passOne save1
  grind (splits := 30)
set_option maxRecDepth 20000 in
set_option maxHeartbeats 2000000 in
theorem v_X3_passesAll (σ : KM) (p0 : Int32) (p1 : Int32) (h : (p0 = 0 ∨ p0 = 1 ∨ p0 = 2) ∧ (p1 = 0 ∨ p1 = 1)) : vc_X3_passesAll σ p0 p1 (fun u => u = (((if p1 = 0 then loadS (kKept (mK σ)) (92 * p0) (mS σ) else mS σ), (mT σ), ((if p1 = 0 then kKept (mK σ) else saveS (kKept (mK σ)) (92 * p0) (mS σ), kHas (mK σ), p1, 92 * p0 + 92)), (mF σ), (mRow σ), (mRowMany σ), (mLots σ), (mRefused σ)))) := by
  obtain ⟨hp, hk⟩ := h
  have i10 : ¬ (1 : Int32) = 0 := by decide
  have b0 : 0 ≤ 92 * p0 ∧ 92 * p0 ≤ 276 - 8 := by rcases hp with e | e | e <;> subst e <;> decide
  have b8 : 0 ≤ 92 * p0 + 8 ∧ 92 * p0 + 8 ≤ 276 - 8 := by rcases hp with e | e | e <;> subst e <;> decide
  have b16 : 0 ≤ 92 * p0 + 16 ∧ 92 * p0 + 16 ≤ 276 - 8 := by rcases hp with e | e | e <;> subst e <;> decide
  have b24 : 0 ≤ 92 * p0 + 24 ∧ 92 * p0 + 24 ≤ 276 - 5 := by rcases hp with e | e | e <;> subst e <;> decide
  have b29 : 0 ≤ 92 * p0 + 29 ∧ 92 * p0 + 29 ≤ 276 - 5 := by rcases hp with e | e | e <;> subst e <;> decide
  have b34 : 0 ≤ 92 * p0 + 34 ∧ 92 * p0 + 34 ≤ 276 - 5 := by rcases hp with e | e | e <;> subst e <;> decide
  have b39 : 0 ≤ 92 * p0 + 39 ∧ 92 * p0 + 39 ≤ 276 - 12 := by rcases hp with e | e | e <;> subst e <;> decide
  have b51 : 0 ≤ 92 * p0 + 51 ∧ 92 * p0 + 51 ≤ 276 - 12 := by rcases hp with e | e | e <;> subst e <;> decide
  have b63 : 0 ≤ 92 * p0 + 63 ∧ 92 * p0 + 63 ≤ 276 - 12 := by rcases hp with e | e | e <;> subst e <;> decide
  have b75 : 0 ≤ 92 * p0 + 75 ∧ 92 * p0 + 75 ≤ 276 - 12 := by rcases hp with e | e | e <;> subst e <;> decide
  have b87 : 0 ≤ 92 * p0 + 87 ∧ 92 * p0 + 87 ≤ 276 - 1 := by rcases hp with e | e | e <;> subst e <;> decide
  have b88 : 0 ≤ 92 * p0 + 88 ∧ 92 * p0 + 88 ≤ 276 - 1 := by rcases hp with e | e | e <;> subst e <;> decide
  have b89 : 0 ≤ 92 * p0 + 89 ∧ 92 * p0 + 89 ≤ 276 - 1 := by rcases hp with e | e | e <;> subst e <;> decide
  have b90 : 0 ≤ 92 * p0 + 90 ∧ 92 * p0 + 90 ≤ 276 - 1 := by rcases hp with e | e | e <;> subst e <;> decide
  have b91 : 0 ≤ 92 * p0 + 91 ∧ 92 * p0 + 91 ≤ 276 - 1 := by rcases hp with e | e | e <;> subst e <;> decide
  have a16 : 92 * p0 + 8 + 8 = 92 * p0 + 16 := by rw [Int32.add_assoc]; rfl
  have a24 : 92 * p0 + 16 + 8 = 92 * p0 + 24 := by rw [Int32.add_assoc]; rfl
  have a29 : 92 * p0 + 24 + 5 = 92 * p0 + 29 := by rw [Int32.add_assoc]; rfl
  have a34 : 92 * p0 + 29 + 5 = 92 * p0 + 34 := by rw [Int32.add_assoc]; rfl
  have a39 : 92 * p0 + 34 + 5 = 92 * p0 + 39 := by rw [Int32.add_assoc]; rfl
  have a51 : 92 * p0 + 39 + 12 = 92 * p0 + 51 := by rw [Int32.add_assoc]; rfl
  have a63 : 92 * p0 + 51 + 12 = 92 * p0 + 63 := by rw [Int32.add_assoc]; rfl
  have a75 : 92 * p0 + 63 + 12 = 92 * p0 + 75 := by rw [Int32.add_assoc]; rfl
  have a87 : 92 * p0 + 75 + 12 = 92 * p0 + 87 := by rw [Int32.add_assoc]; rfl
  have a88 : 92 * p0 + 87 + 1 = 92 * p0 + 88 := by rw [Int32.add_assoc]; rfl
  have a89 : 92 * p0 + 88 + 1 = 92 * p0 + 89 := by rw [Int32.add_assoc]; rfl
  have a90 : 92 * p0 + 89 + 1 = 92 * p0 + 90 := by rw [Int32.add_assoc]; rfl
  have a91 : 92 * p0 + 90 + 1 = 92 * p0 + 91 := by rw [Int32.add_assoc]; rfl
  have a92 : 92 * p0 + 91 + 1 = 92 * p0 + 92 := by rw [Int32.add_assoc]; rfl
  unfold vc_X3_passesAll
  rcases hk with rfl | rfl
  · refine ⟨⟨rfl, rfl⟩, b0, ?_⟩
    intro u e
    simp only [reduceIte] at e
    subst e
    refine ⟨b8, ?_⟩
    intro u e
    simp only [reduceIte] at e
    rw [a16] at e
    subst e
    refine ⟨b16, ?_⟩
    intro u e
    simp only [reduceIte] at e
    rw [a24] at e
    subst e
    refine ⟨b24, ?_⟩
    intro u e
    simp only [reduceIte] at e
    rw [a29] at e
    subst e
    refine ⟨b29, ?_⟩
    intro u e
    simp only [reduceIte] at e
    rw [a34] at e
    subst e
    refine ⟨b34, ?_⟩
    intro u e
    simp only [reduceIte] at e
    rw [a39] at e
    subst e
    refine ⟨b39, ?_⟩
    intro u e
    simp only [reduceIte] at e
    rw [a51] at e
    subst e
    refine ⟨b51, ?_⟩
    intro u e
    simp only [reduceIte] at e
    rw [a63] at e
    subst e
    refine ⟨b63, ?_⟩
    intro u e
    simp only [reduceIte] at e
    rw [a75] at e
    subst e
    refine ⟨b75, ?_⟩
    intro u e
    simp only [reduceIte] at e
    rw [a87] at e
    subst e
    refine ⟨b87, ?_⟩
    intro u e
    simp only [reduceIte] at e
    rw [a88] at e
    subst e
    refine ⟨b88, ?_⟩
    intro u e
    simp only [reduceIte] at e
    rw [a89] at e
    subst e
    refine ⟨b89, ?_⟩
    intro u e
    simp only [reduceIte] at e
    rw [a90] at e
    subst e
    refine ⟨b90, ?_⟩
    intro u e
    simp only [reduceIte] at e
    rw [a91] at e
    subst e
    refine ⟨b91, ?_⟩
    intro u e
    simp only [reduceIte] at e
    rw [a92] at e
    subst e
    rfl
  · refine ⟨⟨rfl, rfl⟩, b0, ?_⟩
    intro u e
    simp only [reduceIte, i10] at e
    subst e
    refine ⟨b8, ?_⟩
    intro u e
    simp only [reduceIte, i10] at e
    rw [a16] at e
    subst e
    refine ⟨b16, ?_⟩
    intro u e
    simp only [reduceIte, i10] at e
    rw [a24] at e
    subst e
    refine ⟨b24, ?_⟩
    intro u e
    simp only [reduceIte, i10] at e
    rw [a29] at e
    subst e
    refine ⟨b29, ?_⟩
    intro u e
    simp only [reduceIte, i10] at e
    rw [a34] at e
    subst e
    refine ⟨b34, ?_⟩
    intro u e
    simp only [reduceIte, i10] at e
    rw [a39] at e
    subst e
    refine ⟨b39, ?_⟩
    intro u e
    simp only [reduceIte, i10] at e
    rw [a51] at e
    subst e
    refine ⟨b51, ?_⟩
    intro u e
    simp only [reduceIte, i10] at e
    rw [a63] at e
    subst e
    refine ⟨b63, ?_⟩
    intro u e
    simp only [reduceIte, i10] at e
    rw [a75] at e
    subst e
    refine ⟨b75, ?_⟩
    intro u e
    simp only [reduceIte, i10] at e
    rw [a87] at e
    subst e
    refine ⟨b87, ?_⟩
    intro u e
    simp only [reduceIte, i10] at e
    rw [a88] at e
    subst e
    refine ⟨b88, ?_⟩
    intro u e
    simp only [reduceIte, i10] at e
    rw [a89] at e
    subst e
    refine ⟨b89, ?_⟩
    intro u e
    simp only [reduceIte, i10] at e
    rw [a90] at e
    subst e
    refine ⟨b90, ?_⟩
    intro u e
    simp only [reduceIte, i10] at e
    rw [a91] at e
    subst e
    refine ⟨b91, ?_⟩
    intro u e
    simp only [reduceIte, i10] at e
    rw [a92] at e
    subst e
    rfl
set_option maxRecDepth 20000 in
set_option maxHeartbeats 2000000 in
theorem v_X3_image (σ : KM) : vc_X3_image σ (fun r u => (r = (sAsked (mS σ)) ∧ u = (((mS σ), (mT σ), ((saveS (kKept (mK σ)) 0 (mS σ), 1, 1, 92)), (mF σ), (mRow σ), (mRowMany σ), (mLots σ), (mRefused σ))))) := by
  have e0 : (92 : Int32) * 0 = 0 := by decide
  have e1 : (0 : Int32) + 92 = 92 := by decide
  have i10 : ¬ (1 : Int32) = 0 := by decide
  unfold vc_X3_image
  rw [e0, e1, if_neg i10, if_neg i10]
  exact ⟨⟨Or.inl rfl, Or.inr rfl⟩, rfl, rfl⟩
set_option maxRecDepth 20000 in
set_option maxHeartbeats 2000000 in
theorem v_X3_on (σ : KM) : vc_X3_on σ (fun r u => (r = (rsX (if kHas (mK σ) = 0 then -3 else 0) (sAsked (loadS (kKept (mK σ)) 0 (mS σ)))) ∧ u = (((if kHas (mK σ) = 0 then mS σ else loadS (kKept (mK σ)) 0 (mS σ)), (mT σ), ((kKept (mK σ)), (kHas (mK σ)), (if kHas (mK σ) = 0 then kKeep (mK σ) else 0), (if kHas (mK σ) = 0 then kCur (mK σ) else 92)), (mF σ), (mRow σ), (mRowMany σ), (mLots σ), (rfX (mRefused σ) (if kHas (mK σ) = 0 then -3 else 0)))))) := by
  have e0 : (92 : Int32) * 0 = 0 := by decide
  have e1 : (0 : Int32) + 92 = 92 := by decide
  unfold vc_X3_on
  rw [e0, e1]
  refine ⟨fun c => ⟨⟨Or.inl rfl, Or.inl rfl⟩, ?_⟩, fun c => ⟨by decide, ?_⟩⟩
  · simp only [if_neg c]; exact ⟨rfl, rfl⟩
  · simp only [if_pos c]; exact ⟨rfl, rfl⟩
set_option maxRecDepth 20000 in
set_option maxHeartbeats 2000000 in
theorem v_X3_court (σ : KM) (h : okS (mS σ) ∧ zS (mS σ) ∧ sAsked (mS σ) ≤ 999 ∧ 0 ≤ tTaped (mT σ) ∧ tTaped (mT σ) ≤ 96) : vc_X3_court σ (fun r u => ∃ (ex_l : FI) (ex_la : FI) (ex_to : FI) (ex_at : Int32) (ex_st : Int32) (ex_kept : FI) (ex_keep : Int32) (ex_cur : Int32), (r = (courtV (mT σ) (mS σ)) ∧ u = (((courtS (mT σ) (mS σ)), ((tTape (mT σ), ex_l, ex_la, ex_to, 0, ex_at, ex_st)), ((mixK (kKept (mK σ)) ex_kept, kHas (mK σ), ex_keep, ex_cur)), (mF σ), (mRow σ), (mRowMany σ), (mLots σ), (mRefused σ))))) := by
  obtain ⟨hS, hZ, h9, hT0, hT1⟩ := h
  have hG : goodS (mS σ) := ⟨hS, hZ, h9⟩
  obtain ⟨len, hl, hz'⟩ := taped_nat ⟨hT0, hT1⟩
  obtain ⟨z, ez⟩ : ∃ z : KZ, z = (tTaped (mT σ), tTape (mT σ)) := ⟨_, rfl⟩
  have hz : zLen z = nI len := by rw [ez]; exact hz'
  have hL : LinkT z (mT σ) := by rw [ez]; exact ⟨rfl, rfl⟩
  have htape : ∀ u, LinkT z u → tTape u = tTape (mT σ) := fun u k => k.1.trans hL.1.symm
  obtain ⟨hLc, hC⟩ := courtT_eq hz hl hL
  have e92 : (92 : Int32) * 1 = nI 92 := by decide
  have i10 : ¬ (1 : Int32) = 0 := by decide
  unfold vc_X3_court
  intro T12 T86 h12 h86
  -- all read: they come
  have come : (courtT (mT σ)).1 = true → T86 0 (saveS (kKept (mK σ)) (nI 92) (mS σ), kHas (mK σ), 1, nI 92 + 92) (mS σ) (tTape (courtT (mT σ)).2, tLetter (courtT (mT σ)).2, tLetterAt (courtT (mT σ)).2, tTold (courtT (mT σ)).2, 0, tAt (courtT (mT σ)).2, tStm (courtT (mT σ)).2) := by
    intro hb
    obtain ⟨m, hm, em, epl, hJ⟩ : ∃ m, m ≤ 48 ∧ tStm (courtT (mT σ)).2 = nI m ∧ pl z m = len ∧ JT z (courtT (mT σ)).2 m := by
      rcases hC with q | q
      · rw [q.1] at hb; cases hb
      · exact q.2.2
    have hcm : (tStm (courtT (mT σ)).2).toNatClampNeg = m := by rw [em, nI_clamp (by omega)]
    have key : ∀ (d k : Nat) (x : SS), k + d = m → goodS x → comesN (courtT (mT σ)).2 d k x = comesN (courtT (mT σ)).2 m 0 (mS σ) → T86 (nI k) (saveS (kKept (mK σ)) (nI 92) (mS σ), kHas (mK σ), 1, nI 92 + 92) x (tTape (courtT (mT σ)).2, tLetter (courtT (mT σ)).2, tLetterAt (courtT (mT σ)).2, tTold (courtT (mT σ)).2, 0, tAt (courtT (mT σ)).2, tStm (courtT (mT σ)).2) := by
      intro d
      induction d with
      | zero =>
        intro k x hk hx he
        refine h86 _ _ _ _ ⟨fun _ => ?_, fun c => absurd (show tStm (courtT (mT σ)).2 ≤ nI k by rw [em, show k = m by omega]; exact Int32.le_refl _) c⟩
        refine ⟨tLetter (courtT (mT σ)).2, tLetterAt (courtT (mT σ)).2, tTold (courtT (mT σ)).2, tAt (courtT (mT σ)).2, tStm (courtT (mT σ)).2, saveS (kKept (mK σ)) (nI 92) (mS σ), 1, nI 92 + 92, ?_, ?_⟩
        · unfold courtV
          simp only [hb, hcm, ← he]
          rfl
        · unfold courtS
          simp only [hb, hcm, ← he]
          rw [mix_save (mix_self _) (by decide) (by decide), ← htape _ hLc]; rfl
      | succ d ih =>
        intro k x hk hx he
        have hlt : k < m := by omega
        have hke : (nI k).toNatClampNeg = k := nI_clamp (by omega)
        obtain ⟨j1, j2, j3, j4, j5⟩ := hJ k hlt
        have c0 : (3 * nI k).toNatClampNeg = 3 * k := by rw [three_n, nI_clamp (by omega)]
        have c1 : (3 * nI k + 1).toNatClampNeg = 3 * k + 1 := by rw [three_n]; exact cl_1 (by omega)
        have c2 : (3 * nI k + 2).toNatClampNeg = 3 * k + 2 := by rw [three_n]; exact cl_2 (by omega)
        have hg := comes_good hx (t := (courtT (mT σ)).2) (nI k) (by rw [hke, c0, c1, c2, j4]; exact told_R j5)
        rw [comesN] at he
        refine h86 _ _ _ _ ⟨fun c => absurd c (by show ¬ tStm (courtT (mT σ)).2 ≤ nI k; rw [em]; exact nI_ge hlt (by omega)), fun _ => ⟨⟨hx.1, hx.lt, nI_pos' (by omega), nI_lt (b := 48) (by omega) (by decide)⟩, fun c => ?_, fun c => ?_⟩⟩
        · have c' : (comesI (courtT (mT σ)).2 x (nI k)).1 = 0 := c
          simp only [c', if_true] at he
          refine ⟨⟨Or.inr (Or.inl rfl), Or.inl rfl⟩, vin (by omega), ?_⟩
          refine ⟨tLetter (courtT (mT σ)).2, tLetterAt (courtT (mT σ)).2, tTold (courtT (mT σ)).2, tAt (courtT (mT σ)).2, tStm (courtT (mT σ)).2, saveS (kKept (mK σ)) (nI 92) (mS σ), 0, 92 * 1 + 92, ?_, ?_⟩
          · unfold courtV
            simp only [hb, hcm, ← he, hke]
            rfl
          · have hls := load_save (kKept (mK σ)) (C := 92) (by decide) hG.2.1 hg.2.1
            unfold courtS
            simp only [hb, hcm, ← he]
            rw [mix_save (mix_self _) (by decide) (by decide), e92, ← htape _ hLc]
            show (loadS (saveS (kKept (mK σ)) (nI 92) (mS σ)) (nI 92) (comesI (courtT (mT σ)).2 x (nI k)).2, _) = _
            rw [hls]; rfl
        · have c' : ¬ (comesI (courtT (mT σ)).2 x (nI k)).1 = 0 := c
          simp only [c', if_false] at he
          rw [nI_1]
          exact ih (k + 1) _ (by omega) hg he
    exact key m 0 (mS σ) (by omega) hG rfl
  have bad : ∀ t : KT, courtT (mT σ) = (false, t) → T12 0 (mK σ) (mS σ) (tTape t, tLetter t, tLetterAt t, tTold t, tTaped t, tAt t, tStm t + 0) := by
    intro t et
    refine h12 _ _ _ _ ⟨fun _ => ⟨fun c => absurd rfl c, fun _ => ?_⟩, fun c => absurd rfl c⟩
    refine ⟨tLetter t, tLetterAt t, tTold t, tAt t, tStm t + 0, kKept (mK σ), kKeep (mK σ), kCur (mK σ), ?_, ?_⟩
    · unfold courtV; rw [et]; rfl
    · have ht : tTape t = tTape (mT σ) := by rw [et] at hLc; exact htape _ hLc
      unfold courtS; rw [et, mix_self, ← ht]; rfl
  have read : ∀ (n : Nat) (t : KT) (s : Nat), n + s = 49 → LinkT z t → tStm t = nI s → tAt t = nI (pl z s) → pl z s ≤ len → 2 * s ≤ pl z s → JT z t s → rdCourt n t = courtT (mT σ) → T12 1 (mK σ) (mS σ) t := by
    intro n
    induction n with
    | zero => intro t s hn _ _ _ _ _ _; omega
    | succ n ih =>
      intro t s hn hLt hs ha hp h2 hJ he
      have step : (tAt t < tTaped t ∨ tStm t = 0) → ((0 ≤ tAt t ∧ tAt t ≤ 96 ∧ tTaped t ≤ 96) ∧ vp_in (tStm t) 48) ∧ ((((stmT t).1) = 0) → (T12 ((stmT t).1) (mK σ) (mS σ) ((tTape ((stmT t).2)), (tLetter ((stmT t).2)), (tLetterAt ((stmT t).2)), (tTold ((stmT t).2)), (tTaped ((stmT t).2)), (tAt ((stmT t).2)), ((tStm ((stmT t).2)) + 0)))) ∧ ((¬ (((stmT t).1) = 0)) → (T12 ((stmT t).1) (mK σ) (mS σ) ((tTape ((stmT t).2)), (tLetter ((stmT t).2)), (tLetterAt ((stmT t).2)), (tTold ((stmT t).2)), (tTaped ((stmT t).2)), (tAt ((stmT t).2)), ((tStm ((stmT t).2)) + 1)))) := by
        intro hc
        obtain ⟨s48, hP, hLs, hr⟩ := stm_inv hz hl hLt hs ha hp h2 hJ hc
        rw [rdCourt, if_pos hc] at he
        refine ⟨⟨hP, by rw [hs]; exact vin s48⟩, fun c => ?_, fun c => ?_⟩
        · simp only [c, if_true] at he
          rw [c]
          exact bad _ he.symm
        · simp only [c, if_false] at he
          rcases hr with hr | ⟨g1, g2, g3, g4, g5, g6⟩
          · exact absurd hr c
          · rw [g1]
            exact ih _ (s + 1) (by omega) ⟨hLs.1, hLs.2⟩ (by show tStm (stmT t).2 + 1 = _; rw [g2, nI_1]) g3 g4 g5 g6 he
      refine h12 _ _ _ _ ⟨fun c => absurd c i10, fun _ => ⟨fun c => step (Or.inl c), fun c => ⟨fun c2 => ⟨fun _ => ⟨⟨Or.inr (Or.inl rfl), Or.inr rfl⟩, ?_⟩, fun c3 => absurd c3 i10⟩, fun c2 => step (Or.inr c2)⟩⟩⟩
      have hcond : ¬ (tAt t < tTaped t ∨ tStm t = 0) := fun q => q.elim c c2
      rw [rdCourt, if_neg hcond] at he
      rw [if_neg i10, if_neg i10, e92]
      have q1 : (courtT (mT σ)).1 = true := by rw [← he]
      have q2 : (courtT (mT σ)).2 = t := by rw [← he]
      have := come q1
      rw [q2] at this
      exact this
  exact read 49 _ 0 rfl ⟨hL.1, hL.2⟩ rfl rfl (Nat.zero_le _) (Nat.le_refl _) (fun k hk => absurd hk (by omega)) rfl
set_option maxRecDepth 20000 in
set_option maxHeartbeats 2000000 in
theorem v_X3_lots (σ : KM) (p0 : Int32) (p1 : Int32) (p2 : Int32) (h : okS (mS σ) ∧ zS (mS σ) ∧ sAsked (mS σ) ≤ 999) : vc_X3_lots σ p0 p1 p2 (fun r u => ∃ (ex_kept : FI) (ex_keep : Int32) (ex_cur : Int32) (ex_F : KF) (ex_lots : Int32), (r = (rsX (whyLots (mS σ) p0 p2) (lotsV (mS σ) p0 p1 p2)) ∧ u = (((mS σ), (mT σ), ((mixK (kKept (mK σ)) ex_kept, kHas (mK σ), ex_keep, ex_cur)), (ex_F), (mRow σ), (mRowMany σ), (ex_lots), (rfX (mRefused σ) (whyLots (mS σ) p0 p2)))))) := by
  have n1 : ((-1) : Int32) < 0 ∧ -6 ≤ ((-1) : Int32) := by decide
  have n2 : ((-2) : Int32) < 0 ∧ -6 ≤ ((-2) : Int32) := by decide
  have n3 : ((-3) : Int32) < 0 ∧ -6 ≤ ((-3) : Int32) := by decide
  have n6 : ((-6) : Int32) < 0 ∧ -6 ≤ ((-6) : Int32) := by decide
  obtain ⟨hS, hZ, h9⟩ := h
  obtain ⟨nq, hnq, enq⟩ := okS_nq hS
  obtain ⟨nw, hnw, enw⟩ := okS_nw hS
  have hb := @bound_neg p0 1 20
  have e184 : (92 : Int32) * 2 = nI 184 := by decide
  have i10 : ¬ (1 : Int32) = 0 := by decide
  unfold vc_X3_lots
  intro T76 T91 h76 h91
  have run : boundI p0 1 20 = 0 → ¬ isInM p2 0 1 = 0 → ¬ sNw (mS σ) = 0 → ¬ sNq (mS σ) = 0 → T76 0 0 0 (mS σ, mT σ, mK σ, mF σ, mRow σ, mRowMany σ, p1, mRefused σ) := by
    intro r1 r2 r3 r4
    have hwhy : whyLots (mS σ) p0 p2 = 0 := by
      unfold whyLots; rw [if_pos r1, if_neg r2, if_neg (fun q => q.elim r3 r4)]
    obtain ⟨m1, m20⟩ := bound_0 r1
    obtain ⟨n, hn, rfl⟩ := nI_up (M := 20) (n := 20) (by decide) ⟨Int32.le_trans (by decide) m1, m20⟩
    have hqp : 0 < nq := by
      rcases Nat.eq_zero_or_pos nq with q | q
      · exact absurd (by rw [enq, q]; rfl) r4
      · exact q
    have hwp : 0 < nw := by
      rcases Nat.eq_zero_or_pos nw with q | q
      · exact absurd (by rw [enw, q]; rfl) r3
      · exact q
    have q0 : 0 < sNq (mS σ) := by rw [enq]; exact nI_lt (a := 0) hqp (by omega)
    have w0 : 0 < sNw (mS σ) := by rw [enw]; exact nI_lt (a := 0) hwp (by omega)
    have hdw : ∀ z, ∃ d : Nat, d < nw ∧ drawV z (sNw (mS σ)) = nI d := fun z => by
      obtain ⟨d, hd, e⟩ := draw_nat (drawOnI z) hwp (by omega)
      exact ⟨d, hd, by rw [drawV_b w0, enw]; exact e⟩
    have hdq : ∀ z, ∃ d : Nat, d < nq ∧ drawV z (sNq (mS σ)) = nI d := fun z => by
      obtain ⟨d, hd, e⟩ := draw_nat (drawOnI z) hqp (by omega)
      exact ⟨d, hd, by rw [drawV_b q0, enq]; exact e⟩
    have inv : ∀ (k : Nat) (z y : Int32), k ≤ 6 → okS (sessionN (sNw (mS σ)) (sNq (mS σ)) k (z, y, mS σ)).2.2 ∧ zS (sessionN (sNw (mS σ)) (sNq (mS σ)) k (z, y, mS σ)).2.2 ∧ sNq (sessionN (sNw (mS σ)) (sNq (mS σ)) k (z, y, mS σ)).2.2 = sNq (mS σ) ∧ sNw (sessionN (sNw (mS σ)) (sNq (mS σ)) k (z, y, mS σ)).2.2 = sNw (mS σ) ∧ sAsked (sessionN (sNw (mS σ)) (sNq (mS σ)) k (z, y, mS σ)).2.2 = sAsked (mS σ) + nI k := by
      intro k
      induction k with
      | zero => intro z y _; exact ⟨hS, hZ, rfl, rfl, by show _ = _ + 0; simp [sessionN]⟩
      | succ k ih =>
        intro z y hk
        obtain ⟨a1, a2, a3, a4, a5⟩ := ih z y (by omega)
        obtain ⟨d1, hd1, e1⟩ := hdw (sessionN (sNw (mS σ)) (sNq (mS σ)) k (z, y, mS σ)).1
        obtain ⟨d2, hd2, e2⟩ := hdq (drawZ (sessionN (sNw (mS σ)) (sNq (mS σ)) k (z, y, mS σ)).1)
        have hw : inW (sessionN (sNw (mS σ)) (sNq (mS σ)) k (z, y, mS σ)).2.2 (drawV (sessionN (sNw (mS σ)) (sNq (mS σ)) k (z, y, mS σ)).1 (sNw (mS σ))) := by
          rw [e1]; exact inW_nI (a4.trans enw) hnw hd1
        have hq : inQ (sessionN (sNw (mS σ)) (sNq (mS σ)) k (z, y, mS σ)).2.2 (drawV (drawZ (sessionN (sNw (mS σ)) (sNq (mS σ)) k (z, y, mS σ)).1) (sNq (mS σ))) := by
          rw [e2]; exact inQ_nI (a3.trans enq) hnq hd2
        have ha : sAsked (sessionN (sNw (mS σ)) (sNq (mS σ)) k (z, y, mS σ)).2.2 < 5000 := by
          rw [a5]
          obtain ⟨x, hx, ex⟩ := le_of_nI (n := 999) hS.2.1.1 h9 (by decide)
          rw [ex, nI_add]; exact nI_lt (b := 5000) (by omega) (by decide)
        refine ⟨okS_ask a1 hw hq ha, zS_ask a1 a2 _ _, a3, a4, ?_⟩
        show sAsked (sessionN (sNw (mS σ)) (sNq (mS σ)) k (z, y, mS σ)).2.2 + 1 = _
        rw [a5, Int32.add_assoc, nI_1]
    refine upN n (fun i => ∀ (kk : FI) (ke cu : Int32) (F : KF), mixK (kKept (mK σ)) kk = kk → T76 (lotsN (mS σ) i (p1, 0, 0)).2.1 (lotsN (mS σ) i (p1, 0, 0)).2.2 (nI i) (mS σ, mT σ, (kk, kHas (mK σ), ke, cu), F, mRow σ, mRowMany σ, (lotsN (mS σ) i (p1, 0, 0)).1, mRefused σ)) ?_ (fun i hi ih => ?_) 0 (Nat.zero_le _) (kKept (mK σ)) (kKeep (mK σ)) (kCur (mK σ)) (mF σ) (mix_self _)
    · intro kk ke cu F hkk
      have fin2 : ∀ v : Int32, v = lotsV (mS σ) (nI n) p1 p2 → ∃ (ex_kept : FI) (ex_keep : Int32) (ex_cur : Int32) (ex_F : KF) (ex_lots : Int32), v = rsX (whyLots (mS σ) (nI n) p2) (lotsV (mS σ) (nI n) p1 p2) ∧ ((mS σ, mT σ, (kk, kHas (mK σ), ke, cu), F, mRow σ, mRowMany σ, (lotsN (mS σ) n (p1, 0, 0)).1, mRefused σ) : KM) = (mS σ, mT σ, (mixK (kKept (mK σ)) ex_kept, kHas (mK σ), ex_keep, ex_cur), ex_F, mRow σ, mRowMany σ, ex_lots, rfX (mRefused σ) (whyLots (mS σ) (nI n) p2)) := by
        intro v hv
        refine ⟨kk, ke, cu, F, (lotsN (mS σ) n (p1, 0, 0)).1, ?_, ?_⟩
        · rw [hwhy, hv]; rfl
        · rw [hwhy, hkk]; rfl
      refine h76 _ _ _ _ ⟨fun _ => ⟨fun c => fin2 _ ?_, fun c => fin2 _ ?_⟩, fun c => absurd (Int32.le_refl _) c⟩
      · unfold lotsV; rw [nI_clamp (show n < 2 ^ 31 by omega)]; simp only [if_neg c]
      · unfold lotsV; rw [nI_clamp (show n < 2 ^ 31 by omega)]; simp only [if_pos c]
    · intro kk ke cu F hkk
      refine h76 _ _ _ _ ⟨fun c => absurd c (nI_ge hi (by omega)), fun _ => ⟨⟨Or.inr (Or.inr rfl), Or.inr rfl⟩, ?_⟩⟩
      intro u eu
      rw [if_neg i10, if_neg i10, e184] at eu
      subst eu
      refine upN 6 (fun k => T91 (sessionN (sNw (mS σ)) (sNq (mS σ)) k ((lotsN (mS σ) i (p1, 0, 0)).1, (lotsN (mS σ) i (p1, 0, 0)).2.1, mS σ)).2.1 (lotsN (mS σ) i (p1, 0, 0)).2.2 (nI i) (nI k) ((sessionN (sNw (mS σ)) (sNq (mS σ)) k ((lotsN (mS σ) i (p1, 0, 0)).1, (lotsN (mS σ) i (p1, 0, 0)).2.1, mS σ)).2.2, mT σ, (saveS kk (nI 184) (mS σ), kHas (mK σ), 1, nI 184 + 92), F, mRow σ, mRowMany σ, (sessionN (sNw (mS σ)) (sNq (mS σ)) k ((lotsN (mS σ) i (p1, 0, 0)).1, (lotsN (mS σ) i (p1, 0, 0)).2.1, mS σ)).1, mRefused σ)) ?_ (fun k hk ih2 => ?_) 0 (Nat.zero_le _)
      · obtain ⟨a1, a2, -⟩ := inv 6 (lotsN (mS σ) i (p1, 0, 0)).1 (lotsN (mS σ) i (p1, 0, 0)).2.1 (by decide)
        refine h91 _ _ _ _ _ ⟨fun _ => ⟨⟨a1, Or.inl rfl⟩, ?_⟩, fun c => absurd (by decide) c⟩
        intro u eu; subst eu
        refine ⟨⟨Or.inr (Or.inr rfl), Or.inl rfl⟩, ?_⟩
        intro u eu
        rw [if_pos rfl, if_pos rfl, e184] at eu
        have hls := load_save kk (C := 184) (by decide) hZ a2
        have eu2 : u = (mS σ, mT σ, (saveS kk (nI 184) (mS σ), kHas (mK σ), 0, nI 184 + 92), (fitM (sessionN (sNw (mS σ)) (sNq (mS σ)) 6 ((lotsN (mS σ) i (p1, 0, 0)).1, (lotsN (mS σ) i (p1, 0, 0)).2.1, mS σ)).2.2 0 (fFit F), fLeft F, fLeftBy F), mRow σ, mRowMany σ, (sessionN (sNw (mS σ)) (sNq (mS σ)) 6 ((lotsN (mS σ) i (p1, 0, 0)).1, (lotsN (mS σ) i (p1, 0, 0)).2.1, mS σ)).1, mRefused σ) := by
          rw [eu]
          show (loadS (saveS kk (nI 184) (mS σ)) (nI 184) _, _) = _
          rw [hls]
        subst eu2
        have hsum : sumN (fitM (sessionN (sNw (mS σ)) (sNq (mS σ)) 6 ((lotsN (mS σ) i (p1, 0, 0)).1, (lotsN (mS σ) i (p1, 0, 0)).2.1, mS σ)).2.2 0 (fFit F)) 64 = sumN (fitOf (sessionN (sNw (mS σ)) (sNq (mS σ)) 6 ((lotsN (mS σ) i (p1, 0, 0)).1, (lotsN (mS σ) i (p1, 0, 0)).2.1, mS σ)).2.2 0) 64 := sumN_congr (fun k hk => by unfold fitM tab; rw [if_pos hk])
        have := ih _ 0 (nI 184 + 92) (fitM (sessionN (sNw (mS σ)) (sNq (mS σ)) 6 ((lotsN (mS σ) i (p1, 0, 0)).1, (lotsN (mS σ) i (p1, 0, 0)).2.1, mS σ)).2.2 0 (fFit F), fLeft F, fLeftBy F) (mix_save hkk (C := 184) (by decide) (by decide) (mS σ))
        rw [lotsN] at this
        rw [nI_1]
        show T76 _ (_ + sumN (fitM (sessionN (sNw (mS σ)) (sNq (mS σ)) 6 ((lotsN (mS σ) i (p1, 0, 0)).1, (lotsN (mS σ) i (p1, 0, 0)).2.1, mS σ)).2.2 0 (fFit F)) 64) _ _
        rw [hsum]
        exact this
      · obtain ⟨a1, a2, a3, a4, a5⟩ := inv k (lotsN (mS σ) i (p1, 0, 0)).1 (lotsN (mS σ) i (p1, 0, 0)).2.1 (by omega)
        generalize hses : sessionN (sNw (mS σ)) (sNq (mS σ)) k ((lotsN (mS σ) i (p1, 0, 0)).1, (lotsN (mS σ) i (p1, 0, 0)).2.1, mS σ) = B at a1 a2 a3 a4 a5 ⊢
        have hw : inW B.2.2 (drawV B.1 (sNw B.2.2)) := by
          obtain ⟨d, hd, e⟩ := hdw B.1
          rw [a4, e]; exact inW_nI (a4.trans enw) hnw hd
        have hq : inQ B.2.2 (drawV (drawZ B.1) (sNq B.2.2)) := by
          obtain ⟨d, hd, e⟩ := hdq (drawZ B.1)
          rw [a3, e]; exact inQ_nI (a3.trans enq) hnq hd
        have ha : sAsked B.2.2 < 5000 := by
          rw [a5]
          obtain ⟨x, hx, ex⟩ := le_of_nI (n := 999) hS.2.1.1 h9 (by decide)
          rw [ex, nI_add]; exact nI_lt (b := 5000) (by omega) (by decide)
        refine h91 _ _ _ _ _ ⟨fun c => absurd c (nle_nI (N := 6) (n := 6) (by decide) (by decide) hk), fun _ => ⟨by show 0 < sNw B.2.2; rw [a4]; exact w0, ?_⟩⟩
        intro u eu; subst eu
        refine ⟨by show 0 < sNq B.2.2; rw [a3]; exact q0, ?_⟩
        intro u eu; subst eu
        refine ⟨⟨a1, hw, hq, ha⟩, ?_⟩
        intro u eu; subst eu
        rw [nI_1]
        rw [sessionN] at ih2
        simp only [hses] at ih2
        rw [← a4, ← a3] at ih2
        refine ⟨fun e => ?_, fun e => ?_⟩
        · have e' : ¬ askV B.2.2 (drawV B.1 (sNw B.2.2)) (drawV (drawZ B.1) (sNq B.2.2)) = 1 := e
          simp only [e', decide_false] at ih2
          exact ih2
        · have e' : askV B.2.2 (drawV B.1 (sNw B.2.2)) (drawV (drawZ B.1) (sNq B.2.2)) = 1 := e
          simp only [e', decide_true] at ih2
          exact ih2
  have no : ∀ w : Int32, whyLots (mS σ) p0 p2 = w → ¬ w = 0 → ∃ (ex_kept : FI) (ex_keep : Int32) (ex_cur : Int32) (ex_F : KF) (ex_lots : Int32), w = rsX (whyLots (mS σ) p0 p2) (lotsV (mS σ) p0 p1 p2) ∧ ((mS σ, mT σ, mK σ, mF σ, mRow σ, mRowMany σ, mLots σ, refuX (mRefused σ) w) : KM) = (mS σ, mT σ, (mixK (kKept (mK σ)) ex_kept, kHas (mK σ), ex_keep, ex_cur), ex_F, mRow σ, mRowMany σ, ex_lots, rfX (mRefused σ) (whyLots (mS σ) p0 p2)) := by
    intro w hw hn
    refine ⟨kKept (mK σ), kKeep (mK σ), kCur (mK σ), mF σ, mLots σ, rsX_n hw hn, ?_⟩
    rw [rfX_n hw hn, mix_self]
  refine ⟨fun c => ⟨fun c2 => absurd c2 c, fun _ => ⟨hb c, ?_⟩⟩, fun c => ⟨fun c2 => ⟨fun c3 => ⟨n3, ?_⟩, fun c3 => ⟨fun c4 => run c c2 c3 c4, fun c4 => ⟨n3, ?_⟩⟩⟩, fun c2 => ⟨n2, ?_⟩⟩⟩
  · intro u eu; subst eu
    exact no _ (by unfold whyLots; rw [if_neg c]) c
  · intro u eu; subst eu
    exact no _ (by unfold whyLots; rw [if_pos c, if_neg c2, if_pos (Or.inl c3)]) (by decide)
  · intro u eu; subst eu
    exact no _ (by unfold whyLots; rw [if_pos c, if_neg c2, if_pos (Or.inr c4)]) (by decide)
  · intro u eu; subst eu
    exact no _ (by unfold whyLots; rw [if_pos c, if_pos c2]) (by decide)
