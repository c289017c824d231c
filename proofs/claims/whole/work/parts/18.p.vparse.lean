set_option maxRecDepth 20000 in
set_option maxHeartbeats 2000000 in
theorem v_X3_next (σ : KM) (h : 0 ≤ tAt (mT σ) ∧ tTaped (mT σ) ≤ 96) : vc_X3_next σ (fun r => r = (nxt (mT σ) (tAt (mT σ)))) := by
  have hv : ¬ (tTaped (mT σ) ≤ tAt (mT σ)) → vp_in (tAt (mT σ)) 96 := fun c => vin_lt (N := 96) (by decide) h.1 (Int32.lt_of_lt_of_le (Int32.not_le.mp c) h.2)
  unfold vc_X3_next nxt; grind
set_option maxRecDepth 20000 in
set_option maxHeartbeats 2000000 in
theorem v_X3_kindOf (p0 : Int32) : vc_X3_kindOf p0 (fun r => r = (kindOfI p0)) := by
  unfold vc_X3_kindOf kindOfI; grind
set_option maxRecDepth 20000 in
set_option maxHeartbeats 2000000 in
theorem v_X3_readsDigits (σ : KM) (p0 : Int32) (p1 : Int32) (h : (0 ≤ tAt (mT σ) ∧ tAt (mT σ) ≤ 96 ∧ tTaped (mT σ) ≤ 96) ∧ vp_in p0 144 ∧ (p1 = 1 ∨ p1 = 2)) : vc_X3_readsDigits σ p0 p1 (fun r u => (r = ((rdD (mT σ) p0 p1).1) ∧ u = (((mS σ), ((rdD (mT σ) p0 p1).2), (mK σ), (mF σ), (mRow σ), (mRowMany σ), (mLots σ), (mRefused σ))))) := by
  obtain ⟨⟨ha0, ha1, ht⟩, hp, hd⟩ := h
  obtain ⟨n, hn, en⟩ : ∃ n : Nat, n ≤ 2 ∧ p1 = nI n := by
    rcases hd with e | e
    · exact ⟨1, by omega, e⟩
    · exact ⟨2, by omega, e⟩
  subst en
  unfold vc_X3_readsDigits
  intro T hT
  have key : ∀ (d k : Nat) (a v : Int32), k + d = n → 0 ≤ a → rdLoop (mT σ) d a v = rdLoop (mT σ) n (tAt (mT σ)) 0 → T v (nI k) a (tTold (mT σ)) := by
    intro d
    induction d with
    | zero =>
      intro k a v hk h0 hr
      obtain rfl : k = n := by omega
      refine hT _ _ _ _ ⟨fun _ => ⟨hp, pq ?_⟩, fun c => absurd (Int32.le_refl _) c⟩
      rw [rdD_e, nI_clamp (by omega), ← hr]; rfl
    | succ d ih =>
      intro k a v hk h0 hr
      refine hT _ _ _ _ ⟨fun c => absurd c (nI_ge (by omega) (by omega)), fun _ => ⟨⟨h0, ht⟩, fun c => ⟨⟨h0, ht⟩, ?_⟩, fun c => pq ?_⟩⟩
      · have c' : ¬ isInM (nxt (mT σ) a) 48 57 = 0 := c
        obtain ⟨i0, i1, i2⟩ := inc_le h0 (dig_lt c') ht
        rw [nI_1]
        refine ih (k + 1) (a + 1) _ (by omega) i0 ?_
        rw [← hr, rdLoop, if_neg c']; rfl
      · have c' : isInM (nxt (mT σ) a) 48 57 = 0 := c
        rw [rdD_e, nI_clamp (by omega), ← hr, rdLoop, if_pos c']; rfl
  exact key n 0 _ _ (by omega) ha0 rfl
set_option maxRecDepth 20000 in
set_option maxHeartbeats 2000000 in
theorem v_X3_readsWitness (σ : KM) (p0 : Int32) (h : (0 ≤ tAt (mT σ) ∧ tAt (mT σ) ≤ 96 ∧ tTaped (mT σ) ≤ 96) ∧ 0 ≤ p0 ∧ p0 ≤ 141) : vc_X3_readsWitness σ p0 (fun r u => (r = ((rdW (mT σ) p0).1) ∧ u = (((mS σ), ((rdW (mT σ) p0).2), (mK σ), (mF σ), (mRow σ), (mRowMany σ), (mLots σ), (mRefused σ))))) := by
  obtain ⟨hA, hp⟩ := h
  have hA : PAt (mT σ) := hA
  obtain ⟨v0, v1, v2⟩ := pk_144 hp
  unfold vc_X3_readsWitness
  rw [pk_us]
  refine ⟨⟨hA.1, hA.2.2⟩, v0, v0, fun c => ?_, fun c => pq (rdW_0 (Int32.not_le.mp c))⟩
  have hn : ¬ kindOfI (nxt (mT σ) (tAt (mT σ))) < 0 := Int32.not_lt.mpr c
  have g0 := tW_g hA (p := p0) hn
  refine ⟨⟨g0.pa hA, v1, Or.inl rfl⟩, ?_⟩
  intro u e; subst e
  have g1 := rdD_g (g0.pa hA) (p0 + 1) 1
  refine ⟨fun c1 => pq (rdW_1 hn c1), fun c1 => ⟨⟨g1.pa (g0.pa hA), v2, Or.inr rfl⟩, ?_⟩⟩
  intro u e; subst e
  exact ⟨fun c2 => pq (rdW_2 hn c1 c2), fun c2 => pq (rdW_3 hn c1 c2)⟩
set_option maxRecDepth 20000 in
set_option maxHeartbeats 2000000 in
theorem v_X3_readsAll (σ : KM) (p0 : Int32) (p1 : Int32) (h : (0 ≤ tAt (mT σ) ∧ tAt (mT σ) ≤ 96 ∧ tTaped (mT σ) ≤ 96) ∧ 0 ≤ p1 ∧ p1 ≤ 141) : vc_X3_readsAll σ p0 p1 (fun r u => (r = ((rdAll (mT σ) p0 p1).1) ∧ u = (((mS σ), ((rdAll (mT σ) p0 p1).2), (mK σ), (mF σ), (mRow σ), (mRowMany σ), (mLots σ), (mRefused σ))))) := by
  obtain ⟨hA, hp⟩ := h
  have hA : PAt (mT σ) := hA
  obtain ⟨v0, v1, v2⟩ := pk_144 hp
  rcases hX : rdD (mT σ) p1 1 with ⟨a1, t1⟩
  rcases hY : rdD t1 (p1 + 1) 1 with ⟨a2, t2⟩
  rcases hZ : rdD t2 (p1 + 2) 1 with ⟨a3, t3⟩
  have A1 : PAt t1 := by
    have k := (rdD_g hA p1 1).pa hA
    rw [hX] at k; exact k
  have A2 : PAt t2 := by
    have k := (rdD_g A1 (p1 + 1) 1).pa A1
    rw [hY] at k; exact k
  have q3 : rd3 (mT σ) p1 = if a1 = 0 then (0, t1) else if a2 = 0 then (0, t2) else if a3 = 0 then (0, t3) else (1, t3) := by
    unfold rd3; simp only [hX, hY, hZ]
  have q2 : rd2 (mT σ) p1 = if a1 = 0 then (0, t1) else if a2 = 0 then (0, t2) else (1, t2) := by
    unfold rd2; simp only [hX, hY]
  have n0 := nar01 (rdD_01 (mT σ) p1 1)
  unfold vc_X3_readsAll
  rw [hX]
  rw [hX] at n0
  refine ⟨fun c => ⟨⟨hA, v0, Or.inl rfl⟩, ?_⟩, fun n1 => ⟨fun c => ?_, fun n2 => ⟨fun c => ⟨⟨hA, v0, Or.inl rfl⟩, ?_⟩, fun n3 => ⟨fun c => ⟨⟨hA, hp⟩, ?_⟩, fun n4 => ⟨⟨hA, v0, Or.inl rfl⟩, ?_⟩⟩⟩⟩⟩
  · intro u e; subst e
    exact ⟨n0, pq ((rdAll_e _ _ _).trans ((if_pos c).trans hX))⟩
  · have q : rdAll (mT σ) p0 p1 = (1, mT σ) := by
      rw [rdAll_e, if_neg (by rw [c]; decide), if_neg (by rw [c]; decide), if_neg (by rw [c]; decide), if_pos c]
    exact pq q
  · have q : rdAll (mT σ) p0 p1 = rd3 (mT σ) p1 := by rw [rdAll_e, if_neg n1, if_pos c]
    intro u e; subst e
    refine ⟨fun c1 => ?_, fun c1 => ⟨⟨A1, v1, Or.inl rfl⟩, ?_⟩⟩
    · exact pq (q.trans (q3.trans (if_pos c1)))
    intro u e
    change u = ((mS σ), ((rdD t1 (p1 + 1) 1).2), (mK σ), (mF σ), (mRow σ), (mRowMany σ), (mLots σ), (mRefused σ)) at e
    rw [hY] at e; subst e
    refine ⟨fun c2 => ?_, fun c2 => ⟨⟨A2, v2, Or.inl rfl⟩, ?_⟩⟩
    · have c2' : (rdD t1 (p1 + 1) 1).1 = 0 := c2
      rw [hY] at c2'
      exact pq (q.trans (q3.trans ((if_neg c1).trans (if_pos c2'))))
    have c2' : ¬ (rdD t1 (p1 + 1) 1).1 = 0 := c2
    rw [hY] at c2'
    intro u e
    change u = ((mS σ), ((rdD t2 (p1 + 2) 1).2), (mK σ), (mF σ), (mRow σ), (mRowMany σ), (mLots σ), (mRefused σ)) at e
    rw [hZ] at e; subst e
    refine ⟨fun c3 => ?_, fun c3 => ?_⟩
    · have c3' : (rdD t2 (p1 + 2) 1).1 = 0 := c3
      rw [hZ] at c3'
      exact pq (q.trans (q3.trans ((if_neg c1).trans ((if_neg c2').trans (if_pos c3')))))
    · have c3' : ¬ (rdD t2 (p1 + 2) 1).1 = 0 := c3
      rw [hZ] at c3'
      exact pq (q.trans (q3.trans ((if_neg c1).trans ((if_neg c2').trans (if_neg c3')))))
  · have q : rdAll (mT σ) p0 p1 = rdW (mT σ) p1 := by rw [rdAll_e, if_neg n1, if_neg n3, if_pos c]
    intro u e; subst e
    exact ⟨nar01 (rdW_01 _ _), pq q⟩
  · have q : rdAll (mT σ) p0 p1 = rd2 (mT σ) p1 := by rw [rdAll_e, if_neg n1, if_neg n3, if_neg n4, if_neg n2]
    intro u e; subst e
    refine ⟨fun c1 => ?_, fun c1 => ⟨⟨A1, v1, Or.inl rfl⟩, ?_⟩⟩
    · exact pq (q.trans (q2.trans (if_pos c1)))
    intro u e
    change u = ((mS σ), ((rdD t1 (p1 + 1) 1).2), (mK σ), (mF σ), (mRow σ), (mRowMany σ), (mLots σ), (mRefused σ)) at e
    rw [hY] at e; subst e
    refine ⟨fun c2 => ?_, fun c2 => ?_⟩
    · have c2' : (rdD t1 (p1 + 1) 1).1 = 0 := c2
      rw [hY] at c2'
      exact pq (q.trans (q2.trans ((if_neg c1).trans (if_pos c2'))))
    · have c2' : ¬ (rdD t1 (p1 + 1) 1).1 = 0 := c2
      rw [hY] at c2'
      exact pq (q.trans (q2.trans ((if_neg c1).trans (if_neg c2'))))
set_option maxRecDepth 20000 in
set_option maxHeartbeats 2000000 in
theorem v_X3_statement (σ : KM) (h : (0 ≤ tAt (mT σ) ∧ tAt (mT σ) ≤ 96 ∧ tTaped (mT σ) ≤ 96) ∧ vp_in (tStm (mT σ)) 48) : vc_X3_statement σ (fun r u => (r = ((stmT (mT σ)).1) ∧ u = (((mS σ), ((stmT (mT σ)).2), (mK σ), (mF σ), (mRow σ), (mRowMany σ), (mLots σ), (mRefused σ))))) := by
  obtain ⟨hA, hs⟩ := h
  have hA : PAt (mT σ) := hA
  unfold vc_X3_statement
  refine ⟨⟨hA.1, hA.2.2⟩, ?_⟩
  refine ⟨fun c => ?_, fun n1 => ⟨fun c => ?_, fun n2 => ⟨fun c => ?_, fun n3 => ⟨fun c => ?_, fun n4 => ⟨fun c => ?_, fun n5 => ⟨fun c => ?_, fun n6 => ?_⟩⟩⟩⟩⟩⟩
  iterate 6 (
    · have hb : isHeadB (nxt (mT σ) (tAt (mT σ))) = true := by rw [c]; decide
      have hT := tH_pa hA hb
      refine ⟨hs, hs, ⟨hT, three_48 hs⟩, ?_⟩
      intro u e; subst e
      have g := rdAll_g hT (nxt (mT σ) (tAt (mT σ))) (3 * tStm (mT σ))
      have hU := g.pa hT
      exact ⟨fun d => pq (stm_0 hb d), fun d => ⟨⟨hU.1, hU.2.2⟩, fun d2 => pq (stm_1 hb d d2), fun d2 => pq (stm_2 hb d d2)⟩⟩)
  refine pq (stm_n ?_)
  unfold isHeadB
  simp [n1, n2, n3, n4, n5, n6]
set_option maxRecDepth 20000 in
set_option maxHeartbeats 2000000 in
theorem v_X3_comesQuestion (σ : KM) (p0 : Int32) (h : okS (mS σ) ∧ 0 ≤ p0 ∧ p0 ≤ 141) : vc_X3_comesQuestion σ p0 (fun r u => (r = (b2i (cqB (mT σ) (mS σ) p0)) ∧ u = (((if cqB (mT σ) (mS σ) p0 = true then addQ (mS σ) (tTold (mT σ) p0.toNatClampNeg) (tTold (mT σ) (p0 + 1).toNatClampNeg) (tTold (mT σ) (p0 + 2).toNatClampNeg) else mS σ), (mT σ), (mK σ), (mF σ), (mRow σ), (mRowMany σ), (mLots σ), (mRefused σ))))) := by
  obtain ⟨hS, hp⟩ := h
  obtain ⟨v0, v1, v2⟩ := pk_144 hp
  have hn : ¬ sNq (mS σ) = 8 → vp_in (sNq (mS σ)) 8 := fun c => vin_lt (N := 8) (by decide) hS.2.2.1.1 (Int32.lt_of_le_of_ne hS.2.2.1.2 c)
  clear hS hp
  obtain ⟨S, T, K, F, row, rm, lots, ref⟩ := σ
  unfold vc_X3_comesQuestion cqB addQ sSetQ
  grind (splits := 30) [b2i]
set_option maxRecDepth 20000 in
set_option maxHeartbeats 2000000 in
theorem v_X3_comesWitness (σ : KM) (p0 : Int32) (h : okS (mS σ) ∧ 0 ≤ p0 ∧ p0 ≤ 141) : vc_X3_comesWitness σ p0 (fun r u => (r = (b2i (cwB (mT σ) (mS σ) p0)) ∧ u = (((if cwB (mT σ) (mS σ) p0 = true then addW (mS σ) (tTold (mT σ) p0.toNatClampNeg) (tTold (mT σ) (p0 + 1).toNatClampNeg) (tTold (mT σ) (p0 + 2).toNatClampNeg) else mS σ), (mT σ), (mK σ), (mF σ), (mRow σ), (mRowMany σ), (mLots σ), (mRefused σ))))) := by
  obtain ⟨hS, hp⟩ := h
  obtain ⟨v0, v1, v2⟩ := pk_144 hp
  have hn : ¬ sNw (mS σ) = 5 → vp_in (sNw (mS σ)) 5 := fun c => vin_lt (N := 5) (by decide) hS.2.2.2.1.1 (Int32.lt_of_le_of_ne hS.2.2.2.1.2 c)
  clear hS hp
  obtain ⟨S, T, K, F, row, rm, lots, ref⟩ := σ
  unfold vc_X3_comesWitness cwB addW sSetW
  grind (splits := 30) [b2i]
set_option maxRecDepth 20000 in
set_option maxHeartbeats 2000000 in
theorem v_X3_comesAsking (σ : KM) (p0 : Int32) (p1 : Int32) (h : okS (mS σ) ∧ sAsked (mS σ) < 5000) : vc_X3_comesAsking σ p0 p1 (fun r u => (r = (b2i (caB (mS σ) p0 p1)) ∧ u = (((if caB (mS σ) p0 p1 = true then askS (mS σ) p0 p1 else mS σ), (mT σ), (mK σ), (mF σ), (mRow σ), (mRowMany σ), (mLots σ), (mRefused σ))))) := by
  have hw := @isW_in (mS σ) p0
  have hq := @isQ_in (mS σ) p1
  obtain ⟨S, T, K, F, row, rm, lots, ref⟩ := σ
  unfold vc_X3_comesAsking caB
  grind (splits := 30) [b2i]
set_option maxRecDepth 20000 in
set_option maxHeartbeats 2000000 in
theorem v_X3_comes (σ : KM) (p0 : Int32) (h : okS (mS σ) ∧ sAsked (mS σ) < 5000 ∧ 0 ≤ p0 ∧ p0 < 48) : vc_X3_comes σ p0 (fun r u => (r = ((comesI (mT σ) (mS σ) p0).1) ∧ u = ((((comesI (mT σ) (mS σ) p0).2), (mT σ), (mK σ), (mF σ), (mRow σ), (mRowMany σ), (mLots σ), (mRefused σ))))) := by
  obtain ⟨hS, ha, h0, h48⟩ := h
  have hp : vp_in p0 48 := vin_lt (N := 48) (by decide) h0 h48
  have h3 := three_48 hp
  obtain ⟨v0, v1, v2⟩ := pk_144 h3
  have hw : ¬ isWitnessI (mS σ) (tTold (mT σ) (3 * p0).toNatClampNeg) = 0 → vp_in (tTold (mT σ) (3 * p0).toNatClampNeg) 5 := fun c => inW_vin hS (isW_in c)
  have hn := b2i_nar
  unfold vc_X3_comes
  refine ⟨hp, fun c => ⟨v0, v1, ⟨hS, ha⟩, hn _, ?_⟩, fun n1 => ⟨fun c => ⟨v0, fun d => ⟨v0, ?_⟩, fun d => ?_⟩, fun n2 => ⟨fun c => ⟨v0, fun d => ?_, fun d => ⟨v1, fun d2 => ⟨v0, hw d, v1, hw d, ?_⟩, fun d2 => ?_⟩⟩, fun n3 => ⟨fun c => ⟨⟨hS, h3⟩, hn _, ?_⟩, fun n4 => ⟨fun c => ⟨⟨hS, h3⟩, hn _, ?_⟩, fun n5 => ?_⟩⟩⟩⟩⟩
  · have e : comesI (mT σ) (mS σ) p0 = (if caB (mS σ) (tTold (mT σ) (3 * p0).toNatClampNeg) (tTold (mT σ) (3 * p0 + 1).toNatClampNeg) then (1, askS (mS σ) (tTold (mT σ) (3 * p0).toNatClampNeg) (tTold (mT σ) (3 * p0 + 1).toNatClampNeg)) else (0, mS σ)) := by
      simp only [comesI, c]; rfl
    rw [e]
    by_cases z : caB (mS σ) (tTold (mT σ) (3 * p0).toNatClampNeg) (tTold (mT σ) (3 * p0 + 1).toNatClampNeg) = true
    · simp only [z]; exact ⟨rfl, rfl⟩
    · simp only [z]; exact ⟨rfl, rfl⟩
  · have e : comesI (mT σ) (mS σ) p0 = ((1 : Int32), sSetCase (mS σ) (sCase (mS σ) ^^^ (1 <<< (tTold (mT σ) (3 * p0).toNatClampNeg &&& 31)))) := by
      simp only [comesI, c, d]; rfl
    rw [e]; exact ⟨rfl, rfl⟩
  · have e : comesI (mT σ) (mS σ) p0 = (0, mS σ) := by
      simp only [comesI, c, d]; rfl
    rw [e]; exact ⟨rfl, rfl⟩
  · have e : comesI (mT σ) (mS σ) p0 = (0, mS σ) := by
      simp only [comesI, c, d]; rfl
    rw [e]; exact ⟨rfl, rfl⟩
  · have e : comesI (mT σ) (mS σ) p0 = ((1 : Int32), sSetKnows (mS σ) (upd (sKnows (mS σ)) (tTold (mT σ) (3 * p0).toNatClampNeg).toNatClampNeg (sKnows (mS σ) (tTold (mT σ) (3 * p0).toNatClampNeg).toNatClampNeg ^^^ (1 <<< (tTold (mT σ) (3 * p0 + 1).toNatClampNeg &&& 31))))) := by
      simp only [comesI, c, d, d2]; rfl
    rw [e]; exact ⟨rfl, rfl⟩
  · have e : comesI (mT σ) (mS σ) p0 = (0, mS σ) := by
      simp only [comesI, c, d, d2]; simp
    rw [e]; exact ⟨rfl, rfl⟩
  · have e : comesI (mT σ) (mS σ) p0 = (if cqB (mT σ) (mS σ) (3 * p0) then (1, addQ (mS σ) (tTold (mT σ) (3 * p0).toNatClampNeg) (tTold (mT σ) (3 * p0 + 1).toNatClampNeg) (tTold (mT σ) (3 * p0 + 2).toNatClampNeg)) else (0, mS σ)) := by
      simp only [comesI, c]; rfl
    rw [e]
    by_cases z : cqB (mT σ) (mS σ) (3 * p0) = true
    · simp only [z]; exact ⟨rfl, rfl⟩
    · simp only [z]; exact ⟨rfl, rfl⟩
  · have e : comesI (mT σ) (mS σ) p0 = (if cwB (mT σ) (mS σ) (3 * p0) then (1, addW (mS σ) (tTold (mT σ) (3 * p0).toNatClampNeg) (tTold (mT σ) (3 * p0 + 1).toNatClampNeg) (tTold (mT σ) (3 * p0 + 2).toNatClampNeg)) else (0, mS σ)) := by
      simp only [comesI, c]; rfl
    rw [e]
    by_cases z : cwB (mT σ) (mS σ) (3 * p0) = true
    · simp only [z]; exact ⟨rfl, rfl⟩
    · simp only [z]; exact ⟨rfl, rfl⟩
  · have e : comesI (mT σ) (mS σ) p0 = (1, sSetNh (mS σ) 0) := by
      simp only [comesI]; rw [if_neg n2, if_neg n4, if_neg n5, if_neg n3, if_neg n1]
    rw [e]; exact ⟨rfl, rfl⟩
