/-! the court: what the reference reads and plays, and what the class does -/
theorem sign_at {z : KZ} {len q : Nat} (hz : zLen z = nI len) (hl : len ≤ 96) (h : nI q < zLen z) (hq : q < 1000) : signI z (nI q) = zText z q := by
  have h1 : q < len := by rw [hz] at h; exact (nI_ltI (by omega) (by omega)).mp h
  unfold signI
  rw [if_pos ⟨nI_pos' (by omega), h, nI_lt (b := 96) (by omega) (by decide)⟩, nI_clamp (by omega)]
theorem dig_at {z : KZ} {len q : Nat} {v : Int32} (hz : zLen z = nI len) (hl : len ≤ 96) (h : dg z q v) (hq : q < 1000) : digV z (nI q) = v := by
  unfold digV; rw [sign_at hz hl h.1 hq, h.2.1]
theorem nI_2 (a : Nat) : nI a + 2 = nI (a + 2) := nI_add a 2
theorem nI_3 (a : Nat) : nI a + 3 = nI (a + 3) := nI_add a 3
theorem nI_4 (a : Nat) : nI a + 4 = nI (a + 4) := nI_add a 4
theorem comesI_e (t : KT) (x : SS) (k : Nat) (hk : k < 100) : comesI t x (nI k) = (if tLetter t k = 102 then (if isFactI (tTold t (3 * k)) = 0 then (0, x) else (1, sSetCase x (sCase x ^^^ (1 <<< (tTold t (3 * k) &&& 31)))))
  else if tLetter t k = 113 then (if cqB t x (nI (3 * k)) then (1, addQ x (tTold t (3 * k)) (tTold t (3 * k + 1)) (tTold t (3 * k + 2))) else (0, x))
  else if tLetter t k = 119 then (if cwB t x (nI (3 * k)) then (1, addW x (tTold t (3 * k)) (tTold t (3 * k + 1)) (tTold t (3 * k + 2))) else (0, x))
  else if tLetter t k = 107 then (if isWitnessI x (tTold t (3 * k)) = 0 ∨ isFactI (tTold t (3 * k + 1)) = 0 then (0, x) else (1, sSetKnows x (upd (sKnows x) (tTold t (3 * k)).toNatClampNeg (sKnows x (tTold t (3 * k)).toNatClampNeg ^^^ (1 <<< (tTold t (3 * k + 1) &&& 31))))))
  else if tLetter t k = 97 then (if caB x (tTold t (3 * k)) (tTold t (3 * k + 1)) then (1, askS x (tTold t (3 * k)) (tTold t (3 * k + 1))) else (0, x))
  else (1, sSetNh x 0) : Int32 × SS) := by
  unfold comesI
  simp only []
  rw [nI_clamp (show k < 2 ^ 31 by omega), three_n, nI_clamp (show 3 * k < 2 ^ 31 by omega), cl_1 (show 3 * k < 1000 by omega), cl_2 (show 3 * k < 1000 by omega)]
theorem le_4 {a : Int32} : (¬ 4 < a) ↔ a < 5 := by
  rw [int_lt, int_lt]
  have e1 : (4 : Int32).toInt = 4 := by decide
  have e2 : (5 : Int32).toInt = 5 := by decide
  omega
theorem le_63 {a : Int32} : (¬ 64 ≤ a) ↔ a ≤ 63 := by
  rw [int_le, int_le]
  have e1 : (64 : Int32).toInt = 64 := by decide
  have e2 : (63 : Int32).toInt = 63 := by decide
  omega
theorem ne_lt {a b : Int32} (h : a ≤ b) : (¬ a = b) ↔ a < b := ⟨fun q => lt_of_ne h q, fun q e => by rw [e] at q; exact Int32.lt_irrefl q⟩
theorem lt_6 {a : Int32} (h : a ≤ 5) : a < 6 := Int32.lt_of_le_of_lt h (by decide)
theorem pl_lt {z : KZ} (k : Nat) (hk : k ≤ 48) : pl z k ≤ 480 := by
  have hb : ∀ j, j ≤ 48 → pl z j ≤ 10 * j := by
    intro j
    induction j with
    | zero => intro _; exact Nat.le_refl _
    | succ j ih =>
      intro hj
      have := ih (by omega)
      have := len_7 _ (shape_7 (zText z (pl z j)))
      show pl z j + 1 + lenS.getD (shapeN (zText z (pl z j))) 0 ≤ _
      omega
  have := hb k hk
  omega
theorem comes_play {z : KZ} {len : Nat} (hz : zLen z = nI len) (hl : len ≤ 96) {t : KT} {s k : Nat} (hs : s ≤ 48) (hJ : JT z t s) (hk : k < s) {c : KC} (hc : goodC c) : ((comesI t (cS c) (nI k)).1 = 0 ↔ (playC z c (nI (pl z k))).1 = 0) ∧ cS (playC z c (nI (pl z k))).2 = (comesI t (cS c) (nI k)).2 := by
  obtain ⟨j1, j2, j3, j4, j5⟩ := hJ k hk
  have hP : pl z k < len := by
    have hb := pl_lt (z := z) k (by omega)
    rw [hz] at j1; exact (nI_ltI (by omega) (by omega)).mp j1
  have es : signI z (nI (pl z k)) = zText z (pl z k) := sign_at hz hl j1 (by omega)
  have hx := hc.1.1
  rw [playC_e, comesI_e t _ k (by omega), es, j4, nI_1, nI_2, nI_3]
  generalize hP0 : pl z k = P at *
  generalize hh : zText z P = h at *
  obtain ⟨d1, d2, d3, d4⟩ := j5
  by_cases c1 : h = 102
  · have := dig_at hz hl (d1 c1) (by omega)
    rw [if_pos c1, if_pos c1, this]
    by_cases q : isFactI (tTold t (3 * k)) = 0
    · rw [if_pos q, if_pos q]; exact ⟨⟨fun _ => q, fun _ => rfl⟩, rfl⟩
    · rw [if_neg q, if_neg q]; exact ⟨iff_of_false i10 q, rfl⟩
  rw [if_neg c1, if_neg c1]
  by_cases c2 : h = 113
  · obtain ⟨e1, e2, e3⟩ := d2 c2
    have a1 := dig_at hz hl e1 (by omega)
    have a2 := dig_at hz hl e2 (by omega)
    have a3 := dig_at hz hl e3 (by omega)
    rw [if_pos c2, if_pos c2, a1, a2, a3]
    have eq : cqB t (cS c) (nI (3 * k)) = qOkB (cS c) (tTold t (3 * k)) (tTold t (3 * k + 1)) (tTold t (3 * k + 2)) := by
      unfold cqB qOkB
      rw [nI_clamp (show 3 * k < 2 ^ 31 by omega), cl_1 (show 3 * k < 1000 by omega), cl_2 (show 3 * k < 1000 by omega), decide_eq_true e1.2.2.1, Bool.true_and]
      have f1 : (!decide (4 < tTold t (3 * k))) = decide (tTold t (3 * k) < 5) := by
        by_cases q : tTold t (3 * k) < 5
        · rw [decide_eq_true q, decide_eq_false (le_4.mpr q)]; rfl
        · rw [decide_eq_false q, decide_eq_true (Decidable.byContradiction fun z => q (le_4.mp z))]; rfl
      have f2 : (!decide (sNq (cS c) = 8)) = decide (sNq (cS c) < 8) := by
        have := ne_lt hx.2.2.1.2
        by_cases q : sNq (cS c) < 8
        · rw [decide_eq_true q, decide_eq_false (this.mpr q)]; rfl
        · rw [decide_eq_false q, decide_eq_true (Decidable.byContradiction fun z => q (this.mp z))]; rfl
      rw [f1, f2]
    rw [eq]
    by_cases q : qOkB (cS c) (tTold t (3 * k)) (tTold t (3 * k + 1)) (tTold t (3 * k + 2)) = true
    · rw [if_pos q, if_pos q, q]; exact ⟨iff_of_false i10 (show ¬ b2i true = 0 by decide), rfl⟩
    · have q' := Eq.mp (Bool.not_eq_true _) q
      rw [if_neg q, if_neg q, q']; exact ⟨⟨fun _ => rfl, fun _ => rfl⟩, rfl⟩
  rw [if_neg c2, if_neg c2]
  by_cases c3 : h = 119
  · obtain ⟨⟨e1, e2, e3⟩, e4, x, y, e5, e6, e7⟩ := d3 c3
    have a1 : ixS 6 (signI z (nI (P + 1))) = tTold t (3 * k) := by rw [sign_at hz hl e1 (by omega), ix_kind, e2]
    have a2 := dig_at hz hl e4 (by omega)
    have a3 := dig_at hz hl e5 (by omega)
    have a4 := dig_at hz hl e6 (by omega)
    have r := (told_R (z := z) (h := 119) (P := P) (a := tTold t (3 * k)) (b := tTold t (3 * k + 1)) (c := tTold t (3 * k + 2)) ⟨fun n => absurd n (by decide), fun n => absurd n (by decide), fun _ => ⟨⟨e1, e2, e3⟩, e4, x, y, e5, e6, e7⟩, fun n => absurd n (by decide)⟩).2 rfl
    rw [if_pos c3, if_pos c3]
    unfold playWC
    simp only []
    rw [nI_1, nI_2, nI_3, nI_4, a1, a2, a3, a4, ← e7]
    have eq : cwB t (cS c) (nI (3 * k)) = wOkB (cS c) (tTold t (3 * k)) (tTold t (3 * k + 1)) (tTold t (3 * k + 2)) := by
      unfold cwB wOkB
      rw [cl_2 (show 3 * k < 1000 by omega), decide_eq_true r.1.1, decide_eq_true (lt_6 r.1.2), decide_eq_true r.2.1.1, decide_eq_true r.2.1.2, decide_eq_true r.2.2]
      have f1 : (!decide (64 ≤ tTold t (3 * k + 2))) = decide (tTold t (3 * k + 2) ≤ 63) := by
        by_cases q : tTold t (3 * k + 2) ≤ 63
        · rw [decide_eq_true q, decide_eq_false (le_63.mpr q)]; rfl
        · rw [decide_eq_false q, decide_eq_true (Decidable.byContradiction fun z => q (le_63.mp z))]; rfl
      have f2 : (!decide (sNw (cS c) = 5)) = decide (sNw (cS c) < 5) := by
        have := ne_lt hx.2.2.2.1.2
        by_cases q : sNw (cS c) < 5
        · rw [decide_eq_true q, decide_eq_false (this.mpr q)]; rfl
        · rw [decide_eq_false q, decide_eq_true (Decidable.byContradiction fun z => q (this.mp z))]; rfl
      rw [f1, f2]; simp
    rw [eq]
    by_cases q : wOkB (cS c) (tTold t (3 * k)) (tTold t (3 * k + 1)) (tTold t (3 * k + 2)) = true
    · rw [if_pos q, if_pos q, q]; exact ⟨iff_of_false i10 (show ¬ b2i true = 0 by decide), rfl⟩
    · have q' := Eq.mp (Bool.not_eq_true _) q
      rw [if_neg q, if_neg q, q']; exact ⟨⟨fun _ => rfl, fun _ => rfl⟩, rfl⟩
  rw [if_neg c3, if_neg c3]
  by_cases c4 : h = 107
  · obtain ⟨e1, e2⟩ := d4 (Or.inl c4)
    have a1 := dig_at hz hl e1 (by omega)
    have a2 := dig_at hz hl e2 (by omega)
    rw [if_pos c4, if_pos c4, a1, a2]
    have hw := hasW_isW hx (tTold t (3 * k))
    unfold flipKI
    rw [hw]
    by_cases q : isWitnessI (cS c) (tTold t (3 * k)) = 0
    · rw [if_pos q, if_pos (Or.inl q)]; exact ⟨⟨fun _ => rfl, fun _ => rfl⟩, by rw [if_pos rfl]; rfl⟩
    · rw [if_neg q]
      by_cases q2 : isFactI (tTold t (3 * k + 1)) = 0
      · rw [if_pos q2, if_pos (Or.inr q2)]; exact ⟨⟨fun _ => rfl, fun _ => rfl⟩, by rw [if_pos rfl]; rfl⟩
      · rw [if_neg q2, if_neg (fun z => z.elim q q2), if_neg (by decide)]; exact ⟨iff_of_false i10 i10, rfl⟩
  rw [if_neg c4, if_neg c4]
  by_cases c5 : h = 97
  · obtain ⟨e1, e2⟩ := d4 (Or.inr c5)
    have a1 := dig_at hz hl e1 (by omega)
    have a2 := dig_at hz hl e2 (by omega)
    rw [if_pos c5, if_pos c5, a1, a2]
    have hw := hasW_isW hx (tTold t (3 * k))
    have hq := hasQ_isQ hx (tTold t (3 * k + 1))
    unfold canAskI caB
    rw [hw, hq]
    have hn := ne_lt hc.2.2
    by_cases q : isWitnessI (cS c) (tTold t (3 * k)) = 0
    · rw [if_pos q, decide_eq_true q, if_pos rfl]
      rw [if_neg (by simp)]; exact ⟨⟨fun _ => rfl, fun _ => rfl⟩, rfl⟩
    · rw [if_neg q, decide_eq_false q]
      by_cases q2 : isQuestionI (cS c) (tTold t (3 * k + 1)) = 0
      · rw [if_pos q2, decide_eq_true q2, if_pos rfl]
        rw [if_neg (by simp)]; exact ⟨⟨fun _ => rfl, fun _ => rfl⟩, rfl⟩
      · rw [if_neg q2, decide_eq_false q2]
        by_cases q3 : sAsked (cS c) < 999
        · rw [if_pos q3, decide_eq_false (hn.mpr q3), if_pos (by decide), if_neg i10]; exact ⟨iff_of_false i10 i10, rfl⟩
        · have q4 : sAsked (cS c) = 999 := Decidable.byContradiction fun z => q3 (hn.mp z)
          rw [if_neg q3, decide_eq_true q4, if_pos rfl, if_neg (by decide)]; exact ⟨⟨fun _ => rfl, fun _ => rfl⟩, rfl⟩
  rw [if_neg c5, if_neg c5]
  have c6 : h = 110 := by
    unfold isHeadB at j2
    simp [c1, c2, c3, c4, c5] at j2
    exact j2
  rw [if_pos c6]; exact ⟨iff_of_false i10 i10, rfl⟩
theorem court_eq {z : KZ} {len : Nat} (hz : zLen z = nI len) (hl : len ≤ 96) {t : KT} (hL : LinkT z t) {c : KC} (hc : goodC c) : courtXV z c = courtV t (cS c) ∧ cS (courtXN z c) = courtS t (cS c) ∧ goodC (courtXN z c) := by
  obtain ⟨-, hC⟩ := courtT_eq hz hl hL
  rcases hC with ⟨h1, r, hr, h2, h3⟩ | ⟨h1, h2, m, hm, em, ep, hJ⟩
  · have h0 : 0 ≤ brokenV z := by rw [h3]; exact nI_pos' (by omega)
    have v1 : courtV t (cS c) = -1000 - tAt (courtT t).2 := if_pos h1
    have v2 : courtS t (cS c) = cS c := if_pos h1
    have v3 : courtXV z c = -1000 - brokenV z := if_pos h0
    have v4 : courtXN z c = c := if_pos h0
    rw [v1, v2, v3, v4, h3, h2]
    exact ⟨rfl, rfl, hc⟩
  · have h0 : ¬ 0 ≤ brokenV z := by rw [h2]; decide
    have hcm : (tStm (courtT t).2).toNatClampNeg = m := by rw [em, nI_clamp (by omega)]
    have key : ∀ (d k : Nat) (b : KC) (e : Nat), k + d = m → e + k = 97 → goodC b →
        ((playFrom z e (nI (pl z k)) (nI k) b).1 = match (comesN (courtT t).2 d k (cS b)).1 with
          | some at_ => -2000 - at_
          | none => nI m) ∧
        (match (playFrom z e (nI (pl z k)) (nI k) b).2 with
          | some q => (comesN (courtT t).2 d k (cS b)).1 = none ∧ cS q = (comesN (courtT t).2 d k (cS b)).2 ∧ goodC q
          | none => ∃ v, (comesN (courtT t).2 d k (cS b)).1 = some v) := by
      intro d
      induction d with
      | zero =>
        intro k b e hk he hb
        obtain rfl : k = m := by omega
        obtain ⟨e, rfl⟩ : ∃ e', e = e' + 1 := ⟨e - 1, by omega⟩
        rw [playFrom, if_neg (fun q => by rw [ep, hz] at q; exact Int32.lt_irrefl q.1)]
        exact ⟨rfl, rfl, rfl, hb⟩
      | succ d ih =>
        intro k b e hk he hb
        obtain ⟨e, rfl⟩ : ∃ e', e = e' + 1 := ⟨e - 1, by omega⟩
        obtain ⟨j1, j2, j3, j4, j5⟩ := hJ k (by omega)
        obtain ⟨p1, p2⟩ := comes_play hz hl hm hJ (show k < m by omega) hb
        have hg := play_good (z := z) hb (nI (pl z k))
        have hpl := pl_lt (z := z) k (by omega)
        rw [playFrom, comesN, if_pos ⟨j1, nI_lt (b := 96) (by omega) (by decide)⟩]
        simp only []
        by_cases q : (playC z b (nI (pl z k))).1 = 0
        · rw [if_pos q, if_pos (p1.mpr q)]
          refine ⟨?_, _, rfl⟩
          show -2000 - nI (pl z k) = -2000 - tLetterAt (courtT t).2 k
          rw [j3]
        · rw [if_neg q, if_neg (fun w => q (p1.mp w))]
          have est : stLenV z (nI (pl z k)) = nI (1 + lenS.getD (shapeN (zText z (pl z k))) 0) := by
            unfold stLenV lenI
            rw [sign_at hz hl j1 (by omega), ← nI_add]; rfl
          have ep2 : nI (pl z k) + stLenV z (nI (pl z k)) = nI (pl z (k + 1)) := by
            rw [est, nI_add]
            show nI _ = nI (pl z k + 1 + _)
            congr 1
            omega
          rw [ep2, nI_1, ← p2]
          exact ih (k + 1) _ e (by omega) (by omega) hg
    obtain ⟨k1, k2⟩ := key m 0 c 97 (by omega) rfl hc
    have e0 : playFrom z 97 (nI (pl z 0)) (nI 0) c = playFrom z 97 0 0 c := rfl
    rw [e0] at k1 k2
    have nf : ¬ (courtT t).1 = false := by rw [h1]; decide
    have v1 : courtV t (cS c) = match (comesN (courtT t).2 m 0 (cS c)).1 with
        | some at_ => -2000 - at_
        | none => tStm (courtT t).2 := by
      unfold courtV
      dsimp only
      rw [if_neg nf, hcm]
      cases (comesN (courtT t).2 m 0 (cS c)).1 <;> rfl
    have v2 : courtS t (cS c) = match (comesN (courtT t).2 m 0 (cS c)).1 with
        | some _ => cS c
        | none => (comesN (courtT t).2 m 0 (cS c)).2 := by
      unfold courtS
      dsimp only
      rw [if_neg nf, hcm]
      cases (comesN (courtT t).2 m 0 (cS c)).1 <;> rfl
    have v3 : courtXV z c = (playFrom z 97 0 0 c).1 := if_neg h0
    have v4 : courtXN z c = match (playFrom z 97 0 0 c).2 with
        | some r => r
        | none => c := if_neg h0
    rw [v1, v2, v3, v4, k1, em]
    cases hq : (playFrom z 97 0 0 c).2 with
    | none =>
      rw [hq] at k2
      obtain ⟨v, hv⟩ := k2
      rw [hv]
      exact ⟨rfl, rfl, hc⟩
    | some q =>
      rw [hq] at k2
      obtain ⟨a1, a2, a3⟩ := k2
      rw [a1]
      exact ⟨rfl, a2, a3⟩
