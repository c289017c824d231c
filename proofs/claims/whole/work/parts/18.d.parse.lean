/-! the class's reading, and both -/
theorem byt_len : ∀ w, w < 6 → (bytS.getD w []).length = lenS.getD w 0 := by decide
theorem bf_ex {z : KZ} {w : Nat} {d q : Nat} : brokenFrom z d q w (lenI w) = brokenFrom z d q 5 0 := by
  cases d with
  | zero =>
    rw [brokenFrom, brokenFrom, if_neg (Int32.lt_irrefl (a := lenI w)), if_neg (show ¬ (0 : Int32) < lenI 5 by decide)]
  | succ d =>
    rw [brokenFrom, brokenFrom, if_pos (Int32.le_refl _), if_pos (show lenI 5 ≤ (0 : Int32) by decide)]
theorem bf_in {z : KZ} {len : Nat} (hz : zLen z = nI len) (hl : len ≤ 96) {w : Nat} (hw : w < 6) : ∀ (l : List Int32) (j q d : Nat), (bytS.getD w []).drop j = l → j + l.length = lenS.getD w 0 → q + d = len → 0 < len → brokenFrom z d q w (nI j) = match scan z l q with
    | some r => nI r
    | none => brokenFrom z (len - (q + l.length)) (q + l.length) 5 0
  | [], j, q, d, hd, hj, hq, h0 => by
    show _ = brokenFrom z (len - (q + 0)) (q + 0) 5 0
    have e : nI j = lenI w := by unfold lenI; rw [← hj]; rfl
    rw [e, bf_ex, show len - (q + 0) = d by omega, Nat.add_zero]
  | c :: l, j, q, d, hd, hj, hq, h0 => by
    have hb : lenS.getD w 0 ≤ 5 := by
      have : ∀ w, w < 6 → lenS.getD w 0 ≤ 5 := by decide
      exact this w hw
    have hj2 : j < lenS.getD w 0 := by rw [← hj]; show j < j + (l.length + 1); omega
    have hnl : ¬ lenI w ≤ nI j := nI_ge hj2 (by omega)
    have hc : chS w (nI j) = c := by
      unfold chS
      rw [nI_clamp (by omega), List.getD_eq_getElem?_getD]
      have := congrArg (fun l => l[0]?) hd
      simp only [List.getElem?_drop, Nat.add_zero] at this
      rw [this]; rfl
    cases d with
    | zero =>
      have hk : ¬ isAt z q c := fun k => by
        have := k.1
        rw [hz, show q = len by omega] at this
        exact Int32.lt_irrefl this
      rw [scan_0 hk, brokenFrom]
      have hzn : ¬ zLen z = 0 := by rw [hz]; exact nI_ne0 h0 (by omega)
      rw [if_neg hzn, if_pos (Int32.not_le.mp hnl), hz, show q = len by omega]
    | succ d =>
      have hlt : nI q < zLen z := by rw [hz]; exact nI_lt (by omega) (by omega)
      rw [brokenFrom, if_neg hnl, hc]
      by_cases k : ofShapeI (zText z q) c = 0
      · rw [if_pos k, scan_0 (fun q => q.2 k)]
      · rw [if_neg k, scan_1 ⟨hlt, k⟩, nI_1]
        have := bf_in hz hl hw l (j + 1) (q + 1) d (by rw [← List.drop_drop, hd]; rfl) (by rw [← hj]; show j + 1 + l.length = j + (l.length + 1); omega) (by omega) h0
        rw [this, show q + (c :: l).length = q + 1 + l.length by show q + (l.length + 1) = _; omega]
theorem head_shape (h : Int32) : (isHeadB h = true → shapeN h < 5) ∧ (¬ isHeadB h = true → shapeN h = 5) := by
  unfold isHeadB shapeN
  grind
theorem shape_6 (h : Int32) : shapeN h < 6 := by
  unfold shapeN; grind
theorem len_5 : ∀ w, w < 5 → lenS.getD w 0 ≤ 5 ∧ 1 ≤ lenS.getD w 0 := by decide
theorem bf_head {z : KZ} {len q : Nat} (hz : zLen z = nI len) (hl : len ≤ 96) (hq : q < len) : brokenFrom z (len - q) q 5 0 = if isHeadB (zText z q) = true then (match scan z (bytS.getD (shapeN (zText z q)) []) (q + 1) with
    | some r => nI r
    | none => brokenFrom z (len - (q + 1 + (bytS.getD (shapeN (zText z q)) []).length)) (q + 1 + (bytS.getD (shapeN (zText z q)) []).length) 5 0) else nI q := by
  rw [show len - q = (len - q - 1) + 1 by omega, brokenFrom, if_pos (show lenI 5 ≤ (0 : Int32) by decide)]
  obtain ⟨k1, k2⟩ := head_shape (zText z q)
  by_cases h : isHeadB (zText z q) = true
  · have hs := k1 h
    obtain ⟨a, b⟩ := len_5 _ hs
    rw [if_pos h, if_neg (show ¬ lenI (shapeN (zText z q)) = 0 from nI_ne0 (by omega) (by omega))]
    exact bf_in hz hl (by omega) (bytS.getD (shapeN (zText z q)) []) 0 (q + 1) (len - q - 1) rfl (by rw [byt_len _ (by omega)]; omega) (by omega) (by omega)
  · rw [if_neg h, k2 h, if_pos (show lenI 5 = 0 by decide)]
/-- what stands told of the statements ahead of the s-th -/
def JT (z : KZ) (t : KT) (s : Nat) : Prop := ∀ k, k < s → nI (pl z k) < zLen z ∧ isHeadB (zText z (pl z k)) = true ∧ tLetterAt t k = nI (pl z k) ∧ tLetter t k = zText z (pl z k) ∧ toldV z (zText z (pl z k)) (pl z k) (tTold t (3 * k)) (tTold t (3 * k + 1)) (tTold t (3 * k + 2))
theorem JT_step {z : KZ} {t u : KT} {s : Nat} (h : JT z t s) (hlt : nI (pl z s) < zLen z) (hb : isHeadB (zText z (pl z s)) = true) (g : stmG z t (pl z s) s u) : JT z u (s + 1) := by
  obtain ⟨g1, g2, g3, g4, g5, g6⟩ := g
  intro k hk
  by_cases e : k = s
  · subst e
    rw [g3, g4, pk_us, pk_us]
    exact ⟨hlt, hb, rfl, rfl, g5⟩
  · obtain ⟨a, b, c, d, f⟩ := h k (by omega)
    rw [g3, g4, pk_un e, pk_un e, g6 _ (by omega), g6 _ (by omega), g6 _ (by omega)]
    exact ⟨a, b, c, d, f⟩
theorem rdCourt_s {t : KT} (n : Nat) (h : tAt t < tTaped t ∨ tStm t = 0) : rdCourt (n + 1) t = if (stmT t).1 = 0 then (false, (stmT t).2) else rdCourt n (mkT (tTape (stmT t).2) (tLetter (stmT t).2) (tLetterAt (stmT t).2) (tTold (stmT t).2) (tTaped (stmT t).2) (tAt (stmT t).2) (tStm (stmT t).2 + 1)) := by
  rw [rdCourt, if_pos h]
theorem rdCourt_n {t : KT} (n : Nat) (h : ¬ (tAt t < tTaped t ∨ tStm t = 0)) : rdCourt (n + 1) t = (true, t) := by
  rw [rdCourt, if_neg h]
theorem parse_eq {z : KZ} {len : Nat} (hz : zLen z = nI len) (hl : len ≤ 96) : ∀ (n : Nat) (t : KT) (s : Nat), n + s = 49 → LinkT z t → tStm t = nI s → tAt t = nI (pl z s) → pl z s ≤ len → 2 * s ≤ pl z s → JT z t s →
    LinkT z (rdCourt n t).2 ∧ (((rdCourt n t).1 = false ∧ ∃ r : Nat, r ≤ 200 ∧ tAt (rdCourt n t).2 = nI r ∧ brokenFrom z (len - pl z s) (pl z s) 5 0 = nI r) ∨ ((rdCourt n t).1 = true ∧ brokenFrom z (len - pl z s) (pl z s) 5 0 = -1 ∧ ∃ m, m ≤ 48 ∧ tStm (rdCourt n t).2 = nI m ∧ pl z m = len ∧ JT z (rdCourt n t).2 m))
  | 0, t, s, hn, hL, hs, ha, hp, h2, hJ => by omega
  | n + 1, t, s, hn, hL, hs, ha, hp, h2, hJ => by
    by_cases c : pl z s < len
    · have hlt : nI (pl z s) < zLen z := by rw [hz]; exact nI_lt c (by omega)
      have hcond : tAt t < tTaped t ∨ tStm t = 0 := Or.inl (by rw [ha, hL.2]; exact hlt)
      rw [rdCourt_s n hcond, bf_head hz hl c]
      have en : nxt t (tAt t) = zText z (pl z s) := by rw [ha, nxt_z hL (by omega), if_pos hlt]
      by_cases hb : isHeadB (zText z (pl z s)) = true
      · rw [if_pos hb]
        have sp := stm_spec hL (s := s) (by omega) ha hs (by omega) hlt hb
        cases hsc : scan z (bytS.getD (shapeN (zText z (pl z s))) []) (pl z s + 1) with
        | some r =>
          obtain ⟨a, b⟩ := sp.1 r hsc
          have hr := scan_le _ _ _ hsc
          have hsh := (head_shape (zText z (pl z s))).1 hb
          rw [byt_len _ (by omega)] at hr
          have := (len_5 _ hsh).1
          have hlk : LinkT z (stmT t).2 := by
            have g := (rdAll_g (tH_pa ⟨by rw [ha]; exact nI_pos' (by omega), by rw [ha]; exact nI_le (b := 96) (by omega) (by decide), by rw [hL.2, hz]; exact nI_le (b := 96) (by omega) (by decide)⟩ (by rw [en]; exact hb)) (nxt t (tAt t)) (3 * tStm t))
            have hbb : isHeadB (nxt t (tAt t)) = true := by rw [en]; exact hb
            by_cases d : (rH t).1 = 0
            · rw [stm_0 hbb d]; exact ⟨g.1.trans hL.1, g.2.2.2.1.trans hL.2⟩
            · by_cases d2 : nxt (rH t).2 (tAt (rH t).2) = 59
              · rw [stm_1 hbb d d2]; exact ⟨g.1.trans hL.1, g.2.2.2.1.trans hL.2⟩
              · rw [stm_2 hbb d d2]; exact ⟨g.1.trans hL.1, g.2.2.2.1.trans hL.2⟩
          rw [if_pos a]
          exact ⟨hlk, Or.inl ⟨rfl, r, by omega, b, rfl⟩⟩
        | none =>
          obtain ⟨a, b, d, g⟩ := sp.2 hsc
          have hsh := (head_shape (zText z (pl z s))).1 hb
          have hle := len_5 _ hsh
          rw [byt_len _ (by omega)] at b d ⊢
          have hpl : pl z (s + 1) = pl z s + 1 + lenS.getD (shapeN (zText z (pl z s))) 0 := rfl
          have hle2 : pl z (s + 1) ≤ len := by
            rw [hz] at d
            have := (nI_ltI (by omega) (by omega)).mp d
            omega
          rw [if_neg (show ¬ (stmT t).1 = 0 by rw [a]; exact i10)]
          have ih := parse_eq hz hl n (mkT (tTape (stmT t).2) (tLetter (stmT t).2) (tLetterAt (stmT t).2) (tTold (stmT t).2) (tTaped (stmT t).2) (tAt (stmT t).2) (tStm (stmT t).2 + 1)) (s + 1) (by omega) ⟨g.1.1, g.1.2⟩ (by show tStm (stmT t).2 + 1 = _; rw [g.2.1, hs, nI_1]) (by show tAt (stmT t).2 = _; rw [b, hpl]) hle2 (by omega) (JT_step (u := (stmT t).2) hJ hlt hb g)
          rw [hpl] at ih
          exact ih
      · rw [if_neg hb, stm_n (by rw [en]; exact hb), if_pos rfl]
        exact ⟨hL, Or.inl ⟨rfl, pl z s, by omega, ha, rfl⟩⟩
    · have el : pl z s = len := by omega
      by_cases s0 : s = 0
      · subst s0
        have l0 : len = 0 := el.symm
        have hcond : tAt t < tTaped t ∨ tStm t = 0 := Or.inr hs
        rw [rdCourt_s n hcond]
        have en : nxt t (tAt t) = -1 := by
          rw [ha, nxt_z hL (by omega), if_neg]
          rw [hz, el]; exact Int32.lt_irrefl
        rw [stm_n (by rw [en]; decide), if_pos rfl]
        refine ⟨hL, Or.inl ⟨rfl, 0, by omega, ha, ?_⟩⟩
        rw [el, Nat.sub_self, brokenFrom, if_pos (by rw [hz, l0]; rfl), hz, l0]
      · have hcond : ¬ (tAt t < tTaped t ∨ tStm t = 0) := fun k => by
          rcases k with k | k
          · rw [ha, hL.2, hz, el] at k; exact Int32.lt_irrefl k
          · rw [hs] at k; exact nI_ne0 (by omega) (by omega) k
        rw [rdCourt_n n hcond]
        refine ⟨hL, Or.inr ⟨rfl, ?_, s, by omega, hs, el, hJ⟩⟩
        rw [el, Nat.sub_self, brokenFrom, if_neg (by rw [hz]; exact nI_ne0 (by omega) (by omega)), if_neg (by decide)]
theorem courtT_eq {z : KZ} {len : Nat} (hz : zLen z = nI len) (hl : len ≤ 96) {t : KT} (hL : LinkT z t) :
    LinkT z (courtT t).2 ∧ (((courtT t).1 = false ∧ ∃ r : Nat, r ≤ 200 ∧ tAt (courtT t).2 = nI r ∧ brokenV z = nI r) ∨ ((courtT t).1 = true ∧ brokenV z = -1 ∧ ∃ m, m ≤ 48 ∧ tStm (courtT t).2 = nI m ∧ pl z m = len ∧ JT z (courtT t).2 m)) := by
  have h := parse_eq hz hl 49 (mkT (tTape t) (tLetter t) (tLetterAt t) (tTold t) (tTaped t) 0 0) 0 rfl hL rfl rfl (Nat.zero_le _) (Nat.le_refl _) (fun k hk => absurd hk (by omega))
  have e : brokenV z = brokenFrom z (len - pl z 0) (pl z 0) 5 0 := by
    unfold brokenV; rw [hz, nI_clamp (by omega)]; rfl
  rw [e]
  exact h
theorem taped_nat {t : KT} (h : 0 ≤ tTaped t ∧ tTaped t ≤ 96) : ∃ n : Nat, n ≤ 96 ∧ tTaped t = nI n := nI_up (by decide) h
theorem stm_inv {z : KZ} {len : Nat} (hz : zLen z = nI len) (hl : len ≤ 96) {t : KT} {s : Nat} (hL : LinkT z t) (hs : tStm t = nI s) (ha : tAt t = nI (pl z s)) (hp : pl z s ≤ len) (h2 : 2 * s ≤ pl z s) (hJ : JT z t s) (hc : tAt t < tTaped t ∨ tStm t = 0) : s < 48 ∧ PAt t ∧ LinkT z (stmT t).2 ∧ ((stmT t).1 = 0 ∨ ((stmT t).1 = 1 ∧ tStm (stmT t).2 = nI s ∧ tAt (stmT t).2 = nI (pl z (s + 1)) ∧ pl z (s + 1) ≤ len ∧ 2 * (s + 1) ≤ pl z (s + 1) ∧ JT z (stmT t).2 (s + 1))) := by
  have hP : PAt t := ⟨by rw [ha]; exact nI_pos' (by omega), by rw [ha]; exact nI_le (b := 96) (by omega) (by decide), by rw [hL.2, hz]; exact nI_le (b := 96) (by omega) (by decide)⟩
  have s48 : s < 48 := by
    rcases hc with k | k
    · rw [ha, hL.2, hz] at k
      have := (nI_ltI (by omega) (by omega)).mp k
      omega
    · rw [hs] at k
      have : s = 0 := Decidable.byContradiction fun q => nI_ne0 (by omega) (by omega) k
      omega
  have hlk : LinkT z (stmT t).2 := by
    by_cases hbb : isHeadB (nxt t (tAt t)) = true
    · have g := rdAll_g (tH_pa hP hbb) (nxt t (tAt t)) (3 * tStm t)
      by_cases d : (rH t).1 = 0
      · rw [stm_0 hbb d]; exact ⟨g.1.trans hL.1, g.2.2.2.1.trans hL.2⟩
      · by_cases d2 : nxt (rH t).2 (tAt (rH t).2) = 59
        · rw [stm_1 hbb d d2]; exact ⟨g.1.trans hL.1, g.2.2.2.1.trans hL.2⟩
        · rw [stm_2 hbb d d2]; exact ⟨g.1.trans hL.1, g.2.2.2.1.trans hL.2⟩
    · rw [stm_n hbb]; exact hL
  refine ⟨s48, hP, hlk, ?_⟩
  by_cases hb : isHeadB (nxt t (tAt t)) = true
  · have hlt : nI (pl z s) < zLen z := by
      have := head_lt hb
      rw [ha, hL.2] at this
      exact this
    have en : nxt t (tAt t) = zText z (pl z s) := by rw [ha, nxt_z hL (by omega), if_pos hlt]
    rw [en] at hb
    have sp := stm_spec hL (s := s) (by omega) ha hs s48 hlt hb
    cases hsc : scan z (bytS.getD (shapeN (zText z (pl z s))) []) (pl z s + 1) with
    | some r => exact Or.inl (sp.1 r hsc).1
    | none =>
      obtain ⟨a, b, d, g⟩ := sp.2 hsc
      have hsh := (head_shape (zText z (pl z s))).1 hb
      have hle := len_5 _ hsh
      rw [byt_len _ (by omega)] at b d
      have hpl : pl z (s + 1) = pl z s + 1 + lenS.getD (shapeN (zText z (pl z s))) 0 := rfl
      have hle2 : pl z (s + 1) ≤ len := by
        rw [hz] at d
        have := (nI_ltI (by omega) (by omega)).mp d
        omega
      exact Or.inr ⟨a, by rw [g.2.1, hs], by rw [b, hpl], hle2, by omega, JT_step hJ hlt hb g⟩
  · rw [stm_n hb]; exact Or.inl rfl
theorem drawV_b {z m : Int32} (h : 0 < m) : drawV z m = drawBelowI (drawOnI z) m := by
  unfold drawV drawBelowI; rw [if_pos h]; rfl
