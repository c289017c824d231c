/-! a text's statements, letter by letter: the reference's reading and the class's -/
def isAt (z : KZ) (q : Nat) (c : Int32) : Prop := nI q < zLen z ∧ ¬ ofShapeI (zText z q) c = 0
def scan (z : KZ) : List Int32 → Nat → Option Nat
  | [], _ => none
  | c :: l, q => if nI q < zLen z ∧ ¬ ofShapeI (zText z q) c = 0 then scan z l (q + 1) else some q
theorem scan_1 {z : KZ} {c : Int32} {l : List Int32} {q : Nat} (h : isAt z q c) : scan z (c :: l) q = scan z l (q + 1) := by
  rw [scan]; exact if_pos h
theorem scan_0 {z : KZ} {c : Int32} {l : List Int32} {q : Nat} (h : ¬ isAt z q c) : scan z (c :: l) q = some q := by
  rw [scan]; exact if_neg h
theorem scan_le {z : KZ} : ∀ (l : List Int32) (q r : Nat), scan z l q = some r → r ≤ q + l.length
  | [], _, _, h => by cases h
  | c :: l, q, r, h => by
    by_cases k : isAt z q c
    · rw [scan_1 k] at h
      have := scan_le l (q + 1) r h
      show r ≤ q + (l.length + 1)
      omega
    · rw [scan_0 k] at h
      cases h
      omega
/-- the k-th statement's place -/
def pl (z : KZ) : Nat → Nat
  | 0 => 0
  | k + 1 => pl z k + 1 + lenS.getD (shapeN (zText z (pl z k))) 0
def LinkT (z : KZ) (t : KT) : Prop := tTape t = zText z ∧ tTaped t = zLen z
theorem nxt_z {z : KZ} {u : KT} (hL : LinkT z u) {q : Nat} (hq : q < 2 ^ 31) : nxt u (nI q) = if nI q < zLen z then zText z q else -1 := by
  unfold nxt; rw [hL.1, hL.2, nI_clamp hq]
theorem ix_kind (c : Int32) : ixS 6 c = kindOfI c := by
  unfold ixS kindOfI
  show (match firstN (fun k => decide (([119, 108, 98, 102, 114, 99] : List Int32).getD k 0 = c)) 6 0 with
    | some k => nI k
    | none => -1) = _
  by_cases h0 : c = 119
  · subst h0; decide
  by_cases h1 : c = 108
  · subst h1; decide
  by_cases h2 : c = 98
  · subst h2; decide
  by_cases h3 : c = 102
  · subst h3; decide
  by_cases h4 : c = 114
  · subst h4; decide
  by_cases h5 : c = 99
  · subst h5; decide
  rw [if_neg h0, if_neg h1, if_neg h2, if_neg h3, if_neg h4, if_neg h5]
  have e : firstN (fun k => decide (([119, 108, 98, 102, 114, 99] : List Int32).getD k 0 = c)) 6 0 = none := by
    have k0 : ¬ (119 : Int32) = c := fun z => h0 z.symm
    have k1 : ¬ (108 : Int32) = c := fun z => h1 z.symm
    have k2 : ¬ (98 : Int32) = c := fun z => h2 z.symm
    have k3 : ¬ (102 : Int32) = c := fun z => h3 z.symm
    have k4 : ¬ (114 : Int32) = c := fun z => h4 z.symm
    have k5 : ¬ (99 : Int32) = c := fun z => h5 z.symm
    simp [firstN, k0, k1, k2, k3, k4, k5]
  rw [e]
theorem at_57 {z : KZ} {u : KT} (hL : LinkT z u) {q : Nat} (hq : q < 2 ^ 31) : isAt z q 57 ↔ ¬ isInM (nxt u (nI q)) 48 57 = 0 := by
  have e : ∀ s : Int32, ofShapeI s 57 = isInM s 48 57 := fun s => rfl
  unfold isAt
  rw [nxt_z hL hq, e]
  by_cases c : nI q < zLen z
  · rw [if_pos c]; exact ⟨fun h => h.2, fun h => ⟨c, h⟩⟩
  · rw [if_neg c]; exact ⟨fun h => absurd h.1 c, fun h => absurd (by decide) h⟩
theorem at_59 {z : KZ} {u : KT} (hL : LinkT z u) {q : Nat} (hq : q < 2 ^ 31) : isAt z q 59 ↔ nxt u (nI q) = 59 := by
  have e : ∀ s : Int32, (¬ ofShapeI s 59 = 0) ↔ s = 59 := fun s => by
    have e1 : ofShapeI s 59 = b2i (decide (s = 59)) := rfl
    rw [e1, b2i_ne, decide_eq_true_eq]
  unfold isAt
  rw [nxt_z hL hq, e]
  by_cases c : nI q < zLen z
  · rw [if_pos c]; exact ⟨fun h => h.2, fun h => ⟨c, h⟩⟩
  · rw [if_neg c]; exact ⟨fun h => absurd h.1 c, fun h => absurd h (by decide)⟩
theorem at_119 {z : KZ} {u : KT} (hL : LinkT z u) {q : Nat} (hq : q < 2 ^ 31) : isAt z q 119 ↔ ¬ kindOfI (nxt u (nI q)) < 0 := by
  have e : ∀ s : Int32, (¬ ofShapeI s 119 = 0) ↔ ¬ kindOfI s < 0 := fun s => by
    have e1 : ofShapeI s 119 = b2i (decide (0 ≤ ixS 6 s)) := rfl
    rw [e1, b2i_ne, decide_eq_true_eq, ix_kind, Int32.not_lt]
  unfold isAt
  rw [nxt_z hL hq, e]
  by_cases c : nI q < zLen z
  · rw [if_pos c]; exact ⟨fun h => h.2, fun h => ⟨c, h⟩⟩
  · rw [if_neg c]; exact ⟨fun h => absurd h.1 c, fun h => absurd (by decide) h⟩
theorem at_lt {z : KZ} {q : Nat} {c : Int32} (h : isAt z q c) : nI q < zLen z := h.1
/-- a digit at a place -/
def dg (z : KZ) (q : Nat) (v : Int32) : Prop := nI q < zLen z ∧ v = zText z q - 48 ∧ 0 ≤ v ∧ v ≤ 9
theorem dg_of {z : KZ} {q : Nat} (h : isAt z q 57) : dg z q (zText z q - 48) := by
  have h2 : ¬ isInM (zText z q) 48 57 = 0 := h.2
  obtain ⟨a, b⟩ := isInM_ne h2
  refine ⟨h.1, rfl, ?_⟩
  have h0 : 0 ≤ zText z q := Int32.le_trans (by decide) a
  obtain ⟨k, hk, e⟩ := le_of_nI (n := 57) h0 b (by decide)
  rw [e] at a ⊢
  have : 48 ≤ k := (nI_leI (a := 48) (by decide) (by omega)).mp a
  rw [show (48 : Int32) = nI 48 from rfl, pk_sub this]
  exact ⟨nI_pos' (by omega), nI_le (b := 9) (by omega) (by decide)⟩
def toldV (z : KZ) (h : Int32) (P : Nat) (a b c : Int32) : Prop :=
  (h = 102 → dg z (P + 1) a) ∧ (h = 113 → dg z (P + 1) a ∧ dg z (P + 2) b ∧ dg z (P + 3) c) ∧
  (h = 119 → (nI (P + 1) < zLen z ∧ a = kindOfI (zText z (P + 1)) ∧ 0 ≤ a) ∧ dg z (P + 2) b ∧ ∃ x y, dg z (P + 3) x ∧ dg z (P + 4) y ∧ c = 10 * x + y) ∧
  (h = 107 ∨ h = 97 → dg z (P + 1) a ∧ dg z (P + 2) b)
theorem kind_5 (c : Int32) : kindOfI c ≤ 5 := by
  unfold kindOfI
  by_cases h0 : c = 119
  · rw [if_pos h0]; decide
  rw [if_neg h0]
  by_cases h1 : c = 108
  · rw [if_pos h1]; decide
  rw [if_neg h1]
  by_cases h2 : c = 98
  · rw [if_pos h2]; decide
  rw [if_neg h2]
  by_cases h3 : c = 102
  · rw [if_pos h3]; decide
  rw [if_neg h3]
  by_cases h4 : c = 114
  · rw [if_pos h4]; decide
  rw [if_neg h4]
  by_cases h5 : c = 99
  · rw [if_pos h5]; decide
  rw [if_neg h5]; decide
theorem told_R {z : KZ} {h : Int32} {P : Nat} {a b c : Int32} (k : toldV z h P a b c) : toldR h a b c := by
  refine ⟨fun e => (k.2.1 e).1.2.2.1, fun e => ?_⟩
  obtain ⟨⟨h1, h2, h3⟩, h4, x, y, h5, h6, h7⟩ := k.2.2.1 e
  refine ⟨⟨h3, by rw [h2]; exact kind_5 _⟩, h4.2.2, ?_⟩
  obtain ⟨i, hi, ei⟩ := le_of_nI (n := 9) h5.2.2.1 h5.2.2.2 (by decide)
  obtain ⟨j, hj, ej⟩ := le_of_nI (n := 9) h6.2.2.1 h6.2.2.2 (by decide)
  rw [h7, ei, ej, show (10 : Int32) = nI 10 from rfl, pk_mul, nI_add]
  exact nI_pos' (by omega)
/-! the reference's reading, a letter a step -/
def fin (r : Int32 × KT) : Int32 × KT := if r.1 = 0 then (0, r.2) else if nxt r.2 (tAt r.2) = 59 then (1, tSetAt r.2 (tAt r.2 + 1)) else (0, r.2)
theorem stm_fin {t : KT} (h : isHeadB (nxt t (tAt t)) = true) : stmT t = fin (rH t) := if_pos h
theorem fin_0 (u : KT) : fin (0, u) = (0, u) := rfl
theorem i10 : ¬ (1 : Int32) = 0 := by decide
theorem fin_1 {z : KZ} {u : KT} (hL : LinkT z u) {q : Nat} (hq : q < 2 ^ 31) (e : tAt u = nI q) (h : isAt z q 59) : fin (1, u) = (1, tSetAt u (nI (q + 1))) := by
  have h1 : nxt u (tAt u) = 59 := by rw [e]; exact (at_59 hL hq).mp h
  have r : fin (1, u) = (1, tSetAt u (tAt u + 1)) := (if_neg i10).trans (if_pos h1)
  rw [r, e, nI_1]
theorem fin_2 {z : KZ} {u : KT} (hL : LinkT z u) {q : Nat} (hq : q < 2 ^ 31) (e : tAt u = nI q) (h : ¬ isAt z q 59) : fin (1, u) = (0, u) := by
  have h1 : ¬ nxt u (tAt u) = 59 := fun c => h ((at_59 hL hq).mpr (by rw [← e]; exact c))
  exact (if_neg i10).trans (if_neg h1)
abbrev uD (z : KZ) (u : KT) (q : Nat) (p : Int32) : KT := mkT (tTape u) (tLetter u) (tLetterAt u) (upd (tTold u) p.toNatClampNeg (zText z q - 48)) (tTaped u) (nI (q + 1)) (tStm u)
theorem at_nxt {z : KZ} {u : KT} (hL : LinkT z u) {q : Nat} {c : Int32} (hq : q < 2 ^ 31) (h : isAt z q c) : nxt u (nI q) = zText z q := by
  rw [nxt_z hL hq, if_pos h.1]
theorem rdD_1 {z : KZ} {u : KT} (hL : LinkT z u) {q : Nat} (hq : q < 2 ^ 31) (e : tAt u = nI q) (h : isAt z q 57) (p : Int32) : rdD u p 1 = (1, uD z u q p) := by
  have h1 := (at_57 hL hq).mp h
  have hl : rdLoop u (1 : Int32).toNatClampNeg (tAt u) 0 = (true, nI (q + 1), zText z q - 48) := by
    rw [e, show (1 : Int32).toNatClampNeg = 0 + 1 from rfl, rdLoop, if_neg h1, rdLoop, at_nxt hL hq h, nI_1]
    simp
  rw [rdD_e, hl]; rfl
theorem rdD_0 {z : KZ} {u : KT} (hL : LinkT z u) {q : Nat} (hq : q < 2 ^ 31) (e : tAt u = nI q) (h : ¬ isAt z q 57) (p : Int32) : rdD u p 1 = (0, u) := by
  have h1 : isInM (nxt u (nI q)) 48 57 = 0 := Decidable.byContradiction fun c => h ((at_57 hL hq).mpr c)
  have hl : rdLoop u (1 : Int32).toNatClampNeg (tAt u) 0 = (false, tAt u, 0) := by
    rw [show (1 : Int32).toNatClampNeg = 0 + 1 from rfl, rdLoop, e, if_pos h1]
  rw [rdD_e, hl]; rfl
abbrev uDD (z : KZ) (u : KT) (q : Nat) (p : Int32) : KT := mkT (tTape u) (tLetter u) (tLetterAt u) (upd (tTold u) p.toNatClampNeg (10 * (zText z q - 48) + (zText z (q + 1) - 48))) (tTaped u) (nI (q + 2)) (tStm u)
theorem rdE_1 {z : KZ} {u : KT} (hL : LinkT z u) {q : Nat} (hq : q + 1 < 2 ^ 31) (e : tAt u = nI q) (h : isAt z q 57) (h2 : isAt z (q + 1) 57) (p : Int32) : rdD u p 2 = (1, uDD z u q p) := by
  have k1 := (at_57 hL (by omega)).mp h
  have k2 := (at_57 hL hq).mp h2
  have hl : rdLoop u (2 : Int32).toNatClampNeg (tAt u) 0 = (true, nI (q + 2), 10 * (zText z q - 48) + (zText z (q + 1) - 48)) := by
    rw [e, show (2 : Int32).toNatClampNeg = 0 + 1 + 1 from rfl, rdLoop, if_neg k1, nI_1, rdLoop, if_neg k2, rdLoop, at_nxt hL (by omega) h, at_nxt hL hq h2, nI_1]
    simp [Int32.sub_eq_add_neg, Int32.add_assoc]
  rw [rdD_e, hl]; rfl
theorem rdE_2 {z : KZ} {u : KT} (hL : LinkT z u) {q : Nat} (hq : q + 1 < 2 ^ 31) (e : tAt u = nI q) (h : isAt z q 57) (h2 : ¬ isAt z (q + 1) 57) (p : Int32) : rdD u p 2 = (0, tSetAt u (nI (q + 1))) := by
  have k1 := (at_57 hL (by omega)).mp h
  have k2 : isInM (nxt u (nI (q + 1))) 48 57 = 0 := Decidable.byContradiction fun c => h2 ((at_57 hL hq).mpr c)
  have hl : (rdLoop u (2 : Int32).toNatClampNeg (tAt u) 0).1 = false ∧ (rdLoop u (2 : Int32).toNatClampNeg (tAt u) 0).2.1 = nI (q + 1) := by
    rw [e, show (2 : Int32).toNatClampNeg = 0 + 1 + 1 from rfl, rdLoop, if_neg k1, nI_1, rdLoop, if_pos k2]; exact ⟨rfl, rfl⟩
  rw [rdD_e, hl.1, hl.2]; rfl
theorem rdE_0 {z : KZ} {u : KT} (hL : LinkT z u) {q : Nat} (hq : q < 2 ^ 31) (e : tAt u = nI q) (h : ¬ isAt z q 57) (p : Int32) : rdD u p 2 = (0, u) := by
  have h1 : isInM (nxt u (nI q)) 48 57 = 0 := Decidable.byContradiction fun c => h ((at_57 hL hq).mpr c)
  have hl : rdLoop u (2 : Int32).toNatClampNeg (tAt u) 0 = (false, tAt u, 0) := by
    rw [show (2 : Int32).toNatClampNeg = 1 + 1 from rfl, rdLoop, e, if_pos h1]
  rw [rdD_e, hl]; rfl
theorem pair01 {c : Int32 × KT} (h : c.1 = 0 ∨ c.1 = 1) : (if c.1 = 0 then (0, c.2) else (1, c.2) : Int32 × KT) = c := by
  obtain ⟨a, b⟩ := c
  rcases h with h | h
  · have h : a = 0 := h
    subst h; rfl
  · have h : a = 1 := h
    subst h; rfl
theorem rd2_e (t : KT) (p : Int32) : rd2 t p = if (rdD t p 1).1 = 0 then (0, (rdD t p 1).2) else (if (rdD (rdD t p 1).2 (p + 1) 1).1 = 0 then (0, (rdD (rdD t p 1).2 (p + 1) 1).2) else (1, (rdD (rdD t p 1).2 (p + 1) 1).2)) := rfl
theorem rd2_1 {z : KZ} {u : KT} (hL : LinkT z u) {q : Nat} (hq : q < 2 ^ 31) (e : tAt u = nI q) (h : isAt z q 57) (p : Int32) : rd2 u p = rdD (uD z u q p) (p + 1) 1 := by
  have h1 := rdD_1 hL hq e h p
  generalize uD z u q p = U at h1 ⊢
  rw [rd2_e, h1]
  exact (if_neg i10).trans (pair01 (rdD_01 U (p + 1) 1))
theorem rd2_0 {z : KZ} {u : KT} (hL : LinkT z u) {q : Nat} (hq : q < 2 ^ 31) (e : tAt u = nI q) (h : ¬ isAt z q 57) (p : Int32) : rd2 u p = (0, u) := by
  have h1 := rdD_0 hL hq e h p
  unfold rd2
  rw [h1]; rfl
theorem rd3_e (t : KT) (p : Int32) : rd3 t p = if (rdD t p 1).1 = 0 then (0, (rdD t p 1).2) else rd2 (rdD t p 1).2 (p + 1) := by
  have h : p + 1 + 1 = p + 2 := by rw [Int32.add_assoc]; rfl
  rw [rd2_e, h]; rfl
theorem rd3_1 {z : KZ} {u : KT} (hL : LinkT z u) {q : Nat} (hq : q < 2 ^ 31) (e : tAt u = nI q) (h : isAt z q 57) (p : Int32) : rd3 u p = rd2 (uD z u q p) (p + 1) := by
  have h1 := rdD_1 hL hq e h p
  generalize uD z u q p = U at h1 ⊢
  rw [rd3_e, h1]
  exact if_neg i10
theorem rd3_0 {z : KZ} {u : KT} (hL : LinkT z u) {q : Nat} (hq : q < 2 ^ 31) (e : tAt u = nI q) (h : ¬ isAt z q 57) (p : Int32) : rd3 u p = (0, u) := by
  have h1 := rdD_0 hL hq e h p
  unfold rd3
  rw [h1]; rfl
abbrev uK (z : KZ) (u : KT) (q : Nat) (p : Int32) : KT := mkT (tTape u) (tLetter u) (tLetterAt u) (upd (tTold u) p.toNatClampNeg (kindOfI (zText z q))) (tTaped u) (nI (q + 1)) (tStm u)
def rdWt (u : KT) (p : Int32) : Int32 × KT := let a := rdD u (p + 1) 1; if a.1 = 0 then (0, a.2) else let b := rdD a.2 (p + 2) 2; if b.1 = 0 then (0, b.2) else (1, b.2)
theorem rdW_s {z : KZ} {u : KT} (hL : LinkT z u) {q : Nat} (hq : q < 2 ^ 31) (e : tAt u = nI q) (h : isAt z q 119) (p : Int32) : rdW u p = rdWt (uK z u q p) p := by
  have h1 := (at_119 hL hq).mp h
  have e2 : tW u p = uK z u q p := by
    unfold tW uK; rw [e, at_nxt hL hq h, nI_1]
  rw [← e2]
  exact if_neg (by rw [e]; exact h1)
theorem rdW_n {z : KZ} {u : KT} (hL : LinkT z u) {q : Nat} (hq : q < 2 ^ 31) (e : tAt u = nI q) (h : ¬ isAt z q 119) (p : Int32) : ∃ f, rdW u p = (0, tSetTold u f) := by
  have h1 : kindOfI (nxt u (nI q)) < 0 := Decidable.byContradiction fun c => h ((at_119 hL hq).mpr c)
  exact ⟨_, rdW_0 (by rw [e]; exact h1)⟩
theorem rdWt_e (u : KT) (p : Int32) : rdWt u p = if (rdD u (p + 1) 1).1 = 0 then (0, (rdD u (p + 1) 1).2) else (if (rdD (rdD u (p + 1) 1).2 (p + 2) 2).1 = 0 then (0, (rdD (rdD u (p + 1) 1).2 (p + 2) 2).2) else (1, (rdD (rdD u (p + 1) 1).2 (p + 2) 2).2)) := rfl
theorem rdWt_1 {z : KZ} {u : KT} (hL : LinkT z u) {q : Nat} (hq : q < 2 ^ 31) (e : tAt u = nI q) (h : isAt z q 57) (p : Int32) : rdWt u p = rdD (uD z u q (p + 1)) (p + 2) 2 := by
  have h1 := rdD_1 hL hq e h (p + 1)
  generalize uD z u q (p + 1) = U at h1 ⊢
  rw [rdWt_e, h1]
  exact (if_neg i10).trans (pair01 (rdD_01 U (p + 2) 2))
theorem rdWt_0 {z : KZ} {u : KT} (hL : LinkT z u) {q : Nat} (hq : q < 2 ^ 31) (e : tAt u = nI q) (h : ¬ isAt z q 57) (p : Int32) : rdWt u p = (0, u) := by
  have h1 := rdD_0 hL hq e h (p + 1)
  unfold rdWt
  rw [h1]; rfl
/-- what a reading leaves: the place of the first wrong letter, or all is read -/
def Sp (z : KZ) (R : Int32 × KT) (l : List Int32) (q : Nat) (G : KT → Prop) : Prop :=
  (∀ r, scan z l q = some r → R.1 = 0 ∧ tAt R.2 = nI r) ∧ (scan z l q = none → R.1 = 1 ∧ tAt R.2 = nI (q + l.length) ∧ nI (q + l.length - 1) < zLen z ∧ G R.2)
theorem Sp_cons {z : KZ} {R R' : Int32 × KT} {c : Int32} {l : List Int32} {q : Nat} {G : KT → Prop} (h1 : isAt z q c → R = R' ∧ Sp z R' l (q + 1) G) (h0 : ¬ isAt z q c → R.1 = 0 ∧ tAt R.2 = nI q) : Sp z R (c :: l) q G := by
  by_cases k : isAt z q c
  · obtain ⟨e, h⟩ := h1 k
    subst e
    refine ⟨fun r hr => h.1 r (by rw [← scan_1 k]; exact hr), fun hn => ?_⟩
    obtain ⟨a, b, d, f⟩ := h.2 (by rw [← scan_1 k]; exact hn)
    have e : q + (c :: l).length = q + 1 + l.length := by show q + (l.length + 1) = _; omega
    rw [e]
    exact ⟨a, b, d, f⟩
  · refine ⟨fun r hr => ?_, fun hn => ?_⟩
    · rw [scan_0 k] at hr; cases hr; exact h0 k
    · rw [scan_0 k] at hn; cases hn
theorem Sp_end {z : KZ} {u : KT} (hL : LinkT z u) {q : Nat} (hq : q < 2 ^ 31) (e : tAt u = nI q) {G : KT → Prop} (hG : G (tSetAt u (nI (q + 1)))) : Sp z (fin (1, u)) [59] q G := by
  by_cases k : isAt z q 59
  · rw [fin_1 hL hq e k]
    refine ⟨fun r hr => ?_, fun _ => ⟨rfl, rfl, k.1, hG⟩⟩
    rw [scan_1 k] at hr; cases hr
  · rw [fin_2 hL hq e k]
    refine ⟨fun r hr => ?_, fun hn => ?_⟩
    · rw [scan_0 k] at hr; cases hr; exact ⟨rfl, e⟩
    · rw [scan_0 k] at hn; cases hn
/-- what stands told of a statement that has been read -/
def stmG (z : KZ) (t : KT) (q s : Nat) (u : KT) : Prop := LinkT z u ∧ tStm u = tStm t ∧ tLetter u = upd (tLetter t) s (zText z q) ∧ tLetterAt u = upd (tLetterAt t) s (nI q) ∧ toldV z (zText z q) q (tTold u (3 * s)) (tTold u (3 * s + 1)) (tTold u (3 * s + 2)) ∧ ∀ i, i < 3 * s → tTold u i = tTold t i
theorem tH_at {z : KZ} {t : KT} (hL : LinkT z t) {q s : Nat} (hq : q < 2 ^ 30) (e : tAt t = nI q) (hs : tStm t = nI s) (hs2 : s < 48) (hlt : nI q < zLen z) : tH t = mkT (tTape t) (upd (tLetter t) s (zText z q)) (upd (tLetterAt t) s (nI q)) (tTold t) (tTaped t) (nI (q + 1)) (tStm t) := by
  unfold tH
  rw [e, nxt_z hL (by omega), if_pos hlt, hs, nI_clamp (by omega), nI_1]
theorem three_n {s : Nat} : 3 * nI s = nI (3 * s) := by rw [show (3 : Int32) = nI 3 from rfl, pk_mul]
theorem cl_1 {p : Nat} (hp : p < 1000) : (nI p + 1).toNatClampNeg = p + 1 := by rw [nI_1, nI_clamp (by omega)]
theorem cl_2 {p : Nat} (hp : p < 1000) : (nI p + 2).toNatClampNeg = p + 2 := by rw [show nI p + 2 = nI (p + 2) from nI_add p 2, nI_clamp (by omega)]
theorem ne_of {a b c : Int32} (h : a = b) (hn : ¬ b = c) : ¬ a = c := by rw [h]; exact hn
theorem stm_spec {z : KZ} {t : KT} (hL : LinkT z t) {q s : Nat} (hq : q < 1000) (e : tAt t = nI q) (hs : tStm t = nI s) (hs2 : s < 48) (hlt : nI q < zLen z) (hb : isHeadB (zText z q) = true) : Sp z (stmT t) (bytS.getD (shapeN (zText z q)) []) (q + 1) (stmG z t q s) := by
  have en : nxt t (tAt t) = zText z q := by rw [e, nxt_z hL (by omega), if_pos hlt]
  rw [stm_fin (by rw [en]; exact hb)]
  have et := tH_at hL (by omega) e hs hs2 hlt
  have eR : rH t = rdAll (mkT (tTape t) (upd (tLetter t) s (zText z q)) (upd (tLetterAt t) s (nI q)) (tTold t) (tTaped t) (nI (q + 1)) (tStm t)) (zText z q) (nI (3 * s)) := by
    unfold rH; rw [et, en, hs, three_n]
  rw [eR, rdAll_e]
  generalize hT : mkT (tTape t) (upd (tLetter t) s (zText z q)) (upd (tLetterAt t) s (nI q)) (tTold t) (tTaped t) (nI (q + 1)) (tStm t) = T
  have tL : LinkT z T := by subst hT; exact hL
  have tA : tAt T = nI (q + 1) := by subst hT; rfl
  have tS : tStm T = tStm t := by subst hT; rfl
  have t1 : tLetter T = upd (tLetter t) s (zText z q) := by subst hT; rfl
  have t2 : tLetterAt T = upd (tLetterAt t) s (nI q) := by subst hT; rfl
  have t3 : tTold T = tTold t := by subst hT; rfl
  clear hT eR et
  have c0 : (nI (3 * s)).toNatClampNeg = 3 * s := nI_clamp (by omega)
  have c1 : (nI (3 * s) + 1).toNatClampNeg = 3 * s + 1 := cl_1 (by omega)
  have c2 : (nI (3 * s) + 2).toNatClampNeg = 3 * s + 2 := cl_2 (by omega)
  have c3 : (nI (3 * s) + 1 + 1).toNatClampNeg = 3 * s + 2 := by rw [nI_1]; exact cl_1 (by omega)
  by_cases h1 : zText z q = 102
  · rw [if_pos h1, h1]
    show Sp z _ [57, 59] (q + 1) _
    refine Sp_cons (R' := fin (1, uD z T (q + 1) (nI (3 * s)))) (fun k => ⟨by rw [rdD_1 tL (by omega) tA k], ?_⟩) (fun k => by rw [rdD_0 tL (by omega) tA k, fin_0]; exact ⟨rfl, tA⟩)
    refine Sp_end (u := uD z T (q + 1) (nI (3 * s))) (q := q + 1 + 1) (G := stmG z t q s) tL (by omega) rfl ⟨tL, tS, t1, t2, ?_, ?_⟩
    · rw [h1]
      show toldV z 102 q (upd _ _ _ _) (upd _ _ _ _) (upd _ _ _ _)
      rw [c0, pk_us]
      exact ⟨fun _ => dg_of k, fun n => absurd n (by decide), fun n => absurd n (by decide), fun n => absurd n (by decide)⟩
    · intro i hi
      show upd _ _ _ _ = _
      rw [c0, pk_un (by omega), t3]
  rw [if_neg h1]
  by_cases h2 : zText z q = 113
  · rw [if_pos h2, h2]
    show Sp z _ [57, 57, 57, 59] (q + 1) _
    refine Sp_cons (R' := fin (rd2 (uD z T (q + 1) (nI (3 * s))) (nI (3 * s) + 1))) (fun k1 => ⟨by rw [rd3_1 tL (by omega) tA k1], ?_⟩) (fun k => by rw [rd3_0 tL (by omega) tA k, fin_0]; exact ⟨rfl, tA⟩)
    refine Sp_cons (R' := fin (rdD (uD z (uD z T (q + 1) (nI (3 * s))) (q + 1 + 1) (nI (3 * s) + 1)) (nI (3 * s) + 1 + 1) 1)) (fun k2 => ⟨by rw [rd2_1 (z := z) (u := uD z T (q + 1) (nI (3 * s))) tL (by omega) rfl k2], ?_⟩) (fun k => by rw [rd2_0 (z := z) (u := uD z T (q + 1) (nI (3 * s))) tL (by omega) rfl k, fin_0]; exact ⟨rfl, rfl⟩)
    refine Sp_cons (R' := fin (1, uD z (uD z (uD z T (q + 1) (nI (3 * s))) (q + 1 + 1) (nI (3 * s) + 1)) (q + 1 + 1 + 1) (nI (3 * s) + 1 + 1))) (fun k3 => ⟨by rw [rdD_1 (z := z) (u := uD z (uD z T (q + 1) (nI (3 * s))) (q + 1 + 1) (nI (3 * s) + 1)) tL (by omega) rfl k3], ?_⟩) (fun k => by rw [rdD_0 (z := z) (u := uD z (uD z T (q + 1) (nI (3 * s))) (q + 1 + 1) (nI (3 * s) + 1)) tL (by omega) rfl k, fin_0]; exact ⟨rfl, rfl⟩)
    refine Sp_end (u := uD z (uD z (uD z T (q + 1) (nI (3 * s))) (q + 1 + 1) (nI (3 * s) + 1)) (q + 1 + 1 + 1) (nI (3 * s) + 1 + 1)) (q := q + 1 + 1 + 1 + 1) (G := stmG z t q s) tL (by omega) rfl ⟨tL, tS, t1, t2, ?_, ?_⟩
    · rw [h2]
      show toldV z 113 q (upd (upd (upd _ _ _) _ _) _ _ _) (upd (upd (upd _ _ _) _ _) _ _ _) (upd (upd (upd _ _ _) _ _) _ _ _)
      rw [c0, c1, c3, pk_us, pk_un (by omega), pk_un (by omega), pk_us, pk_un (by omega), pk_us]
      exact ⟨fun n => absurd n (by decide), fun _ => ⟨dg_of k1, dg_of k2, dg_of k3⟩, fun n => absurd n (by decide), fun n => absurd n (by decide)⟩
    · intro i hi
      show upd (upd (upd _ _ _) _ _) _ _ _ = _
      rw [c0, c1, c3, pk_un (by omega), pk_un (by omega), pk_un (by omega), t3]
  rw [if_neg h2]
  by_cases h3 : zText z q = 119
  · rw [if_pos h3, h3]
    show Sp z _ [119, 57, 57, 57, 59] (q + 1) _
    refine Sp_cons (R' := fin (rdWt (uK z T (q + 1) (nI (3 * s))) (nI (3 * s)))) (fun k1 => ⟨by rw [rdW_s tL (by omega) tA k1], ?_⟩) (fun k => by
      obtain ⟨f, ef⟩ := rdW_n tL (by omega) tA k (nI (3 * s))
      rw [ef, fin_0]; exact ⟨rfl, tA⟩)
    refine Sp_cons (R' := fin (rdD (uD z (uK z T (q + 1) (nI (3 * s))) (q + 1 + 1) (nI (3 * s) + 1)) (nI (3 * s) + 2) 2)) (fun k2 => ⟨by rw [rdWt_1 (z := z) (u := uK z T (q + 1) (nI (3 * s))) tL (by omega) rfl k2], ?_⟩) (fun k => by rw [rdWt_0 (z := z) (u := uK z T (q + 1) (nI (3 * s))) tL (by omega) rfl k, fin_0]; exact ⟨rfl, rfl⟩)
    refine Sp_cons (fun k3 => ⟨rfl, ?_⟩) (fun k => by rw [rdE_0 (z := z) (u := uD z (uK z T (q + 1) (nI (3 * s))) (q + 1 + 1) (nI (3 * s) + 1)) tL (by omega) rfl k, fin_0]; exact ⟨rfl, rfl⟩)
    refine Sp_cons (R' := fin (1, uDD z (uD z (uK z T (q + 1) (nI (3 * s))) (q + 1 + 1) (nI (3 * s) + 1)) (q + 1 + 1 + 1) (nI (3 * s) + 2))) (fun k4 => ⟨by rw [rdE_1 (z := z) (u := uD z (uK z T (q + 1) (nI (3 * s))) (q + 1 + 1) (nI (3 * s) + 1)) tL (by omega) rfl k3 k4], ?_⟩) (fun k => by rw [rdE_2 (z := z) (u := uD z (uK z T (q + 1) (nI (3 * s))) (q + 1 + 1) (nI (3 * s) + 1)) tL (by omega) rfl k3 k, fin_0]; exact ⟨rfl, rfl⟩)
    refine Sp_end (u := uDD z (uD z (uK z T (q + 1) (nI (3 * s))) (q + 1 + 1) (nI (3 * s) + 1)) (q + 1 + 1 + 1) (nI (3 * s) + 2)) (q := q + 1 + 1 + 1 + 1 + 1) (G := stmG z t q s) tL (by omega) rfl ⟨tL, tS, t1, t2, ?_, ?_⟩
    · rw [h3]
      show toldV z 119 q (upd (upd (upd _ _ _) _ _) _ _ _) (upd (upd (upd _ _ _) _ _) _ _ _) (upd (upd (upd _ _ _) _ _) _ _ _)
      rw [c0, c1, c2, pk_us, pk_un (by omega), pk_un (by omega), pk_us, pk_un (by omega), pk_us]
      refine ⟨fun n => absurd n (by decide), fun n => absurd n (by decide), fun _ => ⟨⟨k1.1, rfl, ?_⟩, dg_of k2, _, _, dg_of k3, dg_of k4, rfl⟩, fun n => absurd n (by decide)⟩
      have := (at_119 tL (by omega)).mp k1
      rw [at_nxt tL (by omega) k1] at this
      exact Int32.not_lt.mp this
    · intro i hi
      show upd (upd (upd _ _ _) _ _) _ _ _ = _
      rw [c0, c1, c2, pk_un (by omega), pk_un (by omega), pk_un (by omega), t3]
  rw [if_neg h3]
  by_cases h4 : zText z q = 110
  · rw [if_pos h4, h4]
    show Sp z _ [59] (q + 1) _
    refine Sp_end (u := T) (q := q + 1) (G := stmG z t q s) tL (by omega) tA ⟨tL, tS, t1, t2, ?_, ?_⟩
    · rw [h4]
      exact ⟨fun n => absurd n (by decide), fun n => absurd n (by decide), fun n => absurd n (by decide), fun n => absurd n (by decide)⟩
    · intro i hi
      show tTold T i = _
      rw [t3]
  rw [if_neg h4]
  have h5 : zText z q = 107 ∨ zText z q = 97 := by
    unfold isHeadB at hb
    simp [h1, h2, h3, h4] at hb
    exact hb
  have el : bytS.getD (shapeN (zText z q)) [] = [57, 57, 59] := by
    rcases h5 with h5 | h5 <;> rw [h5] <;> rfl
  rw [el]
  refine Sp_cons (R' := fin (rdD (uD z T (q + 1) (nI (3 * s))) (nI (3 * s) + 1) 1)) (fun k1 => ⟨by rw [rd2_1 tL (by omega) tA k1], ?_⟩) (fun k => by rw [rd2_0 tL (by omega) tA k, fin_0]; exact ⟨rfl, tA⟩)
  refine Sp_cons (R' := fin (1, uD z (uD z T (q + 1) (nI (3 * s))) (q + 1 + 1) (nI (3 * s) + 1))) (fun k2 => ⟨by rw [rdD_1 (z := z) (u := uD z T (q + 1) (nI (3 * s))) tL (by omega) rfl k2], ?_⟩) (fun k => by rw [rdD_0 (z := z) (u := uD z T (q + 1) (nI (3 * s))) tL (by omega) rfl k, fin_0]; exact ⟨rfl, rfl⟩)
  refine Sp_end (u := uD z (uD z T (q + 1) (nI (3 * s))) (q + 1 + 1) (nI (3 * s) + 1)) (q := q + 1 + 1 + 1) (G := stmG z t q s) tL (by omega) rfl ⟨tL, tS, t1, t2, ?_, ?_⟩
  · show toldV z (zText z q) q (upd (upd _ _ _) _ _ _) (upd (upd _ _ _) _ _ _) (upd (upd _ _ _) _ _ _)
    rw [c0, c1, pk_un (by omega), pk_us, pk_us]
    exact ⟨fun n => absurd n h1, fun n => absurd n h2, fun n => absurd n h3, fun _ => ⟨dg_of k1, dg_of k2⟩⟩
  · intro i hi
    show upd (upd _ _ _) _ _ _ = _
    rw [c0, c1, pk_un (by omega), pk_un (by omega), t3]
