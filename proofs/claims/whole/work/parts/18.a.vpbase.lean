/-! facts for the parse's conditions -/
theorem vin_nat {x : Int32} {n : Nat} (h : vp_in x n) (hn : n < 2 ^ 31) : ∃ k : Nat, k < n ∧ x = nI k := by
  obtain ⟨h1, h2⟩ := vp_in_iff.mp h
  have h3 : ¬ x < 0 := fun c => by rw [int_lt] at c; have e0 : (0 : Int32).toInt = 0 := by decide
                                   omega
  obtain ⟨k, hk, e⟩ := nI_of h3
  rw [e, nI_toInt hk] at h2
  exact ⟨k, by omega, e⟩
theorem inc_le {a b : Int32} (h0 : 0 ≤ a) (h1 : a < b) (h2 : b ≤ 96) : 0 ≤ a + 1 ∧ a + 1 ≤ b ∧ a ≤ a + 1 := by
  obtain ⟨j, hj, rfl⟩ := nI_of (Int32.not_lt.mpr h0)
  have hb0 : 0 ≤ b := Int32.le_trans h0 (Int32.le_of_lt h1)
  obtain ⟨m, hm, rfl⟩ := le_of_nI (n := 96) hb0 h2 (by decide)
  have := (nI_ltI hj (by omega)).mp h1
  rw [nI_1]
  exact ⟨nI_pos' (by omega), nI_le (by omega) (by omega), nI_le (by omega) (by omega)⟩
theorem nxt_lt {t : KT} {a : Int32} (h : ¬ nxt t a = -1) : a < tTaped t := by
  unfold nxt at h
  by_cases c : a < tTaped t
  · exact c
  · rw [if_neg c] at h; exact absurd rfl h
theorem dig_lt {t : KT} {a : Int32} (h : ¬ isInM (nxt t a) 48 57 = 0) : a < tTaped t := by
  refine nxt_lt (fun c => h ?_)
  rw [c]; decide
theorem kind_lt {t : KT} {a : Int32} (h : ¬ kindOfI (nxt t a) < 0) : a < tTaped t := by
  refine nxt_lt (fun c => h ?_)
  rw [c]; decide
theorem head_lt {t : KT} {a : Int32} (h : isHeadB (nxt t a) = true) : a < tTaped t := by
  refine nxt_lt (fun c => ?_)
  rw [c] at h; exact absurd h (by decide)
theorem semi_lt {t : KT} {a : Int32} (h : nxt t a = 59) : a < tTaped t := by
  refine nxt_lt (fun c => ?_)
  rw [c] at h; exact absurd h (by decide)
theorem rdLoop_b {t : KT} (ht : tTaped t ≤ 96) : ∀ (d : Nat) (a v : Int32), 0 ≤ a → a ≤ (rdLoop t d a v).2.1 ∧ (∀ B : Int32, tTaped t ≤ B → a ≤ B → (rdLoop t d a v).2.1 ≤ B)
  | 0, a, v, _ => ⟨Int32.le_refl _, fun _ _ h => h⟩
  | d + 1, a, v, h0 => by
    rw [rdLoop]
    by_cases c : isInM (nxt t a) 48 57 = 0
    · rw [if_pos c]; exact ⟨Int32.le_refl _, fun _ _ h => h⟩
    · rw [if_neg c]
      obtain ⟨i0, i1, i2⟩ := inc_le h0 (dig_lt c) ht
      obtain ⟨b1, b2⟩ := rdLoop_b ht d (a + 1) (10 * v + nxt t a - 48) i0
      exact ⟨Int32.le_trans i2 b1, fun B h1 _ => b2 B h1 (Int32.le_trans i1 h1)⟩
/-- a parse's step: what stays, where it goes -/
def goesT (t u : KT) : Prop := tTape u = tTape t ∧ tLetter u = tLetter t ∧ tLetterAt u = tLetterAt t ∧ tTaped u = tTaped t ∧ tStm u = tStm t ∧ tAt t ≤ tAt u ∧ ∀ B : Int32, tTaped t ≤ B → tAt t ≤ B → tAt u ≤ B
theorem goesT.rf {t : KT} : goesT t t := ⟨rfl, rfl, rfl, rfl, rfl, Int32.le_refl _, fun _ _ h => h⟩
theorem goesT.tr {t u v : KT} (h : goesT t u) (k : goesT u v) : goesT t v := by
  obtain ⟨a1, a2, a3, a4, a5, a6, a7⟩ := h
  obtain ⟨b1, b2, b3, b4, b5, b6, b7⟩ := k
  exact ⟨b1.trans a1, b2.trans a2, b3.trans a3, b4.trans a4, b5.trans a5, Int32.le_trans a6 b6, fun B h1 h2 => b7 B (a4 ▸ h1) (a7 B h1 h2)⟩
def PAt (t : KT) : Prop := 0 ≤ tAt t ∧ tAt t ≤ 96 ∧ tTaped t ≤ 96
theorem goesT.pa {t u : KT} (h : goesT t u) (k : PAt t) : PAt u := by
  obtain ⟨a1, a2, a3, a4, a5, a6, a7⟩ := h
  exact ⟨Int32.le_trans k.1 a6, a7 96 k.2.2 k.2.1, a4 ▸ k.2.2⟩
theorem rdD_e (t : KT) (p d : Int32) : rdD t p d = if (rdLoop t d.toNatClampNeg (tAt t) 0).1 = true then (1, tSetTold (tSetAt t (rdLoop t d.toNatClampNeg (tAt t) 0).2.1) (upd (tTold t) p.toNatClampNeg (rdLoop t d.toNatClampNeg (tAt t) 0).2.2)) else (0, tSetAt t (rdLoop t d.toNatClampNeg (tAt t) 0).2.1) := rfl
theorem rdD_g {t : KT} (h : PAt t) (p d : Int32) : goesT t (rdD t p d).2 := by
  obtain ⟨b1, b2⟩ := rdLoop_b h.2.2 d.toNatClampNeg (tAt t) 0 h.1
  rw [rdD_e]
  by_cases c : (rdLoop t d.toNatClampNeg (tAt t) 0).1 = true
  · rw [if_pos c]; exact ⟨rfl, rfl, rfl, rfl, rfl, b1, b2⟩
  · rw [if_neg c]; exact ⟨rfl, rfl, rfl, rfl, rfl, b1, b2⟩
theorem rdD_01 (t : KT) (p d : Int32) : (rdD t p d).1 = 0 ∨ (rdD t p d).1 = 1 := by
  rw [rdD_e]
  by_cases c : (rdLoop t d.toNatClampNeg (tAt t) 0).1 = true
  · rw [if_pos c]; exact Or.inr rfl
  · rw [if_neg c]; exact Or.inl rfl
theorem nar01 {r : Int32} (h : r = 0 ∨ r = 1) : narrow .boolean (.int r) = .int r := by
  rcases h with rfl | rfl <;> rfl
abbrev tW (t : KT) (p : Int32) : KT := mkT (tTape t) (tLetter t) (tLetterAt t) (upd (tTold t) p.toNatClampNeg (kindOfI (nxt t (tAt t)))) (tTaped t) (tAt t + 1) (tStm t)
theorem rdW_0 {t : KT} {p : Int32} (h : kindOfI (nxt t (tAt t)) < 0) : rdW t p = (0, tSetTold t (upd (tTold t) p.toNatClampNeg (kindOfI (nxt t (tAt t))))) := if_pos h
theorem rdW_1 {t : KT} {p : Int32} (h : ¬ kindOfI (nxt t (tAt t)) < 0) (h1 : (rdD (tW t p) (p + 1) 1).1 = 0) : rdW t p = (0, (rdD (tW t p) (p + 1) 1).2) := (if_neg h).trans (if_pos h1)
theorem rdW_2 {t : KT} {p : Int32} (h : ¬ kindOfI (nxt t (tAt t)) < 0) (h1 : ¬ (rdD (tW t p) (p + 1) 1).1 = 0) (h2 : (rdD (rdD (tW t p) (p + 1) 1).2 (p + 2) 2).1 = 0) : rdW t p = (0, (rdD (rdD (tW t p) (p + 1) 1).2 (p + 2) 2).2) := (if_neg h).trans ((if_neg h1).trans (if_pos h2))
theorem rdW_3 {t : KT} {p : Int32} (h : ¬ kindOfI (nxt t (tAt t)) < 0) (h1 : ¬ (rdD (tW t p) (p + 1) 1).1 = 0) (h2 : ¬ (rdD (rdD (tW t p) (p + 1) 1).2 (p + 2) 2).1 = 0) : rdW t p = (1, (rdD (rdD (tW t p) (p + 1) 1).2 (p + 2) 2).2) := (if_neg h).trans ((if_neg h1).trans (if_neg h2))
theorem tW_g {t : KT} (h : PAt t) {p : Int32} (hk : ¬ kindOfI (nxt t (tAt t)) < 0) : goesT t (tW t p) := by
  obtain ⟨i0, i1, i2⟩ := inc_le h.1 (kind_lt hk) h.2.2
  exact ⟨rfl, rfl, rfl, rfl, rfl, i2, fun B h1 _ => Int32.le_trans i1 h1⟩
theorem g_of {t u : KT} {P : Int32 × KT} {r : Int32} (e : P = (r, u)) (h : goesT t u) : goesT t P.2 := by subst e; exact h
theorem rdW_g {t : KT} (h : PAt t) (p : Int32) : goesT t (rdW t p).2 := by
  by_cases c0 : kindOfI (nxt t (tAt t)) < 0
  · exact g_of (rdW_0 c0) goesT.rf
  · have g0 := tW_g h (p := p) c0
    have g1 := rdD_g (g0.pa h) (p + 1) 1
    by_cases c1 : (rdD (tW t p) (p + 1) 1).1 = 0
    · exact g_of (rdW_1 c0 c1) (g0.tr g1)
    · have g2 := rdD_g (g1.pa (g0.pa h)) (p + 2) 2
      by_cases c2 : (rdD (rdD (tW t p) (p + 1) 1).2 (p + 2) 2).1 = 0
      · exact g_of (rdW_2 c0 c1 c2) ((g0.tr g1).tr g2)
      · exact g_of (rdW_3 c0 c1 c2) ((g0.tr g1).tr g2)
theorem rdW_01 (t : KT) (p : Int32) : (rdW t p).1 = 0 ∨ (rdW t p).1 = 1 := by
  by_cases c0 : kindOfI (nxt t (tAt t)) < 0
  · rw [rdW_0 c0]; exact Or.inl rfl
  · by_cases c1 : (rdD (tW t p) (p + 1) 1).1 = 0
    · rw [rdW_1 c0 c1]; exact Or.inl rfl
    · by_cases c2 : (rdD (rdD (tW t p) (p + 1) 1).2 (p + 2) 2).1 = 0
      · rw [rdW_2 c0 c1 c2]; exact Or.inl rfl
      · rw [rdW_3 c0 c1 c2]; exact Or.inr rfl
/-- two digits' reading, and three -/
def rd2 (t : KT) (p : Int32) : Int32 × KT := let a := rdD t p 1; if a.1 = 0 then (0, a.2) else let c := rdD a.2 (p + 1) 1; if c.1 = 0 then (0, c.2) else (1, c.2)
def rd3 (t : KT) (p : Int32) : Int32 × KT := let a := rdD t p 1; if a.1 = 0 then (0, a.2) else let c := rdD a.2 (p + 1) 1; if c.1 = 0 then (0, c.2) else let d := rdD c.2 (p + 2) 1; if d.1 = 0 then (0, d.2) else (1, d.2)
theorem rdAll_e (t : KT) (b p : Int32) : rdAll t b p = if b = 102 then rdD t p 1 else if b = 113 then rd3 t p else if b = 119 then rdW t p else if b = 110 then (1, t) else rd2 t p := rfl
theorem rd2_g {t : KT} (h : PAt t) (p : Int32) : goesT t (rd2 t p).2 := by
  have g1 := rdD_g h p 1
  have g2 := rdD_g (g1.pa h) (p + 1) 1
  by_cases c1 : (rdD t p 1).1 = 0
  · have e : rd2 t p = (0, (rdD t p 1).2) := if_pos c1
    exact g_of e g1
  · by_cases c2 : (rdD (rdD t p 1).2 (p + 1) 1).1 = 0
    · have e : rd2 t p = (0, (rdD (rdD t p 1).2 (p + 1) 1).2) := (if_neg c1).trans (if_pos c2)
      exact g_of e (g1.tr g2)
    · have e : rd2 t p = (1, (rdD (rdD t p 1).2 (p + 1) 1).2) := (if_neg c1).trans (if_neg c2)
      exact g_of e (g1.tr g2)
theorem rd3_g {t : KT} (h : PAt t) (p : Int32) : goesT t (rd3 t p).2 := by
  have g1 := rdD_g h p 1
  have g2 := rdD_g (g1.pa h) (p + 1) 1
  have g3 := rdD_g (g2.pa (g1.pa h)) (p + 2) 1
  by_cases c1 : (rdD t p 1).1 = 0
  · have e : rd3 t p = (0, (rdD t p 1).2) := if_pos c1
    exact g_of e g1
  · by_cases c2 : (rdD (rdD t p 1).2 (p + 1) 1).1 = 0
    · have e : rd3 t p = (0, (rdD (rdD t p 1).2 (p + 1) 1).2) := (if_neg c1).trans (if_pos c2)
      exact g_of e (g1.tr g2)
    · by_cases c3 : (rdD (rdD (rdD t p 1).2 (p + 1) 1).2 (p + 2) 1).1 = 0
      · have e : rd3 t p = (0, (rdD (rdD (rdD t p 1).2 (p + 1) 1).2 (p + 2) 1).2) := (if_neg c1).trans ((if_neg c2).trans (if_pos c3))
        exact g_of e ((g1.tr g2).tr g3)
      · have e : rd3 t p = (1, (rdD (rdD (rdD t p 1).2 (p + 1) 1).2 (p + 2) 1).2) := (if_neg c1).trans ((if_neg c2).trans (if_neg c3))
        exact g_of e ((g1.tr g2).tr g3)
theorem rdAll_g {t : KT} (h : PAt t) (b p : Int32) : goesT t (rdAll t b p).2 := by
  rw [rdAll_e]
  by_cases c1 : b = 102
  · rw [if_pos c1]; exact rdD_g h p 1
  · rw [if_neg c1]
    by_cases c2 : b = 113
    · rw [if_pos c2]; exact rd3_g h p
    · rw [if_neg c2]
      by_cases c3 : b = 119
      · rw [if_pos c3]; exact rdW_g h p
      · rw [if_neg c3]
        by_cases c4 : b = 110
        · rw [if_pos c4]; exact goesT.rf
        · rw [if_neg c4]; exact rd2_g h p
abbrev tH (t : KT) : KT := mkT (tTape t) (upd (tLetter t) (tStm t).toNatClampNeg (nxt t (tAt t))) (upd (tLetterAt t) (tStm t).toNatClampNeg (tAt t)) (tTold t) (tTaped t) (tAt t + 1) (tStm t)
abbrev rH (t : KT) : Int32 × KT := rdAll (tH t) (nxt t (tAt t)) (3 * tStm t)
theorem stm_n {t : KT} (h : ¬ isHeadB (nxt t (tAt t)) = true) : stmT t = (0, t) := if_neg h
theorem stm_0 {t : KT} (h : isHeadB (nxt t (tAt t)) = true) (d : (rH t).1 = 0) : stmT t = (0, (rH t).2) := (if_pos h).trans (if_pos d)
theorem stm_1 {t : KT} (h : isHeadB (nxt t (tAt t)) = true) (d : ¬ (rH t).1 = 0) (d2 : nxt (rH t).2 (tAt (rH t).2) = 59) : stmT t = (1, tSetAt (rH t).2 (tAt (rH t).2 + 1)) := (if_pos h).trans ((if_neg d).trans (if_pos d2))
theorem stm_2 {t : KT} (h : isHeadB (nxt t (tAt t)) = true) (d : ¬ (rH t).1 = 0) (d2 : ¬ nxt (rH t).2 (tAt (rH t).2) = 59) : stmT t = (0, (rH t).2) := (if_pos h).trans ((if_neg d).trans (if_neg d2))
theorem tH_pa {t : KT} (h : PAt t) (hb : isHeadB (nxt t (tAt t)) = true) : PAt (tH t) := by
  obtain ⟨i0, i1, i2⟩ := inc_le h.1 (head_lt hb) h.2.2
  exact ⟨i0, Int32.le_trans i1 h.2.2, h.2.2⟩
theorem pq {σ : KM} {P : Int32 × KT} {r : Int32} {u : KT} (e : P = (r, u)) : r = P.1 ∧ ((mS σ, u, mK σ, mF σ, mRow σ, mRowMany σ, mLots σ, mRefused σ) : KM) = (mS σ, P.2, mK σ, mF σ, mRow σ, mRowMany σ, mLots σ, mRefused σ) := by
  subst e; exact ⟨rfl, rfl⟩
theorem pk_144 {p : Int32} (h : 0 ≤ p ∧ p ≤ 141) : vp_in p 144 ∧ vp_in (p + 1) 144 ∧ vp_in (p + 2) 144 := by
  obtain ⟨k, hk, rfl⟩ := nI_up (M := 141) (n := 141) (by decide) h
  rw [show nI k + 2 = nI (k + 2) from nI_add k 2, nI_1]
  exact ⟨vin (by omega), vin (by omega), vin (by omega)⟩
theorem three_48 {s : Int32} (h : vp_in s 48) : 0 ≤ 3 * s ∧ 3 * s ≤ 141 := by
  obtain ⟨k, hk, rfl⟩ := vin_nat h (by decide)
  rw [show (3 : Int32) = nI 3 from rfl, pk_mul]
  exact ⟨nI_pos' (by omega), nI_le (b := 141) (by omega) (by decide)⟩
/-! rows kept, and put back -/
theorem loadA_step {kept f : FI} {c : Int32} {j : Nat} : upd (loadA kept c j f) j (kept (c.toNatClampNeg + j)) = loadA kept c (j + 1) f :=
  tab_upd (n := j + 1) (by omega) (fun k => kept (c.toNatClampNeg + k)) f _ rfl
theorem saveA_step {kept f : FI} {c : Int32} {j : Nat} : upd (saveA kept c j f) (c.toNatClampNeg + j) (f j) = saveA kept c (j + 1) f := by
  funext k
  unfold upd saveA
  by_cases h : k = c.toNatClampNeg + j
  · subst h; rw [if_pos rfl, if_pos ⟨by omega, by omega⟩, show c.toNatClampNeg + j - c.toNatClampNeg = j by omega]
  · rw [if_neg h]
    by_cases h2 : c.toNatClampNeg ≤ k ∧ k < c.toNatClampNeg + j
    · rw [if_pos h2, if_pos ⟨h2.1, by omega⟩]
    · rw [if_neg h2, if_neg (fun q => h2 ⟨q.1, by omega⟩)]
theorem loadA_0 {kept f : FI} {c : Int32} : loadA kept c 0 f = f := by
  funext k; unfold loadA tab; rw [if_neg (by omega)]
theorem saveA_0 {kept f : FI} {c : Int32} : saveA kept c 0 f = kept := by
  funext k; unfold saveA; rw [if_neg (by omega)]
/-- a row is kept, or put back: a loop's turns -/
theorem pass_loop {n c : Nat} (hn : n ≤ 12) (hc : c + n ≤ 276) (keep : Int32) (kept f : FI) (T : Int32 → Int32 → FI → FI → Prop) (h0 : keep = 0 → T (nI n) (nI (c + n)) kept (loadA kept (nI c) n f)) (h1 : ¬ keep = 0 → T (nI n) (nI (c + n)) (saveA kept (nI c) n f) f)
    (s0 : keep = 0 → ∀ j, j < n → ∀ k s, T (nI (j + 1)) (nI (c + (j + 1))) k (upd s j (k (c + j))) → T (nI j) (nI (c + j)) k s)
    (s1 : ¬ keep = 0 → ∀ j, j < n → ∀ k s, T (nI (j + 1)) (nI (c + (j + 1))) (upd k (c + j) (s j)) s → T (nI j) (nI (c + j)) k s) : T 0 (nI c) kept f := by
  have hcl : (nI c).toNatClampNeg = c := nI_clamp (by omega)
  by_cases hk : keep = 0
  · have := upN n (fun j => T (nI j) (nI (c + j)) kept (loadA kept (nI c) j f)) (h0 hk) (fun j hj ih => s0 hk j hj _ _ (by
      have e := loadA_step (kept := kept) (f := f) (c := nI c) (j := j)
      rw [hcl] at e
      rw [e]; exact ih)) 0 (Nat.zero_le _)
    rw [loadA_0] at this
    exact this
  · have := upN n (fun j => T (nI j) (nI (c + j)) (saveA kept (nI c) j f) f) (h1 hk) (fun j hj ih => s1 hk j hj _ _ (by
      have e := saveA_step (kept := kept) (f := f) (c := nI c) (j := j)
      rw [hcl] at e
      rw [e]; exact ih)) 0 (Nat.zero_le _)
    rw [saveA_0] at this
    exact this
