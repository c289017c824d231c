theorem ans_r {x : SS} (hx : okS x) {w q : Int32} (hw : inW x w) (hq : inQ x q) (b t : Int32) : 0 ≤ ansI x w q b t ∧ ansI x w q b t ≤ 2 := by
  have hp : ∀ q : Int32, plainI x w q b = 0 ∨ plainI x w q b = 1 ∨ plainI x w q b = 2 := by
    intro q
    unfold plainI b2i
    split
    · exact Or.inr (Or.inr rfl)
    · split
      · exact Or.inr (Or.inr rfl)
      · split
        · exact Or.inr (Or.inl rfl)
        · exact Or.inl rfl
  have h3 : ∀ z : Int32, (z = 0 ∨ z = 1 ∨ z = 2) → 0 ≤ z ∧ z ≤ 2 := by rintro z (e | e | e) <;> subst e <;> decide
  refine h3 _ ?_
  have a := hp q
  have a2 := hp (q + 1 - (q + 1) / sNq x * sNq x)
  unfold ansI
  generalize plainI x w q b = P at *
  generalize plainI x w (q + 1 - (q + 1) / sNq x * sNq x) b = P2 at *
  clear hp h3 hx hw hq
  rcases a with e | e | e <;> subst e <;> simp <;> grind
theorem first_congr {p p' : Nat → Bool} : ∀ (n i : Nat), (∀ j, i ≤ j → j < i + n → p j = p' j) → firstN p n i = firstN p' n i
  | 0, _, _ => rfl
  | n + 1, i, h => by
    rw [firstN, firstN, h i (Nat.le_refl _) (by omega), first_congr n (i + 1) (fun j h1 h2 => h j (by omega) (by omega))]
theorem ways_congr {kept kept' : FL} {nq : Nat} (hq : nq ≤ 8) (f : Int64) (h : ∀ k, k < 32 → k % 8 < nq → kept k = kept' k) : ∀ (d step : Nat) (l : Int64), step + d ≤ 4 → waysN kept nq f d step l = waysN kept' nq f d step l
  | 0, _, _, _ => rfl
  | d + 1, step, l, hd => by
    rw [waysN, waysN]
    refine sumN_congr (fun q hq2 => ?_)
    rw [h (step * 8 + q) (by omega) (by omega)]
    exact ways_congr hq f h d (step + 1) _ (by omega)
theorem settle_congr {kept kept' : FL} {nq : Nat} (hq : nq ≤ 8) (l f : Int64) (p : Int32) (h : ∀ k, k < 32 → k % 8 < nq → kept k = kept' k) : ∀ (d len : Nat), 1 ≤ len → len + d ≤ 4 → settleFromX kept nq l f p d len = settleFromX kept' nq l f p d len
  | 0, _, _, _ => rfl
  | d + 1, len, h1, h2 => by
    rw [settleFromX, settleFromX, settle_congr hq l f p h d (len + 1) (by omega) (by omega)]
    rw [first_congr (p := fun q => decide (0 < waysN kept nq f (len - 1) 1 (l &&& kept q))) (p' := fun q => decide (0 < waysN kept' nq f (len - 1) 1 (l &&& kept' q))) nq 0 (fun j _ hj => by
      show decide _ = decide _
      rw [h j (by omega) (by omega), ways_congr hq f h (len - 1) 1 _ (by omega)])]
theorem kept_congr {x : KC} {w : Int32} {n : Nat} (en : (sNq (cS x)).toNatClampNeg = n) (a b : FL) : ∀ k, k < 32 → k % 8 < n → keptX x w a k = keptX x w b k := by
  intro k h1 h2
  unfold keptX
  rw [if_pos ⟨h1, by rw [en]; exact h2⟩, if_pos ⟨h1, by rw [en]; exact h2⟩]
theorem kj_step {g old : FL} {nq m : Nat} (hm : m % 8 < nq) : vp_updL (fun k => if k < m ∧ k % 8 < nq then g k else old k) m (g m) = fun k => if k < m + 1 ∧ k % 8 < nq then g k else old k := by
  funext k
  unfold vp_updL
  by_cases h : k = m
  · subst h; rw [if_pos rfl, if_pos ⟨by omega, hm⟩]
  · rw [if_neg h]
    show (if k < m ∧ k % 8 < nq then g k else old k) = _
    by_cases h2 : k < m ∧ k % 8 < nq
    · rw [if_pos h2, if_pos ⟨by omega, h2.2⟩]
    · rw [if_neg h2, if_neg (fun q => h2 ⟨by omega, q.2⟩)]
theorem okS_ask {x : SS} (hx : okS x) {w q : Int32} (hw : inW x w) (hq : inQ x q) (ha : sAsked x < 5000) : okS (askS x w q) := by
  obtain ⟨n, hn, en⟩ := okS_nh hx
  have hv : 0 ≤ askV x w q ∧ askV x w q ≤ 2 := ans_r hx hw hq _ _
  obtain ⟨a, ha2, ea⟩ := le_of_nI (n := 5000) hx.2.1.1 hx.2.1.2 (by decide)
  have haa : a < 5000 := (nI_ltI (b := 5000) (by omega) (by decide)).mp (by rw [← ea]; exact ha)
  have ht : 0 ≤ sAsked x + 1 ∧ sAsked x + 1 ≤ 5000 := by rw [ea, nI_1]; exact ⟨nI_pos' (by omega), nI_le (b := 5000) (by omega) (by decide)⟩
  by_cases c : sNh x = 12
  · have e12 : n = 12 := (nI_eq (b := 12) (by omega) (by decide)).mp (en.symm.trans c)
    unfold askS shF shN
    rw [if_pos c, if_pos c, if_pos c, if_pos c, if_pos c]
    refine okS_mid hx ha (n := 11 + 1) ⟨by decide, by decide⟩ (fun k hk hk2 => ?_)
    have e11 : (11 : Int32).toNatClampNeg = 11 := by decide
    rw [e11]
    unfold upd
    by_cases z : k = 11
    · rw [if_pos z, if_pos z, if_pos z, if_pos z]; exact ⟨hw, hq, hv, ht⟩
    · rw [if_neg z, if_neg z, if_neg z, if_neg z]
      show inW x (if k < 11 then _ else _) ∧ inQ x (if k < 11 then _ else _) ∧ (0 ≤ (if k < 11 then _ else _) ∧ (if k < 11 then _ else _) ≤ 2) ∧ (0 ≤ (if k < 11 then _ else _) ∧ (if k < 11 then _ else _) ≤ 5000)
      rw [if_pos (by omega), if_pos (by omega), if_pos (by omega), if_pos (by omega)]
      exact okS_hN hx en hn (by omega)
  · have hn2 : n < 12 := by
      rcases Nat.lt_or_ge n 12 with q | q
      · exact q
      · exact absurd (by rw [en, show n = 12 by omega]; rfl) c
    unfold askS shF shN
    rw [if_neg c, if_neg c, if_neg c, if_neg c, if_neg c, en]
    refine okS_mid hx ha (n := nI n + 1) (by rw [nI_1]; exact ⟨nI_pos' (by omega), nI_le (b := 12) (by omega) (by decide)⟩) (fun k hk hk2 => ?_)
    rw [nI_clamp (by omega)]
    rw [nI_1] at hk
    have hkn : k < n + 1 := (nI_ltI (by omega) (by omega)).mp hk
    unfold upd
    by_cases z : k = n
    · rw [if_pos z, if_pos z, if_pos z, if_pos z]; exact ⟨hw, hq, hv, ht⟩
    · rw [if_neg z, if_neg z, if_neg z, if_neg z]
      exact okS_hN hx en hn (by omega)
theorem zS_ask {x : SS} (hx : okS x) (hz : zS x) (w q : Int32) : zS (askS x w q) := by
  obtain ⟨n, hn, en⟩ := okS_nh hx
  refine ⟨hz.1, hz.2.1, fun k hk => ?_⟩
  have hk1 : ¬ k = (shN x).toNatClampNeg := by
    unfold shN
    by_cases c : sNh x = 12
    · rw [if_pos c]; show ¬ k = 11; omega
    · rw [if_neg c, en, nI_clamp (by omega)]
      have : n ≠ 12 := fun z => c (by rw [en, z]; rfl)
      omega
  have hs : ∀ f : FI, f k = 0 → shF x f k = 0 := by
    intro f hf
    unfold shF
    by_cases c : sNh x = 12
    · rw [if_pos c]; show (if k < 11 then f (k + 1) else f k) = 0; rw [if_neg (by omega)]; exact hf
    · rw [if_neg c]; exact hf
  obtain ⟨z1, z2, z3, z4⟩ := hz.2.2 k hk
  show upd _ _ _ k = 0 ∧ upd _ _ _ k = 0 ∧ upd _ _ _ k = 0 ∧ upd _ _ _ k = 0
  unfold upd
  rw [if_neg hk1, if_neg hk1, if_neg hk1, if_neg hk1]
  exact ⟨hs _ z1, hs _ z2, hs _ z3, hs _ z4⟩
theorem upd_z {f : FI} {n : Nat} (hf : ∀ k, n ≤ k → f k = 0) {w : Nat} (hw : w < n) (v : Int32) : ∀ k, n ≤ k → upd f w v k = 0 := by
  intro k hk; unfold upd; rw [if_neg (by omega)]; exact hf k hk
theorem not_63 {j : Nat} (hj : j < 64) : ¬ (64 : Int32) ≤ nI j := nle_nI (N := 64) (n := 64) (by decide) (by decide) hj
theorem kk_kSetKind (x : KC) (w a v : Int32) : kSetKind (kSetKind x w a) w v = kSetKind x w v := by
  have e : upd (upd (sKind (cS x)) w.toNatClampNeg a) w.toNatClampNeg v = upd (sKind (cS x)) w.toNatClampNeg v := upd_upd _ _ _ _
  show (sSetKind (cS (kSetKind x w a)) (upd (upd (sKind (cS x)) w.toNatClampNeg a) w.toNatClampNeg v), cNeeded x, cTruth x) = _
  rw [e]; rfl
theorem kk_kSetKnows (x : KC) (w a v : Int32) : kSetKnows (kSetKnows x w a) w v = kSetKnows x w v := by
  have e : upd (upd (sKnows (cS x)) w.toNatClampNeg a) w.toNatClampNeg v = upd (sKnows (cS x)) w.toNatClampNeg v := upd_upd _ _ _ _
  show (sSetKnows (cS (kSetKnows x w a)) (upd (upd (sKnows (cS x)) w.toNatClampNeg a) w.toNatClampNeg v), cNeeded x, cTruth x) = _
  rw [e]; rfl
