theorem lN_clamp {n : Nat} (h : n < 2 ^ 63) : (lN n).toNatClampNeg = n := by
  show (lN n).toInt.toNat = n
  rw [pk_lT h]; rfl
theorem lN_z {n : Nat} (h : n < 2 ^ 63) : lN n = 0 ↔ n = 0 := pk_lEQ h (b := 0) (by decide)
theorem gcdL_lN {a b : Nat} (ha : a < 2 ^ 63) (hb : b < 2 ^ 63) : gcdL (lN a) (lN b) = lN (Nat.gcd a b) := by unfold gcdL; rw [lN_clamp ha, lN_clamp hb]
theorem upd_self (f : FI) (k : Nat) : upd f k (f k) = f := by funext j; unfold upd; by_cases h : j = k <;> simp [h]
theorem upd_upd (f : FI) (k : Nat) (a b : Int32) : upd (upd f k a) k b = upd f k b := by funext j; unfold upd; by_cases h : j = k <;> simp [h]
theorem okS_kind {x : SS} (hx : okS x) {w v : Int32} (h : inW x w) (hv : 0 ≤ v ∧ v ≤ 5) : okS (sSetKind x (upd (sKind x) w.toNatClampNeg v)) := by
  obtain ⟨h1, h2, h3, h4, h5, h6, h7, h8⟩ := hx
  refine ⟨h1, h2, h3, h4, h5, h6, fun k hk hk5 => ⟨?_, (h7 k hk hk5).2⟩, h8⟩
  show 0 ≤ upd (sKind x) w.toNatClampNeg v k ∧ upd (sKind x) w.toNatClampNeg v k ≤ 5
  unfold upd
  by_cases e : k = w.toNatClampNeg
  · rw [if_pos e]; exact hv
  · rw [if_neg e]; exact (h7 k hk hk5).1
theorem okS_knows {x : SS} (hx : okS x) {w v : Int32} (hv : 0 ≤ v ∧ v ≤ 63) : okS (sSetKnows x (upd (sKnows x) w.toNatClampNeg v)) := by
  obtain ⟨h1, h2, h3, h4, h5, h6, h7, h8⟩ := hx
  refine ⟨h1, h2, h3, h4, h5, h6, fun k hk hk5 => ⟨(h7 k hk hk5).1, (h7 k hk hk5).2.1, ?_⟩, h8⟩
  show 0 ≤ upd (sKnows x) w.toNatClampNeg v k ∧ upd (sKnows x) w.toNatClampNeg v k ≤ 63
  unfold upd
  by_cases e : k = w.toNatClampNeg
  · rw [if_pos e]; exact hv
  · rw [if_neg e]; exact (h7 k hk hk5).2.2
theorem sumN_congr {f g : Nat → Int32} {n : Nat} (h : ∀ k, k < n → f k = g k) : sumN f n = sumN g n := by
  induction n with
  | zero => rfl
  | succ n ih => rw [sumN, sumN, ih (fun k hk => h k (by omega)), h n (by omega)]
theorem leftAsk_congr {x : SS} {w q t : Int32} {l l' : FI} (h : ∀ k, k < 64 → l k = l' k) : ∀ k, k < 64 → leftAsk x w q t l k = leftAsk x w q t l' k := by
  intro k hk
  unfold leftAsk tab
  rw [if_pos hk, if_pos hk]; show b2i (decide (l k = 1) && _) = b2i (decide (l' k = 1) && _); rw [h k hk]
theorem tab_congr {f a b : FI} : ∀ k, k < 64 → tab 64 f a k = tab 64 f b k := by
  intro k hk; unfold tab; rw [if_pos hk, if_pos hk]
theorem le_of_nI {x : Int32} {n : Nat} (h : 0 ≤ x) (h2 : x ≤ nI n) (hn : n < 2 ^ 31) : ∃ k : Nat, k ≤ n ∧ x = nI k := by
  obtain ⟨k, hk, e⟩ := nI_of (Int32.not_lt.mpr h)
  exact ⟨k, (nI_leI hk hn).mp (by rw [← e]; exact h2), e⟩
theorem bits_nat (v : Int32) : ∃ m : Nat, m ≤ 31 ∧ bitsI v = nI m := by
  obtain ⟨m, h1, h2⟩ := sumN_nI (f := fun k => (v >>> (nI k &&& 31)) &&& 1) (B := 1) 31 (fun k _ => by
    obtain ⟨j, hj, e⟩ := pk_andE (v >>> (nI k &&& 31)) (m := 1) 1 (by decide)
    exact ⟨j, by omega, e⟩)
  exact ⟨m, by omega, h2⟩
theorem sub10_vin {p : Int32} (h : 11 ≤ p ∧ p ≤ 16) : vp_in (p - 10) 7 := by
  have h1 := h.1; have h2 := h.2
  rw [int_le] at h1 h2
  have e1 : (11 : Int32).toInt = 11 := by decide
  have e2 : (16 : Int32).toInt = 16 := by decide
  have hc : ∀ (z : Int32) (w : Int), z.toInt = w → p.toInt = w → p = z := fun z w a b => Int32.toInt_inj.mp (b.trans a.symm)
  rcases (show p.toInt = 11 ∨ p.toInt = 12 ∨ p.toInt = 13 ∨ p.toInt = 14 ∨ p.toInt = 15 ∨ p.toInt = 16 by omega) with e | e | e | e | e | e
  · rw [hc 11 _ (by decide) e, vp_in_iff]; decide
  · rw [hc 12 _ (by decide) e, vp_in_iff]; decide
  · rw [hc 13 _ (by decide) e, vp_in_iff]; decide
  · rw [hc 14 _ (by decide) e, vp_in_iff]; decide
  · rw [hc 15 _ (by decide) e, vp_in_iff]; decide
  · rw [hc 16 _ (by decide) e, vp_in_iff]; decide
theorem pow_nI (q : Nat) : ∀ m : Nat, powI (nI q) m = nI (q ^ m)
  | 0 => rfl
  | m + 1 => by rw [powI, pow_nI q m, pk_mul, Nat.pow_succ]
theorem pow_le {q m : Nat} (hq : q ≤ 8) (hm : m ≤ 4) : q ^ m ≤ 4096 := Nat.le_trans (Nat.pow_le_pow_left hq m) (Nat.le_trans (Nat.pow_le_pow_right (by decide) hm) (by decide))
theorem sure_congr {a b : FI} (h : ∀ k, k < 64 → a k = b k) : sureOf a = sureOf b := by
  have h1 : ∀ n, n ≤ 64 → andN a n = andN b n ∧ orN a n = orN b n := by
    intro n
    induction n with
    | zero => intro _; exact ⟨rfl, rfl⟩
    | succ n ih =>
      intro hn
      obtain ⟨e1, e2⟩ := ih (by omega)
      rw [andN, andN, orN, orN, e1, e2, h n (by omega)]
      exact ⟨rfl, rfl⟩
  unfold sureOf
  rw [sumN_congr h, (h1 64 (by omega)).1, (h1 64 (by omega)).2]
theorem leftCode_congr {x : SS} {w code : Int32} {n : Nat} {fit old old' : FI} : ∀ m k, k < 64 → leftCode x w code n fit m old k = leftCode x w code n fit m old' k
  | 0 => tab_congr
  | m + 1 => by
    intro k hk
    unfold leftCode
    exact leftAsk_congr (fun k hk => leftCode_congr m k hk) k hk
/-- the first j places moved down by one -/
def shj (j : Nat) (f : FI) : FI := fun i => if i < j then f (i + 1) else f i
theorem shj_step (j : Nat) (f : FI) : upd (shj j f) j (shj j f (j + 1)) = shj (j + 1) f := by
  funext i
  unfold upd shj
  by_cases h : i = j
  · subst h; rw [if_pos rfl, if_neg (by omega), if_pos (by omega)]
  · rw [if_neg h]
    by_cases h2 : i < j
    · rw [if_pos h2, if_pos (by omega)]
    · rw [if_neg h2, if_neg (by omega)]
theorem shj_0 (f : FI) : shj 0 f = f := by funext i; unfold shj; rw [if_neg (by omega)]
theorem okS_mid {x : SS} (hx : okS x) (ha : sAsked x < 5000) {n : Int32} (hn : 0 ≤ n ∧ n ≤ 12) {a b c d : FI} (h : ∀ k : Nat, nI k < n → k < 12 → inW x (a k) ∧ inQ x (b k) ∧ (0 ≤ c k ∧ c k ≤ 2) ∧ (0 ≤ d k ∧ d k ≤ 5000)) : okS (mkS (sCase x) (sAsked x + 1) (sNq x) (sNw x) n (sForm x) (sFirst x) (sSecond x) (sKind x) (sFigure x) (sKnows x) a b c d) := by
  obtain ⟨h1, h2, h3, h4, h5, h6, h7, h8⟩ := hx
  refine ⟨h1, ?_, h3, h4, hn, h6, h7, h⟩
  obtain ⟨k, hk, e⟩ := le_of_nI (n := 5000) h2.1 h2.2 (by decide)
  show 0 ≤ sAsked x + 1 ∧ sAsked x + 1 ≤ 5000
  rw [e] at ha ⊢
  have : k < 5000 := (nI_ltI (b := 5000) (by omega) (by decide)).mp ha
  rw [nI_1]
  exact ⟨nI_pos' (by omega), nI_le (b := 5000) (by omega) (by decide)⟩
theorem ansI_mk (x : SS) (a n : Int32) (f g h i : FI) (w q b t : Int32) : ansI (mkS (sCase x) a (sNq x) (sNw x) n (sForm x) (sFirst x) (sSecond x) (sKind x) (sFigure x) (sKnows x) f g h i) w q b t = ansI x w q b t := rfl
