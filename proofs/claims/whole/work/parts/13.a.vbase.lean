/-! facts for the conditions -/
theorem isQ_in {x : SS} {q : Int32} (h : ¬ isQuestionI x q = 0) : inQ x q := by
  have h1 := b2i_ne.mp h; simp at h1; exact h1
theorem isW_in {x : SS} {q : Int32} (h : ¬ isWitnessI x q = 0) : inW x q := by
  have h1 := b2i_ne.mp h; simp at h1; exact h1
theorem hasQ_isQ {x : SS} (hx : okS x) (q : Int32) : hasQI x q = isQuestionI x q := by
  unfold hasQI isQuestionI
  congr 1
  by_cases h : 0 ≤ q ∧ q < sNq x
  · obtain ⟨k, n, h1, h2, rfl, en⟩ := inQ_nat hx h
    simp [h.1, h.2, show nI k < 8 from nI_lt (b := 8) (by omega) (by omega)]
  · have e : (decide (0 ≤ q) && decide (q < sNq x)) = false := by rw [← Bool.not_eq_true, Bool.and_eq_true, decide_eq_true_eq, decide_eq_true_eq]; exact h
    rw [e]; rfl
theorem hasW_isW {x : SS} (hx : okS x) (q : Int32) : hasWI x q = isWitnessI x q := by
  unfold hasWI isWitnessI
  congr 1
  by_cases h : 0 ≤ q ∧ q < sNw x
  · obtain ⟨k, n, h1, h2, rfl, en⟩ := inW_nat hx h
    simp [h.1, h.2, show nI k < 5 from nI_lt (b := 5) (by omega) (by omega)]
  · have e : (decide (0 ≤ q) && decide (q < sNw x)) = false := by rw [← Bool.not_eq_true, Bool.and_eq_true, decide_eq_true_eq, decide_eq_true_eq]; exact h
    rw [e]; rfl
theorem okS_h {x : SS} (hx : okS x) {k : Int32} (h0 : 0 ≤ k) (h1 : k < sNh x) : vp_in k 12 ∧ inW x (sWhom x k.toNatClampNeg) ∧ inQ x (sWhat x k.toNatClampNeg) ∧ (0 ≤ sSaid x k.toNatClampNeg ∧ sSaid x k.toNatClampNeg ≤ 2) ∧ (0 ≤ sWhen x k.toNatClampNeg ∧ sWhen x k.toNatClampNeg ≤ 5000) := by
  obtain ⟨n, hn, en⟩ := okS_nh hx
  obtain ⟨j, hj, rfl⟩ := nI_of (Int32.not_lt.mpr h0)
  have h2 : j < n := by rw [en] at h1; exact (nI_ltI hj (by omega)).mp h1
  rw [nI_clamp hj]
  exact ⟨vin (by omega), hx.2.2.2.2.2.2.2 j h1 (by omega)⟩
theorem okS_hN {x : SS} (hx : okS x) {n j : Nat} (en : sNh x = nI n) (hn : n ≤ 12) (hj : j < n) : inW x (sWhom x j) ∧ inQ x (sWhat x j) ∧ (0 ≤ sSaid x j ∧ sSaid x j ≤ 2) ∧ (0 ≤ sWhen x j ∧ sWhen x j ≤ 5000) :=
  hx.2.2.2.2.2.2.2 j (by rw [en]; exact nI_lt hj (by omega)) (by omega)
theorem inQ_nI {x : SS} {n j : Nat} (en : sNq x = nI n) (hn : n ≤ 8) (hj : j < n) : inQ x (nI j) := ⟨nI_pos' (by omega), by rw [en]; exact nI_lt hj (by omega)⟩
theorem inW_nI {x : SS} {n j : Nat} (en : sNw x = nI n) (hn : n ≤ 5) (hj : j < n) : inW x (nI j) := ⟨nI_pos' (by omega), by rw [en]; exact nI_lt hj (by omega)⟩
theorem neg_vin {p : Int32} (h : p < 0 ∧ -6 ≤ p) : vp_in (- p) 7 := by
  have h1 := h.1; have h2 := h.2
  rw [int_lt] at h1; rw [int_le] at h2
  have e0 : (0 : Int32).toInt = 0 := by decide
  have e1 : (-6 : Int32).toInt = -6 := by decide
  have hc : ∀ (z : Int32) (w : Int), z.toInt = w → p.toInt = w → p = z := fun z w a b => Int32.toInt_inj.mp (b.trans a.symm)
  rcases (show p.toInt = -1 ∨ p.toInt = -2 ∨ p.toInt = -3 ∨ p.toInt = -4 ∨ p.toInt = -5 ∨ p.toInt = -6 by omega) with e | e | e | e | e | e
  · rw [hc (-1) _ (by decide) e, vp_in_iff]; decide
  · rw [hc (-2) _ (by decide) e, vp_in_iff]; decide
  · rw [hc (-3) _ (by decide) e, vp_in_iff]; decide
  · rw [hc (-4) _ (by decide) e, vp_in_iff]; decide
  · rw [hc (-5) _ (by decide) e, vp_in_iff]; decide
  · rw [hc (-6) _ (by decide) e, vp_in_iff]; decide
theorem bound_r (v a b : Int32) : boundI v a b = 0 ∨ boundI v a b = -4 ∨ boundI v a b = -6 := by
  unfold boundI; grind
theorem bound_neg {v a b : Int32} (h : ¬ boundI v a b = 0) : boundI v a b < 0 ∧ -6 ≤ boundI v a b := by
  rcases bound_r v a b with e | e | e
  · exact absurd e h
  · rw [e]; decide
  · rw [e]; decide
theorem bound_0 {v a b : Int32} (h : boundI v a b = 0) : a ≤ v ∧ v ≤ b := by
  unfold boundI at h; grind
theorem isInM_ne {v a b : Int32} (h : ¬ isInM v a b = 0) : a ≤ v ∧ v ≤ b := by
  have h1 := b2i_ne.mp h; simp at h1; exact h1
theorem isInM_01 (p : Int32) : (isInM p 0 1 = 0) ↔ ¬ (p = 0 ∨ p = 1) := by
  unfold isInM b2i; grind
theorem isPart_isIn (p : Int32) : isPartI p = isInM p 0 1 := by
  unfold isInM isPartI b2i; grind
/-- a counted loop, from the j-th turn on: what it answers is what its first turns leave -/
theorem cnt_loop {n : Nat} (hn : n < 2 ^ 31) {P : Nat → Prop} {N : Int32} (eN : N = nI n) (C : Nat → Prop) (hC : ∀ j, j ≤ n → C j → P j) (h0 : N ≤ nI n → P n → C n) : True := trivial
theorem le_nI {n : Nat} {N : Int32} (eN : N = nI n) : N ≤ nI n := by rw [eN]; exact Int32.le_refl _
theorem nle_nI {n j : Nat} {N : Int32} (eN : N = nI n) (hn : n < 2 ^ 31) (h : j < n) : ¬ N ≤ nI j := by rw [eN]; exact nI_ge h hn
theorem allN_succ {p : Nat → Bool} {n : Nat} : allN p (n + 1) = true ↔ allN p n = true ∧ p n = true := by simp [allN]
theorem allN_true {p : Nat → Bool} {n : Nat} : allN p n = true ↔ ∀ k, k < n → p k = true := by
  induction n with
  | zero => simp [allN]
  | succ n ih =>
    rw [allN_succ, ih]
    exact ⟨fun h k hk => (Nat.lt_succ_iff_lt_or_eq.mp hk).elim (h.1 k) (fun e => e ▸ h.2), fun h => ⟨fun k hk => h k (by omega), h n (by omega)⟩⟩
theorem allN_false {p : Nat → Bool} {n k : Nat} (hk : k < n) (h : p k = false) : allN p n = false := by
  cases e : allN p n with
  | false => rfl
  | true => rw [allN_true.mp e k hk] at h; cases h
theorem anyN_true {p : Nat → Bool} {n : Nat} : anyN p n = true ↔ ∃ k, k < n ∧ p k = true := by
  induction n with
  | zero => simp [anyN]
  | succ n ih =>
    simp only [anyN, Bool.or_eq_true, ih]
    constructor
    · rintro (⟨k, h1, h2⟩ | h)
      · exact ⟨k, by omega, h2⟩
      · exact ⟨n, by omega, h⟩
    · rintro ⟨k, h1, h2⟩
      rcases Nat.lt_succ_iff_lt_or_eq.mp h1 with h | rfl
      · exact Or.inl ⟨k, h, h2⟩
      · exact Or.inr h2
theorem anyN_false {p : Nat → Bool} {n : Nat} (h : ∀ k, k < n → p k = false) : anyN p n = false := by
  cases e : anyN p n with
  | false => rfl
  | true => obtain ⟨k, h1, h2⟩ := anyN_true.mp e; rw [h k h1] at h2; cases h2
/-- a search: the first turn that ends it -/
theorem all_loop {n : Nat} (p : Nat → Bool) (T : Nat → Prop) (Q : Bool → Prop) (h0 : Q true → T n) (hs : ∀ j, j < n → (p j = true → T (j + 1)) → (p j = false → Q false) → T j) (h : Q (allN p n)) : T 0 := by
  have key : ∀ d j, j + d = n → (∀ k, k < j → p k = true) → T j := by
    intro d
    induction d with
    | zero =>
      intro j hj hp
      obtain rfl : j = n := by omega
      exact h0 (by rw [allN_true.mpr hp] at h; exact h)
    | succ d ih =>
      intro j hj hp
      refine hs j (by omega) (fun e => ih (j + 1) (by omega) (fun k hk => ?_)) (fun e => ?_)
      · rcases Nat.lt_succ_iff_lt_or_eq.mp hk with h | rfl
        · exact hp k h
        · exact e
      · rw [allN_false (by omega) e] at h; exact h
  exact key n 0 (by omega) (fun k hk => absurd hk (by omega))
theorem any_loop {n : Nat} (p : Nat → Bool) (T : Nat → Prop) (Q : Bool → Prop) (h0 : Q false → T n) (hs : ∀ j, j < n → (p j = false → T (j + 1)) → (p j = true → Q true) → T j) (h : Q (anyN p n)) : T 0 := by
  have key : ∀ d j, j + d = n → (∀ k, k < j → p k = false) → T j := by
    intro d
    induction d with
    | zero =>
      intro j hj hp
      obtain rfl : j = n := by omega
      exact h0 (by rw [anyN_false hp] at h; exact h)
    | succ d ih =>
      intro j hj hp
      refine hs j (by omega) (fun e => ih (j + 1) (by omega) (fun k hk => ?_)) (fun e => ?_)
      · rcases Nat.lt_succ_iff_lt_or_eq.mp hk with h | rfl
        · exact hp k h
        · exact e
      · rw [anyN_true.mpr ⟨j, by omega, e⟩] at h; exact h
  exact key n 0 (by omega) (fun k hk => absurd hk (by omega))
theorem first_loop {n : Nat} (p : Nat → Bool) (T : Nat → Prop) (Q : Option Nat → Prop) (i0 : Nat) (h0 : Q none → T (i0 + n)) (hs : ∀ j, i0 ≤ j → j < i0 + n → (p j = false → T (j + 1)) → (p j = true → Q (some j)) → T j) (h : Q (firstN p n i0)) : T i0 := by
  induction n generalizing i0 with
  | zero => exact h0 h
  | succ n ih =>
    rw [firstN] at h
    refine hs i0 (Nat.le_refl _) (by omega) (fun e => ?_) (fun e => ?_)
    · rw [if_neg (by rw [e]; decide)] at h
      exact ih (i0 + 1) (fun q => by rw [show i0 + 1 + n = i0 + (n + 1) by omega]; exact h0 q) (fun j h1 h2 => hs j (by omega) (by omega)) h
    · rw [if_pos e] at h; exact h
theorem tab_upd {n j : Nat} (hj : j < n) (f : Nat → Int32) (old s : FI) (hs : s = fun k => if k < j then f k else old k) : upd s j (f j) = fun k => if k < j + 1 then f k else old k := by
  subst hs
  funext k
  unfold upd
  by_cases h : k = j
  · subst h; simp
  · rw [if_neg h]
    show (if k < j then f k else old k) = _
    by_cases h2 : k < j
    · rw [if_pos h2, if_pos (by omega)]
    · rw [if_neg h2, if_neg (by omega)]
theorem okS_w {x : SS} (hx : okS x) {w : Int32} (h : inW x w) : (0 ≤ sKind x w.toNatClampNeg ∧ sKind x w.toNatClampNeg ≤ 5) ∧ (0 ≤ sFigure x w.toNatClampNeg ∧ sFigure x w.toNatClampNeg ≤ 9) ∧ (0 ≤ sKnows x w.toNatClampNeg ∧ sKnows x w.toNatClampNeg ≤ 63) := by
  obtain ⟨k, n, h1, h2, rfl, en⟩ := inW_nat hx h
  rw [nI_clamp (by omega)]
  exact hx.2.2.2.2.2.2.1 k h.2 (by omega)
theorem okS_q {x : SS} (hx : okS x) {w : Int32} (h : inQ x w) : (0 ≤ sForm x w.toNatClampNeg ∧ sForm x w.toNatClampNeg ≤ 4) ∧ (0 ≤ sFirst x w.toNatClampNeg ∧ sFirst x w.toNatClampNeg ≤ 5) ∧ (0 ≤ sSecond x w.toNatClampNeg ∧ sSecond x w.toNatClampNeg ≤ 5) := by
  obtain ⟨k, n, h1, h2, rfl, en⟩ := inQ_nat hx h
  rw [nI_clamp (by omega)]
  exact hx.2.2.2.2.2.1 k h.2 (by omega)
theorem fig_nat {f : Int32} (h : 0 ≤ f ∧ f ≤ 9) : ∃ k : Nat, k ≤ 9 ∧ f = nI k := nI_up (by decide) h
theorem fig_ne {f : Int32} (h : 0 ≤ f ∧ f ≤ 9) : ¬ f + 1 = 0 := by
  obtain ⟨k, hk, rfl⟩ := fig_nat h
  rw [nI_1]; exact nI_ne0 (by omega) (by omega)
theorem nq_pos {x : SS} {q : Int32} (h : inQ x q) : 0 < sNq x := Int32.lt_of_le_of_lt h.1 h.2
theorem tab_loop {n : Nat} (f : Nat → Int32) (old : FI) (T : Nat → FI → Prop) (h0 : T n (tab n f old)) (hs : ∀ j, j < n → ∀ s : FI, s j = old j → T (j + 1) (upd s j (f j)) → T j s) : T 0 old := by
  have := upN n (fun j => T j (fun k => if k < j then f k else old k)) h0 (fun j hj ih => hs j hj _ (by simp) (by rw [tab_upd hj f old _ rfl]; exact ih)) 0 (Nat.zero_le _)
  simpa using this
theorem cnt_up {n : Nat} (p : Nat → Bool) (T : Nat → Int32 → Prop) (h0 : T n (cntN p n)) (hs : ∀ j, j < n → ∀ a, T (j + 1) (a + b2i (p j)) → T j a) : T 0 0 :=
  upN n (fun j => T j (cntN p j)) h0 (fun j hj ih => hs j hj _ ih) 0 (Nat.zero_le _)
theorem sum_up {n : Nat} (f : Nat → Int32) (T : Nat → Int32 → Prop) (h0 : T n (sumN f n)) (hs : ∀ j, j < n → ∀ a, T (j + 1) (a + f j) → T j a) : T 0 0 :=
  upN n (fun j => T j (sumN f j)) h0 (fun j hj ih => hs j hj _ ih) 0 (Nat.zero_le _)
theorem sumL_up {n : Nat} (f : Nat → Int64) (T : Nat → Int64 → Prop) (h0 : T n (sumL f n)) (hs : ∀ j, j < n → ∀ a, T (j + 1) (a + f j) → T j a) : T 0 0 :=
  upN n (fun j => T j (sumL f j)) h0 (fun j hj ih => hs j hj _ ih) 0 (Nat.zero_le _)
theorem set_up {n : Nat} (p : Nat → Bool) (T : Nat → Int32 → Prop) (h0 : T n (setN p n)) (hs : ∀ j, j < n → ∀ a, T (j + 1) (a ||| (if p j then 1 <<< (nI j &&& 31) else 0)) → T j a) : T 0 0 :=
  upN n (fun j => T j (setN p j)) h0 (fun j hj ih => hs j hj _ ih) 0 (Nat.zero_le _)
theorem fold_up {β : Type} {n : Nat} (f : Nat → β → β) (b : β) (T : Nat → β → Prop) (h0 : T n (foldN f n b)) (hs : ∀ j, j < n → ∀ a, T (j + 1) (f j a) → T j a) : T 0 b :=
  upN n (fun j => T j (foldN f j b)) h0 (fun j hj ih => hs j hj _ ih) 0 (Nat.zero_le _)
theorem add0 (a : Int32) : a + b2i false = a + 0 := rfl
theorem add1 (a : Int32) : a + b2i true = a + 1 := rfl
theorem rsX_0 {w v : Int32} (h : w = 0) : v = rsX w v := by subst h; rfl
theorem rfX_0 {f : FI} {w : Int32} (h : w = 0) : rfX f w = f := by subst h; rfl
theorem rsX_n {w v c : Int32} (h : w = c) (hc : ¬ c = 0) : c = rsX w v := by subst h; unfold rsX; rw [if_neg hc]
theorem rfX_n {f : FI} {w c : Int32} (h : w = c) (hc : ¬ c = 0) : rfX f w = refuX f c := by subst h; unfold rfX; rw [if_neg hc]
theorem rsL_0 {w : Int32} {v : Int64} (h : w = 0) : v = rsL w v := by subst h; rfl
theorem rsL_n {w c : Int32} {v : Int64} (h : w = c) (hc : ¬ c = 0) : 4000000000000000000 - c.toInt64 = rsL w v := by subst h; unfold rsL; rw [if_neg hc]
theorem lN_nn {n : Nat} (h : n < 2 ^ 31) : 0 ≤ lN n := by
  have := (lN_le (a := 0) (b := n) (by decide) h).mpr (Nat.zero_le _)
  exact this
theorem sumL_lN {f : Nat → Int64} {B : Nat} : ∀ n : Nat, n * B < 2 ^ 31 → (∀ k, k < n → ∃ m : Nat, m ≤ B ∧ f k = lN m) → ∃ m : Nat, m ≤ n * B ∧ sumL f n = lN m := by
  intro n
  induction n with
  | zero => intro _ _; exact ⟨0, by omega, rfl⟩
  | succ n ih =>
    intro hb hf
    obtain ⟨a, ha, ea⟩ := ih (by rw [Nat.succ_mul] at hb; omega) (fun k hk => hf k (by omega))
    obtain ⟨b, hb2, eb⟩ := hf n (by omega)
    exact ⟨a + b, by rw [Nat.succ_mul]; omega, by rw [sumL, ea, eb, lN_add]⟩
theorem sumN_nI {f : Nat → Int32} {B : Nat} : ∀ n : Nat, (∀ k, k < n → ∃ m : Nat, m ≤ B ∧ f k = nI m) → ∃ m : Nat, m ≤ n * B ∧ sumN f n = nI m := by
  intro n
  induction n with
  | zero => intro _; exact ⟨0, by omega, rfl⟩
  | succ n ih =>
    intro hf
    obtain ⟨a, ha, ea⟩ := ih (fun k hk => hf k (by omega))
    obtain ⟨b, hb2, eb⟩ := hf n (by omega)
    exact ⟨a + b, by rw [Nat.succ_mul]; omega, by rw [sumN, ea, eb, nI_add]⟩
theorem b2i_nat (b : Bool) : ∃ m : Nat, m ≤ 1 ∧ b2i b = nI m := by cases b; exact ⟨0, by omega, rfl⟩; exact ⟨1, by omega, rfl⟩
theorem fitM_nat (x : SS) (j : Int32) (old : FI) : ∃ m : Nat, m ≤ 64 ∧ sumN (fitM x j old) 64 = nI m := by
  obtain ⟨m, h1, h2⟩ := sumN_nI (f := fitM x j old) (B := 1) 64 (fun k hk => by
    unfold fitM tab; rw [if_pos hk]; exact b2i_nat _)
  exact ⟨m, by omega, h2⟩
theorem fitM_long (x : SS) (j : Int32) (old : FI) : 0 ≤ (sumN (fitM x j old) 64).toInt64 := by
  obtain ⟨m, h1, h2⟩ := fitM_nat x j old
  rw [h2, nI_l (by omega)]; exact lN_nn (by omega)
