/-! CLASS AND REFERENCE, SIDE BY SIDE -/
abbrev RelT (z : KZ) (T : KT) : Prop := okZ z ∧ zLen z = tTaped T ∧ zText z = tTape T
abbrev RelK (i : Int32) (tk : KC) (K : KK) : Prop := (i = 0 ↔ kHas K = 0) ∧ (¬ i = 0 → goodC tk ∧ ∀ y, zS y → loadS (kKept K) 0 y = cS tk)
abbrev Rel (σ : KX) (τ : KM) : Prop := okX σ ∧ mS τ = cS (xNow σ) ∧ RelT (xScr σ) (mT τ) ∧ RelK (xIsTaken σ) (xTaken σ) (mK τ) ∧ mRow τ = xRow σ ∧ mRowMany τ = xRowLen σ ∧ mRefused τ = xRefus σ
theorem okX_C {σ : KX} (h : okX σ) : goodC (xNow σ) := ⟨h.1, h.2.1, h.2.2.2.2.2.2⟩
theorem okX_of {now taken trial : KC} {z : KZ} {row rf : FI} {kp : FL} {rl it : Int32} (h1 : goodC now) (h2 : zC taken) (h3 : zC trial) (h4 : okZ z) (h5 : 0 ≤ rl ∧ rl ≤ 12) : okX (now, taken, trial, z, row, rf, kp, rl, it) := ⟨h1.1, h1.2.1, h2, h3, h4.1, h5, h1.2.2⟩
theorem RelK_mix {i : Int32} {tk : KC} {K : KK} (h : RelK i tk K) (kk : FI) (ke cu : Int32) : RelK i tk (mixK (kKept K) kk, kHas K, ke, cu) := by
  refine ⟨h.1, fun q => ⟨(h.2 q).1, fun y hy => ?_⟩⟩
  show loadS (mixK (kKept K) kk) 0 y = _
  rw [load_mix]; exact (h.2 q).2 y hy
theorem rs_eq {w v v' : Int32} (h : w = 0 → v = v') : rsX w v = rsX w v' := by
  unfold rsX
  by_cases c : w = 0
  · rw [if_pos c, if_pos c]; exact h c
  · rw [if_neg c, if_neg c]
theorem rsL_eq {w : Int32} {v v' : Int64} (h : w = 0 → v = v') : rsL w v = rsL w v' := by
  unfold rsL
  by_cases c : w = 0
  · rw [if_pos c, if_pos c]; exact h c
  · rw [if_neg c, if_neg c]
theorem w_split {c : Prop} [Decidable c] {a y : Int32} (ha : ¬ a = 0) (h : (if c then a else y) = 0) : ¬ c ∧ y = 0 := by
  by_cases q : c
  · rw [if_pos q] at h; exact absurd h ha
  · rw [if_neg q] at h; exact ⟨q, h⟩
theorem why01_0 {p : Int32} (h : why01 p = 0) : p = 0 ∨ p = 1 := by
  unfold why01 at h
  exact Decidable.byContradiction fun c => (w_split (by decide) h).1 ((isInM_01 p).mpr c)
theorem isInM01_0 {p : Int32} (h : ¬ isInM p 0 1 = 0) : p = 0 ∨ p = 1 := Decidable.byContradiction fun c => h ((isInM_01 p).mpr c)
/-- what both do to refusals, and to what is nobody's business -/
theorem Rel.side {σ : KX} {τ : KM} (h : Rel σ τ) {tr : KC} (htr : zC tr) (kp : FL) (w : Int32) (F : KF) (lo ke cu : Int32) (kk : FI) : Rel (xNow σ, xTaken σ, tr, xScr σ, xRow σ, rfX (xRefus σ) w, kp, xRowLen σ, xIsTaken σ) (mS τ, mT τ, (mixK (kKept (mK τ)) kk, kHas (mK τ), ke, cu), F, mRow τ, mRowMany τ, lo, rfX (mRefused τ) w) := by
  obtain ⟨hX, e1, hT, hK, e2, e3, e4⟩ := h
  exact ⟨okX_of (okX_C hX) hX.2.2.1 htr hT.1 hX.2.2.2.2.2.1, e1, hT, RelK_mix hK kk ke cu, e2, e3, by show rfX (mRefused τ) w = rfX (xRefus σ) w; rw [e4]⟩
theorem Rel.side0 {σ : KX} {τ : KM} (h : Rel σ τ) (kp : FL) (w : Int32) (F : KF) (lo : Int32) : Rel (xNow σ, xTaken σ, xTrial σ, xScr σ, xRow σ, rfX (xRefus σ) w, kp, xRowLen σ, xIsTaken σ) (mS τ, mT τ, mK τ, F, mRow τ, mRowMany τ, lo, rfX (mRefused τ) w) := by
  have := h.side h.1.2.2.2.1 kp w F lo (kKeep (mK τ)) (kCur (mK τ)) (kKept (mK τ))
  rw [mix_self] at this
  exact this
theorem Rel.fit {σ : KX} {τ : KM} (h : Rel σ τ) (F : KF) : Rel σ (mS τ, mT τ, mK τ, F, mRow τ, mRowMany τ, mLots τ, mRefused τ) := h
/-- the shared part changes on both sides alike -/
theorem Rel.now {σ : KX} {τ : KM} (h : Rel σ τ) {c : KC} (hc : goodC c) (w : Int32) {x : SS} (hx : x = cS c) : Rel (c, xTaken σ, xTrial σ, xScr σ, xRow σ, rfX (xRefus σ) w, xKept σ, xRowLen σ, xIsTaken σ) (x, mT τ, mK τ, mF τ, mRow τ, mRowMany τ, mLots τ, rfX (mRefused τ) w) := by
  obtain ⟨hX, e1, hT, hK, e2, e3, e4⟩ := h
  exact ⟨okX_of hc hX.2.2.1 hX.2.2.2.1 hT.1 hX.2.2.2.2.2.1, hx, hT, hK, e2, e3, by show rfX (mRefused τ) w = rfX (xRefus σ) w; rw [e4]⟩
theorem Rel.S {σ : KX} {τ : KM} (h : Rel σ τ) : okS (mS τ) ∧ zS (mS τ) ∧ sAsked (mS τ) ≤ 999 := by
  rw [h.2.1]; exact (okX_C h.1).s
theorem Rel.taped {σ : KX} {τ : KM} (h : Rel σ τ) : 0 ≤ tTaped (mT τ) ∧ tTaped (mT τ) ≤ 96 := by
  rw [← h.2.2.1.2.1]; exact h.2.2.1.1.1
theorem Rel.rows {σ : KX} {τ : KM} (h : Rel σ τ) : 0 ≤ mRowMany τ ∧ mRowMany τ ≤ 12 := by
  rw [h.2.2.2.2.2.1]; exact h.1.2.2.2.2.2.1
