theorem lotsN_s (x : SS) (n : Nat) (a : Int32 × Int32 × Int32) : lotsN x (n + 1) a = ((sessionN (sNw x) (sNq x) 6 ((lotsN x n a).1, (lotsN x n a).2.1, x)).1, (sessionN (sNw x) (sNq x) 6 ((lotsN x n a).1, (lotsN x n a).2.1, x)).2.1, (lotsN x n a).2.2 + sumN (fitOf (sessionN (sNw x) (sNq x) 6 ((lotsN x n a).1, (lotsN x n a).2.1, x)).2.2 0) 64) := by rw [lotsN]
theorem sessionN_0 (nw nq : Int32) (a : Int32 × Int32 × SS) : sessionN nw nq 0 a = a := by rw [sessionN]
theorem lotsN_0 (x : SS) (a : Int32 × Int32 × Int32) : lotsN x 0 a = a := by rw [lotsN]
theorem sessionN_s (nw nq : Int32) (n : Nat) (a : Int32 × Int32 × SS) : sessionN nw nq (n + 1) a = (drawZ (drawZ (sessionN nw nq n a).1), (sessionN nw nq n a).2.1 + b2i (decide (askV (sessionN nw nq n a).2.2 (drawV (sessionN nw nq n a).1 nw) (drawV (drawZ (sessionN nw nq n a).1) nq) = 1)), askS (sessionN nw nq n a).2.2 (drawV (sessionN nw nq n a).1 nw) (drawV (drawZ (sessionN nw nq n a).1) nq)) := by rw [sessionN]
set_option maxHeartbeats 2000000 in
theorem lots_inv {x : SS} {nw nq : Nat} (hS : okS x) (hZ : zS x) (h9 : sAsked x ≤ 999) (hnq : nq ≤ 8) (enq : sNq x = nI nq) (hnw : nw ≤ 5) (enw : sNw x = nI nw) (hdw : ∀ z, ∃ d : Nat, d < nw ∧ drawV z (sNw x) = nI d) (hdq : ∀ z, ∃ d : Nat, d < nq ∧ drawV z (sNq x) = nI d) : ∀ (k : Nat) (z y : Int32), k ≤ 6 → okS (sessionN (sNw x) (sNq x) k (z, y, x)).2.2 ∧ zS (sessionN (sNw x) (sNq x) k (z, y, x)).2.2 ∧ sNq (sessionN (sNw x) (sNq x) k (z, y, x)).2.2 = sNq x ∧ sNw (sessionN (sNw x) (sNq x) k (z, y, x)).2.2 = sNw x ∧ sAsked (sessionN (sNw x) (sNq x) k (z, y, x)).2.2 = sAsked x + nI k := by
  intro k
  induction k with
  | zero => intro z y _; rw [sessionN]; exact ⟨hS, hZ, rfl, rfl, (Int32.add_zero _).symm⟩
  | succ k ih =>
    intro z y hk
    obtain ⟨a1, a2, a3, a4, a5⟩ := ih z y (by omega)
    rw [sessionN_s]
    generalize sessionN (sNw x) (sNq x) k (z, y, x) = B at a1 a2 a3 a4 a5 ⊢
    obtain ⟨b1, b2, b3⟩ := B
    obtain ⟨d1, hd1, e1⟩ := hdw b1
    obtain ⟨d2, hd2, e2⟩ := hdq (drawZ b1)
    have a1 : okS b3 := a1
    have a2 : zS b3 := a2
    have a3 : sNq b3 = sNq x := a3
    have a4 : sNw b3 = sNw x := a4
    have a5 : sAsked b3 = sAsked x + nI k := a5
    have hw : inW b3 (drawV b1 (sNw x)) := by rw [e1]; exact inW_nI (a4.trans enw) hnw hd1
    have hq : inQ b3 (drawV (drawZ b1) (sNq x)) := by rw [e2]; exact inQ_nI (a3.trans enq) hnq hd2
    have ha : sAsked b3 < 5000 := by
      rw [a5]
      obtain ⟨v, hv, ev⟩ := le_of_nI (n := 999) hS.2.1.1 h9 (by decide)
      rw [ev, nI_add]; exact nI_lt (b := 5000) (by omega) (by decide)
    refine ⟨okS_ask a1 hw hq ha, zS_ask a1 a2 _ _, a3, a4, ?_⟩
    have q : sAsked (askS b3 (drawV b1 (sNw x)) (drawV (drawZ b1) (sNq x))) = sAsked b3 + 1 := rfl
    refine q.trans ?_
    rw [a5, Int32.add_assoc, nI_1]
set_option maxHeartbeats 2000000 in
theorem lots_fin {σ : KM} {n : Nat} (p1 p2 : Int32) (hwhy : whyLots (mS σ) (nI n) p2 = 0) {kk : FI} (ke cu : Int32) (F : KF) (lo : Int32) (hkk : mixK (kKept (mK σ)) kk = kk) {v : Int32} (hv : v = lotsV (mS σ) (nI n) p1 p2) : ∃ (ex_kept : FI) (ex_keep : Int32) (ex_cur : Int32) (ex_F : KF) (ex_lots : Int32), v = rsX (whyLots (mS σ) (nI n) p2) (lotsV (mS σ) (nI n) p1 p2) ∧ ((mS σ, mT σ, (kk, kHas (mK σ), ke, cu), F, mRow σ, mRowMany σ, lo, mRefused σ) : KM) = (mS σ, mT σ, (mixK (kKept (mK σ)) ex_kept, kHas (mK σ), ex_keep, ex_cur), ex_F, mRow σ, mRowMany σ, ex_lots, rfX (mRefused σ) (whyLots (mS σ) (nI n) p2)) := by
  refine ⟨kk, ke, cu, F, lo, ?_, ?_⟩
  · rw [hv]; exact rsX_0 hwhy
  · rw [rfX_0 hwhy, hkk]
set_option maxHeartbeats 2000000 in
theorem lots_no (σ : KM) (p0 p1 p2 : Int32) : ∀ w : Int32, whyLots (mS σ) p0 p2 = w → ¬ w = 0 → ∃ (ex_kept : FI) (ex_keep : Int32) (ex_cur : Int32) (ex_F : KF) (ex_lots : Int32), w = rsX (whyLots (mS σ) p0 p2) (lotsV (mS σ) p0 p1 p2) ∧ ((mS σ, mT σ, mK σ, mF σ, mRow σ, mRowMany σ, mLots σ, refuX (mRefused σ) w) : KM) = (mS σ, mT σ, (mixK (kKept (mK σ)) ex_kept, kHas (mK σ), ex_keep, ex_cur), ex_F, mRow σ, mRowMany σ, ex_lots, rfX (mRefused σ) (whyLots (mS σ) p0 p2)) := by
  intro w hw hn
  refine ⟨kKept (mK σ), kKeep (mK σ), kCur (mK σ), mF σ, mLots σ, rsX_n hw hn, ?_⟩
  rw [rfX_n hw hn, mix_self]
abbrev LT3 : Type := Int32 → Int32 → Int32 → KM → Prop
abbrev LT4 : Type := Int32 → Int32 → Int32 → Int32 → KM → Prop
def LH76 (p0 p2 : Int32) (Post : Int32 → KM → Prop) (T76 : LT3) (T91 : LT4) : Prop := ∀ (x5 : Int32) (x6 : Int32) (x7 : Int32) (s_ : KM), (((p0 ≤ x7) → (((¬ p2 = 0) → (Post x6 s_)) ∧ ((p2 = 0) → (Post x5 s_)))) ∧ ((¬ (p0 ≤ x7)) → ((((2 : Int32) = 0 ∨ (2 : Int32) = 1 ∨ (2 : Int32) = 2) ∧ ((1 : Int32) = 0 ∨ (1 : Int32) = 1)) ∧ (∀ (u85 : KM), (u85 = ((if (1 : Int32) = 0 then loadS (kKept (mK s_)) (92 * (2 : Int32)) (mS s_) else mS s_), (mT s_), ((if (1 : Int32) = 0 then kKept (mK s_) else saveS (kKept (mK s_)) (92 * (2 : Int32)) (mS s_), kHas (mK s_), (1 : Int32), 92 * (2 : Int32) + 92)), (mF s_), (mRow s_), (mRowMany s_), (mLots s_), (mRefused s_))) → (T91 x5 x6 x7 0 u85))))) → T76 x5 x6 x7 s_
def LH91 (T76 : LT3) (T91 : LT4) : Prop := ∀ (x5 : Int32) (x6 : Int32) (x7 : Int32) (x8 : Int32) (s_ : KM), (((6 ≤ x8) → ((okS (mS s_) ∧ ((0 : Int32) = 0 ∨ (0 : Int32) = 1)) ∧ (∀ (u144 : KM), (u144 = ((mS s_), (mT s_), (mK s_), ((fitM (mS s_) (0 : Int32) (fFit (mF s_))), (fLeft (mF s_)), (fLeftBy (mF s_))), (mRow s_), (mRowMany s_), (mLots s_), (mRefused s_))) → ((((2 : Int32) = 0 ∨ (2 : Int32) = 1 ∨ (2 : Int32) = 2) ∧ ((0 : Int32) = 0 ∨ (0 : Int32) = 1)) ∧ (∀ (u162 : KM), (u162 = ((if (0 : Int32) = 0 then loadS (kKept (mK u144)) (92 * (2 : Int32)) (mS u144) else mS u144), (mT u144), ((if (0 : Int32) = 0 then kKept (mK u144) else saveS (kKept (mK u144)) (92 * (2 : Int32)) (mS u144), kHas (mK u144), (0 : Int32), 92 * (2 : Int32) + 92)), (mF u144), (mRow u144), (mRowMany u144), (mLots u144), (mRefused u144))) → (T76 x5 (x6 + (sumN (fFit (mF u144)) 64)) (x7 + 1) u162)))))) ∧ ((¬ (6 ≤ x8)) → ((0 < (sNw (mS s_))) ∧ (∀ (u103 : KM), (u103 = ((mS s_), (mT s_), (mK s_), (mF s_), (mRow s_), (mRowMany s_), (drawZ (mLots s_)), (mRefused s_))) → ((0 < (sNq (mS u103))) ∧ (∀ (u118 : KM), (u118 = ((mS u103), (mT u103), (mK u103), (mF u103), (mRow u103), (mRowMany u103), (drawZ (mLots u103)), (mRefused u103))) → ((okS (mS u118) ∧ inW (mS u118) (drawV (mLots s_) (sNw (mS s_))) ∧ inQ (mS u118) (drawV (mLots u103) (sNq (mS u103))) ∧ sAsked (mS u118) < 5000) ∧ (∀ (u121 : KM), (u121 = ((askS (mS u118) (drawV (mLots s_) (sNw (mS s_))) (drawV (mLots u103) (sNq (mS u103)))), (mT u118), (mK u118), (mF u118), (mRow u118), (mRowMany u118), (mLots u118), (mRefused u118))) → (((¬ (askV (mS u118) (drawV (mLots s_) (sNw (mS s_))) (drawV (mLots u103) (sNq (mS u103)))) = 1) → (T91 (x5 + 0) x6 x7 (x8 + 1) u121)) ∧ (((askV (mS u118) (drawV (mLots s_) (sNw (mS s_))) (drawV (mLots u103) (sNq (mS u103)))) = 1) → (T91 (x5 + 1) x6 x7 (x8 + 1) u121))))))))))) → T91 x5 x6 x7 x8 s_
set_option maxHeartbeats 2000000 in
theorem lots_step {T76 : LT3} {T91 : LT4} (h91 : LH91 T76 T91) {b1 b2 : Int32} {b3 : SS} {T : KT} {K : KK} {F : KF} {row rf : FI} {rm n2 x7 : Int32} {k : Nat} (hk : k < 6) (w0 : 0 < sNw b3) (q0 : 0 < sNq b3) (a1 : okS b3) (hw : inW b3 (drawV b1 (sNw b3))) (hq : inQ b3 (drawV (drawZ b1) (sNq b3))) (ha : sAsked b3 < 5000) (ih : T91 (b2 + b2i (decide (askV b3 (drawV b1 (sNw b3)) (drawV (drawZ b1) (sNq b3)) = 1))) n2 x7 (nI (k + 1)) (askS b3 (drawV b1 (sNw b3)) (drawV (drawZ b1) (sNq b3)), T, K, F, row, rm, drawZ (drawZ b1), rf)) : T91 b2 n2 x7 (nI k) (b3, T, K, F, row, rm, b1, rf) := by
  refine h91 _ _ _ _ _ ⟨fun c => absurd c (nle_nI (N := 6) (n := 6) (by decide) (by decide) hk), fun _ => ⟨w0, ?_⟩⟩
  intro u eu; subst eu
  refine ⟨q0, ?_⟩
  intro u eu; subst eu
  refine ⟨⟨a1, hw, hq, ha⟩, ?_⟩
  intro u eu; subst eu
  rw [nI_1]
  refine ⟨fun e => ?_, fun e => ?_⟩
  · have e' : ¬ askV b3 (drawV b1 (sNw b3)) (drawV (drawZ b1) (sNq b3)) = 1 := e
    rw [decide_eq_false e'] at ih
    exact ih
  · have e' : askV b3 (drawV b1 (sNw b3)) (drawV (drawZ b1) (sNq b3)) = 1 := e
    rw [decide_eq_true e'] at ih
    exact ih
set_option maxHeartbeats 2000000 in
theorem lots_exit {T76 : LT3} {T91 : LT4} (h91 : LH91 T76 T91) {b1 b2 : Int32} {b3 x : SS} {T : KT} {kk : FI} {kh : Int32} {F : KF} {row rf : FI} {rm n2 x7 : Int32} (hZ : zS x) (a1 : okS b3) (a2 : zS b3) (hL : T76 b2 (n2 + sumN (fitM b3 0 (fFit F)) 64) (x7 + 1) (x, T, (saveS kk (nI 184) x, kh, 0, nI 184 + 92), (fitM b3 0 (fFit F), fLeft F, fLeftBy F), row, rm, b1, rf)) : T91 b2 n2 x7 (nI 6) (b3, T, (saveS kk (nI 184) x, kh, 1, nI 184 + 92), F, row, rm, b1, rf) := by
  have e184 : (92 : Int32) * 2 = nI 184 := by decide
  have hls := load_save kk (C := 184) (by decide) hZ a2
  have l6 : (6 : Int32) ≤ nI 6 := by decide
  refine h91 _ _ _ _ _ ⟨fun _ => ⟨⟨a1, Or.inl rfl⟩, ?_⟩, fun c => absurd l6 c⟩
  intro u eu; subst eu
  refine ⟨⟨Or.inr (Or.inr rfl), Or.inl rfl⟩, ?_⟩
  intro u eu
  rw [if_pos rfl, if_pos rfl, e184] at eu
  have eu2 : u = (x, T, (saveS kk (nI 184) x, kh, 0, nI 184 + 92), (fitM b3 0 (fFit F), fLeft F, fLeftBy F), row, rm, b1, rf) := by
    refine eu.trans ?_
    exact congrArg (fun z : SS => ((z, T, (saveS kk (nI 184) x, kh, 0, nI 184 + 92), (fitM b3 0 (fFit F), fLeft F, fLeftBy F), row, rm, b1, rf) : KM)) hls
  subst eu2
  exact hL
set_option maxHeartbeats 2000000 in
theorem lots_in {p0 p2 : Int32} {Post : Int32 → KM → Prop} {T76 : LT3} {T91 : LT4} (h76 : LH76 p0 p2 Post T76 T91) {x5 x6 x7 : Int32} {x : SS} {T : KT} {kk : FI} {kh ke cu : Int32} {F : KF} {row rf : FI} {rm lo : Int32} (hlt : ¬ p0 ≤ x7) (K : T91 x5 x6 x7 0 (x, T, (saveS kk (nI 184) x, kh, 1, nI 184 + 92), F, row, rm, lo, rf)) : T76 x5 x6 x7 (x, T, (kk, kh, ke, cu), F, row, rm, lo, rf) := by
  have e184 : (92 : Int32) * 2 = nI 184 := by decide
  have i10 : ¬ (1 : Int32) = 0 := by decide
  refine h76 _ _ _ _ ⟨fun c => absurd c hlt, fun _ => ⟨⟨Or.inr (Or.inr rfl), Or.inr rfl⟩, ?_⟩⟩
  intro u eu
  rw [if_neg i10, if_neg i10, e184] at eu
  subst eu
  exact K
set_option maxRecDepth 20000 in
set_option maxHeartbeats 2000000 in
theorem v_X3_lots (σ : KM) (p0 : Int32) (p1 : Int32) (p2 : Int32) (h : okS (mS σ) ∧ zS (mS σ) ∧ sAsked (mS σ) ≤ 999) : vc_X3_lots σ p0 p1 p2 (fun r u => ∃ (ex_kept : FI) (ex_keep : Int32) (ex_cur : Int32) (ex_F : KF) (ex_lots : Int32), (r = (rsX (whyLots (mS σ) p0 p2) (lotsV (mS σ) p0 p1 p2)) ∧ u = (((mS σ), (mT σ), ((mixK (kKept (mK σ)) ex_kept, kHas (mK σ), ex_keep, ex_cur)), (ex_F), (mRow σ), (mRowMany σ), (ex_lots), (rfX (mRefused σ) (whyLots (mS σ) p0 p2)))))) := by
  have n1 : ((-1) : Int32) < 0 ∧ -6 ≤ ((-1) : Int32) := by decide
  have n2 : ((-2) : Int32) < 0 ∧ -6 ≤ ((-2) : Int32) := by decide
  have n3 : ((-3) : Int32) < 0 ∧ -6 ≤ ((-3) : Int32) := by decide
  have n6 : ((-6) : Int32) < 0 ∧ -6 ≤ ((-6) : Int32) := by decide
  obtain ⟨hS, hZ, h9⟩ := h
  obtain ⟨nq, hnq, enq⟩ := okS_nq hS
  obtain ⟨nw, hnw, enw⟩ := okS_nw hS
  have hb := @bound_neg p0 1 20
  have e184 : (92 : Int32) * 2 = nI 184 := by decide
  have i10 : ¬ (1 : Int32) = 0 := by decide
  unfold vc_X3_lots
  intro T76 T91 h76 h91
  have run : boundI p0 1 20 = 0 → ¬ isInM p2 0 1 = 0 → ¬ sNw (mS σ) = 0 → ¬ sNq (mS σ) = 0 → T76 0 0 0 (mS σ, mT σ, mK σ, mF σ, mRow σ, mRowMany σ, p1, mRefused σ) := by
    intro r1 r2 r3 r4
    have hwhy : whyLots (mS σ) p0 p2 = 0 := by
      unfold whyLots; rw [if_pos r1, if_neg r2, if_neg (fun q => q.elim r3 r4)]
    obtain ⟨m1, m20⟩ := bound_0 r1
    obtain ⟨n, hn, rfl⟩ := nI_up (M := 20) (n := 20) (by decide) ⟨Int32.le_trans (by decide) m1, m20⟩
    have hqp : 0 < nq := by
      rcases Nat.eq_zero_or_pos nq with q | q
      · exact absurd (by rw [enq, q]; rfl) r4
      · exact q
    have hwp : 0 < nw := by
      rcases Nat.eq_zero_or_pos nw with q | q
      · exact absurd (by rw [enw, q]; rfl) r3
      · exact q
    have q0 : 0 < sNq (mS σ) := by rw [enq]; exact nI_lt (a := 0) hqp (by omega)
    have w0 : 0 < sNw (mS σ) := by rw [enw]; exact nI_lt (a := 0) hwp (by omega)
    have hdw : ∀ z, ∃ d : Nat, d < nw ∧ drawV z (sNw (mS σ)) = nI d := fun z => by
      obtain ⟨d, hd, e⟩ := draw_nat (drawOnI z) hwp (by omega)
      exact ⟨d, hd, by rw [drawV_b w0, enw]; exact e⟩
    have hdq : ∀ z, ∃ d : Nat, d < nq ∧ drawV z (sNq (mS σ)) = nI d := fun z => by
      obtain ⟨d, hd, e⟩ := draw_nat (drawOnI z) hqp (by omega)
      exact ⟨d, hd, by rw [drawV_b q0, enq]; exact e⟩
    have inv := lots_inv hS hZ h9 hnq enq hnw enw hdw hdq
    have q76 : LH76 (nI n) p2 (fun r u => ∃ (ex_kept : FI) (ex_keep : Int32) (ex_cur : Int32) (ex_F : KF) (ex_lots : Int32), (r = (rsX (whyLots (mS σ) (nI n) p2) (lotsV (mS σ) (nI n) p1 p2)) ∧ u = (((mS σ), (mT σ), ((mixK (kKept (mK σ)) ex_kept, kHas (mK σ), ex_keep, ex_cur)), (ex_F), (mRow σ), (mRowMany σ), (ex_lots), (rfX (mRefused σ) (whyLots (mS σ) (nI n) p2)))))) T76 T91 := h76
    have q91 : LH91 T76 T91 := h91
    clear h76 h91
    refine (fun K => ?_) (upN n (fun i => ∀ (kk : FI) (ke cu : Int32) (F : KF), mixK (kKept (mK σ)) kk = kk → T76 (lotsN (mS σ) i (p1, 0, 0)).2.1 (lotsN (mS σ) i (p1, 0, 0)).2.2 (nI i) (mS σ, mT σ, (kk, kHas (mK σ), ke, cu), F, mRow σ, mRowMany σ, (lotsN (mS σ) i (p1, 0, 0)).1, mRefused σ)) ?_ (fun i hi ih => ?_) 0 (Nat.zero_le _) (kKept (mK σ)) (kKeep (mK σ)) (kCur (mK σ)) (mF σ) (mix_self _))
    · rw [lotsN_0] at K; exact K
    · intro kk ke cu F hkk
      refine q76 _ _ _ _ ⟨fun _ => ⟨fun c => lots_fin p1 p2 hwhy ke cu F _ hkk ?_, fun c => lots_fin p1 p2 hwhy ke cu F _ hkk ?_⟩, fun c => absurd (Int32.le_refl _) c⟩
      · unfold lotsV; rw [nI_clamp (show n < 2 ^ 31 by omega)]; simp only [if_neg c]
      · unfold lotsV; rw [nI_clamp (show n < 2 ^ 31 by omega)]; simp only [if_pos c]
    · intro kk ke cu F hkk
      have hnx := lotsN_s (mS σ) i (p1, 0, 0)
      rw [hnx] at ih
      clear hnx
      generalize lotsN (mS σ) i (p1, 0, 0) = A at ih ⊢
      obtain ⟨z1, z2, z3⟩ := A
      refine lots_in q76 (nI_ge hi (by omega)) ?_
      refine (fun K => ?_) (upN 6 (fun k => T91 (sessionN (sNw (mS σ)) (sNq (mS σ)) k (z1, z2, mS σ)).2.1 z3 (nI i) (nI k) ((sessionN (sNw (mS σ)) (sNq (mS σ)) k (z1, z2, mS σ)).2.2, mT σ, (saveS kk (nI 184) (mS σ), kHas (mK σ), 1, nI 184 + 92), F, mRow σ, mRowMany σ, (sessionN (sNw (mS σ)) (sNq (mS σ)) k (z1, z2, mS σ)).1, mRefused σ)) ?_ (fun k hk ih2 => ?_) 0 (Nat.zero_le _))
      · rw [sessionN_0] at K; exact K
      · obtain ⟨a1, a2, -⟩ := inv 6 z1 z2 (by decide)
        generalize sessionN (sNw (mS σ)) (sNq (mS σ)) 6 (z1, z2, mS σ) = B at a1 a2 ih ⊢
        obtain ⟨b1, b2, b3⟩ := B
        have hsum : sumN (fitM b3 0 (fFit F)) 64 = sumN (fitOf b3 0) 64 := sumN_congr (fun k hk => by unfold fitM tab; rw [if_pos hk])
        have hm := mix_save hkk (C := 184) (by decide) (by decide) (mS σ)
        refine lots_exit q91 hZ a1 a2 ?_
        rw [hsum, nI_1]
        exact ih (saveS kk (nI 184) (mS σ)) 0 (nI 184 + 92) (fitM b3 0 (fFit F), fLeft F, fLeftBy F) hm
      · obtain ⟨a1, a2, a3, a4, a5⟩ := inv k z1 z2 (by omega)
        rw [sessionN_s] at ih2
        generalize sessionN (sNw (mS σ)) (sNq (mS σ)) k (z1, z2, mS σ) = B at a1 a2 a3 a4 a5 ih2 ⊢
        obtain ⟨b1, b2, b3⟩ := B
        have a3 : sNq b3 = sNq (mS σ) := a3
        have a4 : sNw b3 = sNw (mS σ) := a4
        have a5 : sAsked b3 = sAsked (mS σ) + nI k := a5
        have hw : inW b3 (drawV b1 (sNw b3)) := by
          obtain ⟨d, hd, e⟩ := hdw b1
          rw [a4, e]; exact inW_nI (a4.trans enw) hnw hd
        have hq : inQ b3 (drawV (drawZ b1) (sNq b3)) := by
          obtain ⟨d, hd, e⟩ := hdq (drawZ b1)
          rw [a3, e]; exact inQ_nI (a3.trans enq) hnq hd
        have ha : sAsked b3 < 5000 := by
          rw [a5]
          obtain ⟨x, hx, ex⟩ := le_of_nI (n := 999) hS.2.1.1 h9 (by decide)
          rw [ex, nI_add]; exact nI_lt (b := 5000) (by omega) (by decide)
        refine lots_step q91 hk (by rw [a4]; exact w0) (by rw [a3]; exact q0) a1 hw hq ha ?_
        rw [a4, a3]
        exact ih2
  have no := lots_no σ p0 p1 p2
  refine ⟨fun c => ⟨fun c2 => absurd c2 c, fun _ => ⟨hb c, ?_⟩⟩, fun c => ⟨fun c2 => ⟨fun c3 => ⟨n3, ?_⟩, fun c3 => ⟨fun c4 => run c c2 c3 c4, fun c4 => ⟨n3, ?_⟩⟩⟩, fun c2 => ⟨n2, ?_⟩⟩⟩
  · intro u eu; subst eu
    exact no _ (by unfold whyLots; rw [if_neg c]) c
  · intro u eu; subst eu
    exact no _ (by unfold whyLots; rw [if_pos c, if_neg c2, if_pos (Or.inl c3)]) (by decide)
  · intro u eu; subst eu
    exact no _ (by unfold whyLots; rw [if_pos c, if_neg c2, if_pos (Or.inr c4)]) (by decide)
  · intro u eu; subst eu
    exact no _ (by unfold whyLots; rw [if_pos c, if_pos c2]) (by decide)
theorem c_X3_lots (l : Launch) : C_X3_lots l := fun g ad σ p0 p1 p2 h => m_X3_lots l (c_X3_asksOne l) (c_X3_bound l) (c_X3_draw l) (c_X3_findFit l) (c_X3_isIn l) (c_X3_manyIn l) (c_X3_no l) (c_X3_passesAll l) g ad σ p0 p1 p2 _ (v_X3_lots σ p0 p1 p2 h)
