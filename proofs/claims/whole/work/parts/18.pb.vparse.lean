set_option maxRecDepth 20000 in
set_option maxHeartbeats 20000000 in
theorem v_X3_passesAll (σ : KM) (p0 : Int32) (p1 : Int32) (h : (p0 = 0 ∨ p0 = 1 ∨ p0 = 2) ∧ (p1 = 0 ∨ p1 = 1)) : vc_X3_passesAll σ p0 p1 (fun u => u = (((if p1 = 0 then loadS (kKept (mK σ)) (92 * p0) (mS σ) else mS σ), (mT σ), ((if p1 = 0 then kKept (mK σ) else saveS (kKept (mK σ)) (92 * p0) (mS σ), kHas (mK σ), p1, 92 * p0 + 92)), (mF σ), (mRow σ), (mRowMany σ), (mLots σ), (mRefused σ)))) := by
  obtain ⟨hp, hk⟩ := h
  have i10 : ¬ (1 : Int32) = 0 := by decide
  have b0 : 0 ≤ 92 * p0 ∧ 92 * p0 ≤ 276 - 8 := by rcases hp with e | e | e <;> subst e <;> decide
  have b8 : 0 ≤ 92 * p0 + 8 ∧ 92 * p0 + 8 ≤ 276 - 8 := by rcases hp with e | e | e <;> subst e <;> decide
  have b16 : 0 ≤ 92 * p0 + 16 ∧ 92 * p0 + 16 ≤ 276 - 8 := by rcases hp with e | e | e <;> subst e <;> decide
  have b24 : 0 ≤ 92 * p0 + 24 ∧ 92 * p0 + 24 ≤ 276 - 5 := by rcases hp with e | e | e <;> subst e <;> decide
  have b29 : 0 ≤ 92 * p0 + 29 ∧ 92 * p0 + 29 ≤ 276 - 5 := by rcases hp with e | e | e <;> subst e <;> decide
  have b34 : 0 ≤ 92 * p0 + 34 ∧ 92 * p0 + 34 ≤ 276 - 5 := by rcases hp with e | e | e <;> subst e <;> decide
  have b39 : 0 ≤ 92 * p0 + 39 ∧ 92 * p0 + 39 ≤ 276 - 12 := by rcases hp with e | e | e <;> subst e <;> decide
  have b51 : 0 ≤ 92 * p0 + 51 ∧ 92 * p0 + 51 ≤ 276 - 12 := by rcases hp with e | e | e <;> subst e <;> decide
  have b63 : 0 ≤ 92 * p0 + 63 ∧ 92 * p0 + 63 ≤ 276 - 12 := by rcases hp with e | e | e <;> subst e <;> decide
  have b75 : 0 ≤ 92 * p0 + 75 ∧ 92 * p0 + 75 ≤ 276 - 12 := by rcases hp with e | e | e <;> subst e <;> decide
  have b87 : 0 ≤ 92 * p0 + 87 ∧ 92 * p0 + 87 ≤ 276 - 1 := by rcases hp with e | e | e <;> subst e <;> decide
  have b88 : 0 ≤ 92 * p0 + 88 ∧ 92 * p0 + 88 ≤ 276 - 1 := by rcases hp with e | e | e <;> subst e <;> decide
  have b89 : 0 ≤ 92 * p0 + 89 ∧ 92 * p0 + 89 ≤ 276 - 1 := by rcases hp with e | e | e <;> subst e <;> decide
  have b90 : 0 ≤ 92 * p0 + 90 ∧ 92 * p0 + 90 ≤ 276 - 1 := by rcases hp with e | e | e <;> subst e <;> decide
  have b91 : 0 ≤ 92 * p0 + 91 ∧ 92 * p0 + 91 ≤ 276 - 1 := by rcases hp with e | e | e <;> subst e <;> decide
  have a16 : 92 * p0 + 8 + 8 = 92 * p0 + 16 := by rw [Int32.add_assoc]; rfl
  have a24 : 92 * p0 + 16 + 8 = 92 * p0 + 24 := by rw [Int32.add_assoc]; rfl
  have a29 : 92 * p0 + 24 + 5 = 92 * p0 + 29 := by rw [Int32.add_assoc]; rfl
  have a34 : 92 * p0 + 29 + 5 = 92 * p0 + 34 := by rw [Int32.add_assoc]; rfl
  have a39 : 92 * p0 + 34 + 5 = 92 * p0 + 39 := by rw [Int32.add_assoc]; rfl
  have a51 : 92 * p0 + 39 + 12 = 92 * p0 + 51 := by rw [Int32.add_assoc]; rfl
  have a63 : 92 * p0 + 51 + 12 = 92 * p0 + 63 := by rw [Int32.add_assoc]; rfl
  have a75 : 92 * p0 + 63 + 12 = 92 * p0 + 75 := by rw [Int32.add_assoc]; rfl
  have a87 : 92 * p0 + 75 + 12 = 92 * p0 + 87 := by rw [Int32.add_assoc]; rfl
  have a88 : 92 * p0 + 87 + 1 = 92 * p0 + 88 := by rw [Int32.add_assoc]; rfl
  have a89 : 92 * p0 + 88 + 1 = 92 * p0 + 89 := by rw [Int32.add_assoc]; rfl
  have a90 : 92 * p0 + 89 + 1 = 92 * p0 + 90 := by rw [Int32.add_assoc]; rfl
  have a91 : 92 * p0 + 90 + 1 = 92 * p0 + 91 := by rw [Int32.add_assoc]; rfl
  have a92 : 92 * p0 + 91 + 1 = 92 * p0 + 92 := by rw [Int32.add_assoc]; rfl
  obtain ⟨⟨s0, s1, s2, s3, s4, s5, s6, s7, s8, s9, s10, s11, s12, s13, s14⟩, T, ⟨k0, k1, k2, k3⟩, F, row, rm, lo, rf⟩ := σ
  unfold vc_X3_passesAll
  rcases hk with rfl | rfl
  · refine ⟨⟨rfl, rfl⟩, b0, ?_⟩
    intro u e; subst e
    simp only [mS, mT, mK, mF, mRow, mRowMany, mLots, mRefused, sCase, sAsked, sNq, sNw, sNh, sForm, sFirst, sSecond, sKind, sFigure, sKnows, sWhom, sWhat, sSaid, sWhen, kKept, kHas, kKeep, kCur, if_pos, if_neg, reduceIte]
    refine ⟨b8, ?_⟩
    intro u e; subst e
    simp only [mS, mT, mK, mF, mRow, mRowMany, mLots, mRefused, sCase, sAsked, sNq, sNw, sNh, sForm, sFirst, sSecond, sKind, sFigure, sKnows, sWhom, sWhat, sSaid, sWhen, kKept, kHas, kKeep, kCur, if_pos, if_neg, reduceIte, a16]
    refine ⟨b16, ?_⟩
    intro u e; subst e
    simp only [mS, mT, mK, mF, mRow, mRowMany, mLots, mRefused, sCase, sAsked, sNq, sNw, sNh, sForm, sFirst, sSecond, sKind, sFigure, sKnows, sWhom, sWhat, sSaid, sWhen, kKept, kHas, kKeep, kCur, if_pos, if_neg, reduceIte, a24]
    refine ⟨b24, ?_⟩
    intro u e; subst e
    simp only [mS, mT, mK, mF, mRow, mRowMany, mLots, mRefused, sCase, sAsked, sNq, sNw, sNh, sForm, sFirst, sSecond, sKind, sFigure, sKnows, sWhom, sWhat, sSaid, sWhen, kKept, kHas, kKeep, kCur, if_pos, if_neg, reduceIte, a29]
    refine ⟨b29, ?_⟩
    intro u e; subst e
    simp only [mS, mT, mK, mF, mRow, mRowMany, mLots, mRefused, sCase, sAsked, sNq, sNw, sNh, sForm, sFirst, sSecond, sKind, sFigure, sKnows, sWhom, sWhat, sSaid, sWhen, kKept, kHas, kKeep, kCur, if_pos, if_neg, reduceIte, a34]
    refine ⟨b34, ?_⟩
    intro u e; subst e
    simp only [mS, mT, mK, mF, mRow, mRowMany, mLots, mRefused, sCase, sAsked, sNq, sNw, sNh, sForm, sFirst, sSecond, sKind, sFigure, sKnows, sWhom, sWhat, sSaid, sWhen, kKept, kHas, kKeep, kCur, if_pos, if_neg, reduceIte, a39]
    refine ⟨b39, ?_⟩
    intro u e; subst e
    simp only [mS, mT, mK, mF, mRow, mRowMany, mLots, mRefused, sCase, sAsked, sNq, sNw, sNh, sForm, sFirst, sSecond, sKind, sFigure, sKnows, sWhom, sWhat, sSaid, sWhen, kKept, kHas, kKeep, kCur, if_pos, if_neg, reduceIte, a51]
    refine ⟨b51, ?_⟩
    intro u e; subst e
    simp only [mS, mT, mK, mF, mRow, mRowMany, mLots, mRefused, sCase, sAsked, sNq, sNw, sNh, sForm, sFirst, sSecond, sKind, sFigure, sKnows, sWhom, sWhat, sSaid, sWhen, kKept, kHas, kKeep, kCur, if_pos, if_neg, reduceIte, a63]
    refine ⟨b63, ?_⟩
    intro u e; subst e
    simp only [mS, mT, mK, mF, mRow, mRowMany, mLots, mRefused, sCase, sAsked, sNq, sNw, sNh, sForm, sFirst, sSecond, sKind, sFigure, sKnows, sWhom, sWhat, sSaid, sWhen, kKept, kHas, kKeep, kCur, if_pos, if_neg, reduceIte, a75]
    refine ⟨b75, ?_⟩
    intro u e; subst e
    simp only [mS, mT, mK, mF, mRow, mRowMany, mLots, mRefused, sCase, sAsked, sNq, sNw, sNh, sForm, sFirst, sSecond, sKind, sFigure, sKnows, sWhom, sWhat, sSaid, sWhen, kKept, kHas, kKeep, kCur, if_pos, if_neg, reduceIte, a87]
    refine ⟨b87, ?_⟩
    intro u e; subst e
    simp only [mS, mT, mK, mF, mRow, mRowMany, mLots, mRefused, sCase, sAsked, sNq, sNw, sNh, sForm, sFirst, sSecond, sKind, sFigure, sKnows, sWhom, sWhat, sSaid, sWhen, kKept, kHas, kKeep, kCur, if_pos, if_neg, reduceIte, a88]
    refine ⟨b88, ?_⟩
    intro u e; subst e
    simp only [mS, mT, mK, mF, mRow, mRowMany, mLots, mRefused, sCase, sAsked, sNq, sNw, sNh, sForm, sFirst, sSecond, sKind, sFigure, sKnows, sWhom, sWhat, sSaid, sWhen, kKept, kHas, kKeep, kCur, if_pos, if_neg, reduceIte, a89]
    refine ⟨b89, ?_⟩
    intro u e; subst e
    simp only [mS, mT, mK, mF, mRow, mRowMany, mLots, mRefused, sCase, sAsked, sNq, sNw, sNh, sForm, sFirst, sSecond, sKind, sFigure, sKnows, sWhom, sWhat, sSaid, sWhen, kKept, kHas, kKeep, kCur, if_pos, if_neg, reduceIte, a90]
    refine ⟨b90, ?_⟩
    intro u e; subst e
    simp only [mS, mT, mK, mF, mRow, mRowMany, mLots, mRefused, sCase, sAsked, sNq, sNw, sNh, sForm, sFirst, sSecond, sKind, sFigure, sKnows, sWhom, sWhat, sSaid, sWhen, kKept, kHas, kKeep, kCur, if_pos, if_neg, reduceIte, a91]
    refine ⟨b91, ?_⟩
    intro u e; subst e
    simp only [mS, mT, mK, mF, mRow, mRowMany, mLots, mRefused, sCase, sAsked, sNq, sNw, sNh, sForm, sFirst, sSecond, sKind, sFigure, sKnows, sWhom, sWhat, sSaid, sWhen, kKept, kHas, kKeep, kCur, if_pos, if_neg, reduceIte, a92]
    simp only [loadS, mkS, mS, mT, mK, mF, mRow, mRowMany, mLots, mRefused, sCase, sAsked, sNq, sNw, sNh, sForm, sFirst, sSecond, sKind, sFigure, sKnows, sWhom, sWhat, sSaid, sWhen, kKept, kHas, kKeep, kCur]
  · refine ⟨⟨rfl, rfl⟩, b0, ?_⟩
    intro u e; subst e
    simp only [mS, mT, mK, mF, mRow, mRowMany, mLots, mRefused, sCase, sAsked, sNq, sNw, sNh, sForm, sFirst, sSecond, sKind, sFigure, sKnows, sWhom, sWhat, sSaid, sWhen, kKept, kHas, kKeep, kCur, if_pos, if_neg, reduceIte, i10]
    refine ⟨b8, ?_⟩
    intro u e; subst e
    simp only [mS, mT, mK, mF, mRow, mRowMany, mLots, mRefused, sCase, sAsked, sNq, sNw, sNh, sForm, sFirst, sSecond, sKind, sFigure, sKnows, sWhom, sWhat, sSaid, sWhen, kKept, kHas, kKeep, kCur, if_pos, if_neg, reduceIte, i10, a16]
    refine ⟨b16, ?_⟩
    intro u e; subst e
    simp only [mS, mT, mK, mF, mRow, mRowMany, mLots, mRefused, sCase, sAsked, sNq, sNw, sNh, sForm, sFirst, sSecond, sKind, sFigure, sKnows, sWhom, sWhat, sSaid, sWhen, kKept, kHas, kKeep, kCur, if_pos, if_neg, reduceIte, i10, a24]
    refine ⟨b24, ?_⟩
    intro u e; subst e
    simp only [mS, mT, mK, mF, mRow, mRowMany, mLots, mRefused, sCase, sAsked, sNq, sNw, sNh, sForm, sFirst, sSecond, sKind, sFigure, sKnows, sWhom, sWhat, sSaid, sWhen, kKept, kHas, kKeep, kCur, if_pos, if_neg, reduceIte, i10, a29]
    refine ⟨b29, ?_⟩
    intro u e; subst e
    simp only [mS, mT, mK, mF, mRow, mRowMany, mLots, mRefused, sCase, sAsked, sNq, sNw, sNh, sForm, sFirst, sSecond, sKind, sFigure, sKnows, sWhom, sWhat, sSaid, sWhen, kKept, kHas, kKeep, kCur, if_pos, if_neg, reduceIte, i10, a34]
    refine ⟨b34, ?_⟩
    intro u e; subst e
    simp only [mS, mT, mK, mF, mRow, mRowMany, mLots, mRefused, sCase, sAsked, sNq, sNw, sNh, sForm, sFirst, sSecond, sKind, sFigure, sKnows, sWhom, sWhat, sSaid, sWhen, kKept, kHas, kKeep, kCur, if_pos, if_neg, reduceIte, i10, a39]
    refine ⟨b39, ?_⟩
    intro u e; subst e
    simp only [mS, mT, mK, mF, mRow, mRowMany, mLots, mRefused, sCase, sAsked, sNq, sNw, sNh, sForm, sFirst, sSecond, sKind, sFigure, sKnows, sWhom, sWhat, sSaid, sWhen, kKept, kHas, kKeep, kCur, if_pos, if_neg, reduceIte, i10, a51]
    refine ⟨b51, ?_⟩
    intro u e; subst e
    simp only [mS, mT, mK, mF, mRow, mRowMany, mLots, mRefused, sCase, sAsked, sNq, sNw, sNh, sForm, sFirst, sSecond, sKind, sFigure, sKnows, sWhom, sWhat, sSaid, sWhen, kKept, kHas, kKeep, kCur, if_pos, if_neg, reduceIte, i10, a63]
    refine ⟨b63, ?_⟩
    intro u e; subst e
    simp only [mS, mT, mK, mF, mRow, mRowMany, mLots, mRefused, sCase, sAsked, sNq, sNw, sNh, sForm, sFirst, sSecond, sKind, sFigure, sKnows, sWhom, sWhat, sSaid, sWhen, kKept, kHas, kKeep, kCur, if_pos, if_neg, reduceIte, i10, a75]
    refine ⟨b75, ?_⟩
    intro u e; subst e
    simp only [mS, mT, mK, mF, mRow, mRowMany, mLots, mRefused, sCase, sAsked, sNq, sNw, sNh, sForm, sFirst, sSecond, sKind, sFigure, sKnows, sWhom, sWhat, sSaid, sWhen, kKept, kHas, kKeep, kCur, if_pos, if_neg, reduceIte, i10, a87]
    refine ⟨b87, ?_⟩
    intro u e; subst e
    simp only [mS, mT, mK, mF, mRow, mRowMany, mLots, mRefused, sCase, sAsked, sNq, sNw, sNh, sForm, sFirst, sSecond, sKind, sFigure, sKnows, sWhom, sWhat, sSaid, sWhen, kKept, kHas, kKeep, kCur, if_pos, if_neg, reduceIte, i10, a88]
    refine ⟨b88, ?_⟩
    intro u e; subst e
    simp only [mS, mT, mK, mF, mRow, mRowMany, mLots, mRefused, sCase, sAsked, sNq, sNw, sNh, sForm, sFirst, sSecond, sKind, sFigure, sKnows, sWhom, sWhat, sSaid, sWhen, kKept, kHas, kKeep, kCur, if_pos, if_neg, reduceIte, i10, a89]
    refine ⟨b89, ?_⟩
    intro u e; subst e
    simp only [mS, mT, mK, mF, mRow, mRowMany, mLots, mRefused, sCase, sAsked, sNq, sNw, sNh, sForm, sFirst, sSecond, sKind, sFigure, sKnows, sWhom, sWhat, sSaid, sWhen, kKept, kHas, kKeep, kCur, if_pos, if_neg, reduceIte, i10, a90]
    refine ⟨b90, ?_⟩
    intro u e; subst e
    simp only [mS, mT, mK, mF, mRow, mRowMany, mLots, mRefused, sCase, sAsked, sNq, sNw, sNh, sForm, sFirst, sSecond, sKind, sFigure, sKnows, sWhom, sWhat, sSaid, sWhen, kKept, kHas, kKeep, kCur, if_pos, if_neg, reduceIte, i10, a91]
    refine ⟨b91, ?_⟩
    intro u e; subst e
    simp only [mS, mT, mK, mF, mRow, mRowMany, mLots, mRefused, sCase, sAsked, sNq, sNw, sNh, sForm, sFirst, sSecond, sKind, sFigure, sKnows, sWhom, sWhat, sSaid, sWhen, kKept, kHas, kKeep, kCur, if_pos, if_neg, reduceIte, i10, a92]
    simp only [saveS, mkS, mS, mT, mK, mF, mRow, mRowMany, mLots, mRefused, sCase, sAsked, sNq, sNw, sNh, sForm, sFirst, sSecond, sKind, sFigure, sKnows, sWhom, sWhat, sSaid, sWhen, kKept, kHas, kKeep, kCur]
