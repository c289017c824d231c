theorem upN (n : Nat) (P : Nat → Prop) (h0 : P n) (hs : ∀ j, j < n → P (j + 1) → P j) : ∀ j, j ≤ n → P j := by
  intro j hj
  obtain ⟨d, hd⟩ : ∃ d, n = j + d := ⟨n - j, by omega⟩
  induction d generalizing j with
  | zero => rw [show j = n by omega]; exact h0
  | succ d ih => exact hs j (by omega) (ih (j + 1) (by omega) (by omega))
theorem nI_up {x M : Int32} {n : Nat} (hM : M.toInt = n) (h : 0 ≤ x ∧ x ≤ M) : ∃ j : Nat, j ≤ n ∧ x = nI j := nI_of2 hM (Int32.not_lt.mpr h.1) h.2
theorem okS_nq {x : SS} (h : okS x) : ∃ n : Nat, n ≤ 8 ∧ sNq x = nI n := nI_up (by decide) h.2.2.1
theorem okS_nw {x : SS} (h : okS x) : ∃ n : Nat, n ≤ 5 ∧ sNw x = nI n := nI_up (by decide) h.2.2.2.1
theorem okS_nh {x : SS} (h : okS x) : ∃ n : Nat, n ≤ 12 ∧ sNh x = nI n := nI_up (by decide) h.2.2.2.2.1
theorem vin {k n : Nat} (h : k < n) (hn : n < 2 ^ 31 := by decide) : vp_in (nI k) n := vp_in_nI h hn
theorem b2i_ne {b : Bool} : (¬ b2i b = 0) ↔ b = true := by cases b <;> decide
theorem int_le (x y : Int32) : x ≤ y ↔ x.toInt ≤ y.toInt := Int32.le_iff_toInt_le
theorem int_lt (x y : Int32) : x < y ↔ x.toInt < y.toInt := Int32.lt_iff_toInt_lt
theorem vin_lt {x : Int32} {n : Nat} {N : Int32} (hN : N.toInt = n) (h0 : 0 ≤ x) (h1 : x < N) : vp_in x n := by
  rw [vp_in_iff]
  rw [int_le] at h0; rw [int_lt] at h1
  have : (0 : Int32).toInt = 0 := by decide
  omega
theorem hasQ_b {x : SS} {q : Int32} (h : ¬ hasQI x q = 0) : 0 ≤ q ∧ q < sNq x ∧ q < 8 := by
  have h1 := b2i_ne.mp h; simp at h1; exact ⟨h1.1.1, h1.1.2, h1.2⟩
theorem hasW_b {x : SS} {w : Int32} (h : ¬ hasWI x w = 0) : 0 ≤ w ∧ w < sNw x ∧ w < 5 := by
  have h1 := b2i_ne.mp h; simp at h1; exact ⟨h1.1.1, h1.1.2, h1.2⟩
theorem hasP_b {x : SS} {k : Int32} (h : ¬ hasPI x k = 0) : 0 ≤ k ∧ k < sNh x ∧ k < 12 := by
  have h1 := b2i_ne.mp h; simp at h1; exact ⟨h1.1.1, h1.1.2, h1.2⟩
theorem vinQ {x : SS} {q : Int32} (h : ¬ hasQI x q = 0) : vp_in q 8 := vin_lt (N := 8) (by decide) (hasQ_b h).1 (hasQ_b h).2.2
theorem vinW {x : SS} {w : Int32} (h : ¬ hasWI x w = 0) : vp_in w 5 := vin_lt (N := 5) (by decide) (hasW_b h).1 (hasW_b h).2.2
theorem vinP {x : SS} {k : Int32} (h : ¬ hasPI x k = 0) : vp_in k 12 := vin_lt (N := 12) (by decide) (hasP_b h).1 (hasP_b h).2.2
theorem inQ_of {x : SS} {q : Int32} (h : ¬ hasQI x q = 0) : inQ x q := ⟨(hasQ_b h).1, (hasQ_b h).2.1⟩
theorem inW_of {x : SS} {w : Int32} (h : ¬ hasWI x w = 0) : inW x w := ⟨(hasW_b h).1, (hasW_b h).2.1⟩
theorem inQ_nat {x : SS} (hx : okS x) {q : Int32} (h : inQ x q) : ∃ k n : Nat, k < n ∧ n ≤ 8 ∧ q = nI k ∧ sNq x = nI n := by
  obtain ⟨n, hn, en⟩ := okS_nq hx
  obtain ⟨k, hk, ek⟩ := nI_of (Int32.not_lt.mpr h.1)
  refine ⟨k, n, ?_, hn, ek, en⟩
  have h2 := h.2
  rw [ek, en] at h2
  exact (nI_ltI hk (by omega)).mp h2
theorem inW_nat {x : SS} (hx : okS x) {q : Int32} (h : inW x q) : ∃ k n : Nat, k < n ∧ n ≤ 5 ∧ q = nI k ∧ sNw x = nI n := by
  obtain ⟨n, hn, en⟩ := okS_nw hx
  obtain ⟨k, hk, ek⟩ := nI_of (Int32.not_lt.mpr h.1)
  refine ⟨k, n, ?_, hn, ek, en⟩
  have h2 := h.2
  rw [ek, en] at h2
  exact (nI_ltI hk (by omega)).mp h2
theorem inQ_vin {x : SS} (hx : okS x) {q : Int32} (h : inQ x q) : vp_in q 8 := by
  obtain ⟨k, n, h1, h2, rfl, -⟩ := inQ_nat hx h
  exact vin (by omega)
theorem inW_vin {x : SS} (hx : okS x) {q : Int32} (h : inW x q) : vp_in q 5 := by
  obtain ⟨k, n, h1, h2, rfl, -⟩ := inW_nat hx h
  exact vin (by omega)
theorem onward_nat {x : SS} {k n j : Nat} (h : k < n) (hn : n ≤ 8) (hj : j ≤ 8) (en : sNq x = nI n) : onwardI x (nI k) (nI j) = nI ((k + j) % n) := by
  unfold onwardI
  rw [en, if_pos (by rw [← nI_0]; exact nI_lt (by omega) (by omega)), nI_add, pk_rem (by omega) (by omega) (by omega)]
theorem onward_in {x : SS} (hx : okS x) {q : Int32} (h : inQ x q) {j : Nat} (hj : j ≤ 8) : inQ x (onwardI x q (nI j)) := by
  obtain ⟨k, n, h1, h2, rfl, en⟩ := inQ_nat hx h
  rw [onward_nat h1 h2 hj en]
  have := Nat.mod_lt (k + j) (show 0 < n by omega)
  exact ⟨nI_pos' (by omega), by rw [en]; exact nI_lt this (by omega)⟩
theorem v_X2_isFact (p0 : Int32) : vc_X2_isFact p0 (fun r => r = isFactI p0) := by
  unfold vc_X2_isFact isFactI b2i; grind
theorem v_X2_isPart (p0 : Int32) : vc_X2_isPart p0 (fun r => r = isPartI p0) := by
  unfold vc_X2_isPart isPartI b2i; grind
theorem isFact_vin {f : Int32} (h : ¬ isFactI f = 0) : vp_in f 6 := by
  have h1 := b2i_ne.mp h; simp at h1; exact vin_lt (N := 6) (by decide) h1.1 h1.2
theorem v_X2_factCases (p0 : Int32) : vc_X2_factCases p0 (fun r => r = factCasesL p0) := by
  have h1 := @isFact_vin p0
  unfold vc_X2_factCases factCasesL; grind
theorem cmp_z (x y : Int64) : lg_cmp x y = 0 ↔ x = y := by
  unfold lg_cmp; grind
theorem v_X2_isIn (p0 : Int64) (p1 : Int32) : vc_X2_isIn p0 p1 (fun r => r = isInI p0 p1) := by
  unfold vc_X2_isIn isInI b2i; simp only [cmp_z]; grind
theorem v_X2_isSure (p0 p1 : Int64) : vc_X2_isSure p0 p1 (fun r => r = isSureI p0 p1) := by
  unfold vc_X2_isSure isSureI b2i; simp only [cmp_z]; grind
theorem v_X0_hasQuestion (σ : KC) (p0 : Int32) : vc_X0_hasQuestion σ p0 (fun r => r = hasQI (cS σ) p0) := by
  unfold vc_X0_hasQuestion hasQI b2i; grind
theorem v_X0_hasWitness (σ : KC) (p0 : Int32) : vc_X0_hasWitness σ p0 (fun r => r = hasWI (cS σ) p0) := by
  unfold vc_X0_hasWitness hasWI b2i; grind
theorem v_X0_hasPlace (σ : KC) (p0 : Int32) : vc_X0_hasPlace σ p0 (fun r => r = hasPI (cS σ) p0) := by
  unfold vc_X0_hasPlace hasPI b2i; grind
theorem v_X0_canAsk (σ : KC) (p0 p1 : Int32) : vc_X0_canAsk σ p0 p1 (fun r => r = canAskI (cS σ) p0 p1) := by
  unfold vc_X0_canAsk canAskI; grind
theorem v_X0_casesSo (p0 : Int32) (p1 p2 : Int64) : vc_X0_casesSo p0 p1 p2 (fun r => r = casesSoL p0 p1 p2) := by
  unfold vc_X0_casesSo casesSoL; grind
theorem v_X0_truthOf (σ : KC) (p0 : Int32) : vc_X0_truthOf σ p0 (fun r => r = truthOfL σ p0) := by
  have h1 := @vinQ (cS σ) p0
  unfold vc_X0_truthOf truthOfL; grind
theorem v_X0_isSo (σ : KC) (p0 : Int32) : vc_X0_isSo σ p0 (fun r => r = cisSoI σ p0) := by
  unfold vc_X0_isSo cisSoI
  exact ⟨b2i_nar _, rfl⟩
theorem v_X0_onward (σ : KC) (p0 p1 : Int32) : vc_X0_onward σ p0 p1 (fun r => r = onwardI (cS σ) p0 p1) := by
  unfold vc_X0_onward onwardI; grind
theorem v_X0_plainYes (σ : KC) (p0 p1 : Int32) (h : inW (cS σ) p0 ∧ inQ (cS σ) p1 ∧ okC σ) : vc_X0_plainYes σ p0 p1 (fun r => r = plainYesL σ p0 p1) := by
  have h1 := inW_vin h.2.2.1 h.1
  have h2 := inQ_vin h.2.2.1 h.2.1
  unfold vc_X0_plainYes plainYesL knowsB; grind
theorem v_X0_plainNo (σ : KC) (p0 p1 : Int32) (h : inW (cS σ) p0 ∧ inQ (cS σ) p1 ∧ okC σ) : vc_X0_plainNo σ p0 p1 (fun r => r = plainNoL σ p0 p1) := by
  have h1 := inW_vin h.2.2.1 h.1
  have h2 := inQ_vin h.2.2.1 h.2.1
  unfold vc_X0_plainNo plainNoL knowsB; grind
theorem v_X0_forgets (σ : KC) (p0 p1 : Int32) (h : inW (cS σ) p0 ∧ okC σ) : vc_X0_forgets σ p0 p1 (fun r => r = forgetsI (cS σ) p0 p1) := by
  have h1 := inW_vin h.2.1 h.1
  unfold vc_X0_forgets forgetsI b2i; grind
theorem v_X0_yes (σ : KC) (p0 p1 p2 : Int32) (h : okC σ) : vc_X0_yes σ p0 p1 p2 (fun r => r = yesL σ p0 p1 p2) := by
  have h1 := @vinW (cS σ) p0
  have h2 := @inW_of (cS σ) p0
  have h3 := @inQ_of (cS σ) p1
  have h4 : ¬ hasQI (cS σ) p1 = 0 → inQ (cS σ) (onwardI (cS σ) p1 1) := fun c => onward_in h.1 (inQ_of c) (j := 1) (by decide)
  unfold vc_X0_yes yesL; grind (splits := 40)
theorem v_X0_no (σ : KC) (p0 p1 p2 : Int32) (h : okC σ) : vc_X0_no σ p0 p1 p2 (fun r => r = noL σ p0 p1 p2) := by
  have h1 := @vinW (cS σ) p0
  have h2 := @inW_of (cS σ) p0
  have h3 := @inQ_of (cS σ) p1
  have h4 : ¬ hasQI (cS σ) p1 = 0 → inQ (cS σ) (onwardI (cS σ) p1 1) := fun c => onward_in h.1 (inQ_of c) (j := 1) (by decide)
  unfold vc_X0_no noL; grind (splits := 40)
theorem v_X0_saying (σ : KC) (p0 p1 p2 p3 : Int32) (h : okC σ) : vc_X0_saying σ p0 p1 p2 p3 (fun r => r = sayingL σ p0 p1 p2 p3) := by
  unfold vc_X0_saying sayingL; grind
theorem v_X0_reply (σ : KC) (p0 p1 p2 p3 : Int32) (h : okC σ) : vc_X0_reply σ p0 p1 p2 p3 (fun r => r = replyI σ p0 p1 p2 p3) := by
  unfold vc_X0_reply replyI; grind
theorem v_X0_keeping (σ : KC) (p0 p1 p2 : Int32) (h : okC σ) : vc_X0_keeping σ p0 p1 p2 (fun r => r = keepingL σ p0 p1 p2) := ⟨h, h, rfl⟩
theorem v_X0_questionsSaid (σ : KC) (p0 p1 p2 : Int32) (h : okC σ) : vc_X0_questionsSaid σ p0 p1 p2 (fun r => r = questionsSaidI σ p0 p1 p2) := by
  obtain ⟨n, hn, en⟩ := okS_nq h.1
  unfold vc_X0_questionsSaid
  intro T hT
  refine upN n (fun j => T (qsaid σ p0 p1 p2 j) (nI j)) ?_ (fun j hj ih => ?_) 0 (Nat.zero_le _)
  · refine hT _ _ ⟨fun _ => by rw [questionsSaidI, en, nI_clamp (by omega)], fun c => absurd (by rw [en]; exact Int32.le_refl _) c⟩
  · refine hT _ _ ⟨fun c => absurd (by rw [← en]; exact c) (nI_ge hj (by omega)), fun _ => ⟨h, ?_⟩⟩
    rw [nI_1]
    simp only [qsaid] at ih
    grind
theorem v_X0_questionsSo (σ : KC) (h : okC σ) : vc_X0_questionsSo σ (fun r => r = questionsSoI σ) := by
  obtain ⟨n, hn, en⟩ := okS_nq h.1
  unfold vc_X0_questionsSo
  intro T hT
  refine upN n (fun j => T (qso σ j) (nI j)) ?_ (fun j hj ih => ?_) 0 (Nat.zero_le _)
  · refine hT _ _ ⟨fun _ => by rw [questionsSoI, en, nI_clamp (by omega)], fun c => absurd (by rw [en]; exact Int32.le_refl _) c⟩
  · refine hT _ _ ⟨fun c => absurd (by rw [← en]; exact c) (nI_ge hj (by omega)), fun _ => ?_⟩
    rw [nI_1]
    simp only [qso] at ih
    grind
theorem v_X0_heardFitting (σ : KC) (p0 : Int32) (h : okC σ) : vc_X0_heardFitting σ p0 (fun r => r = heardFittingL σ p0) := by
  have h1 := @vinP (cS σ) p0
  unfold vc_X0_heardFitting heardFittingL hfit; grind
theorem hasP_nat {x : SS} {n k : Nat} (en : sNh x = nI n) (hn : n ≤ 12) (hk : k < n) : ¬ hasPI x (nI k) = 0 := by
  unfold hasPI
  rw [b2i_ne, en]
  simp only [Bool.and_eq_true, decide_eq_true_eq]
  exact ⟨⟨nI_pos' (by omega), nI_lt hk (by omega)⟩, nI_lt (b := 12) (by omega) (by omega)⟩
theorem v_X0_fitting (σ : KC) (h : okC σ) : vc_X0_fitting σ (fun r => r = fittingL σ) := by
  obtain ⟨n, hn, en⟩ := okS_nh h.1
  unfold vc_X0_fitting
  intro T hT
  refine upN n (fun j => T (fitK σ j) (nI j)) ?_ (fun j hj ih => ?_) 0 (Nat.zero_le _)
  · refine hT _ _ ⟨fun _ => by rw [fittingL, en, nI_clamp (by omega)], fun c => absurd (by rw [en]; exact Int32.le_refl _) c⟩
  · refine hT _ _ ⟨fun c => absurd (by rw [← en]; exact c) (nI_ge hj (by omega)), fun _ => ⟨h, ?_⟩⟩
    rw [nI_1, heardFittingL, if_neg (hasP_nat en hn hj), nI_clamp (by omega)]
    exact ih
theorem v_X0_juryFitting (σ : KC) (h : okC σ) : vc_X0_juryFitting σ (fun r => r = juryFittingL σ) := by
  obtain ⟨n, hn, en⟩ := okS_nh h.1
  obtain ⟨nq, hnq, enq⟩ := okS_nq h.1
  unfold vc_X0_juryFitting
  intro T6 T20 h6 h20
  refine upN n (fun j => T6 (jfitK σ j) (nI j)) ?_ (fun j hj ih => ?_) 0 (Nat.zero_le _)
  · refine h6 _ _ ⟨fun _ => by rw [juryFittingL, en, nI_clamp (by omega)], fun c => absurd (by rw [en]; exact Int32.le_refl _) c⟩
  · refine h6 _ _ ⟨fun c => absurd (by rw [← en]; exact c) (nI_ge hj (by omega)), fun _ => ?_⟩
    refine upN nq (fun q => T20 (jfitK σ j) (nI j) (someK σ j q) (nI q)) ?_ (fun q hq ih2 => ?_) 0 (Nat.zero_le _)
    · refine h20 _ _ _ _ ⟨fun _ => ?_, fun c => absurd (by rw [enq]; exact Int32.le_refl _) c⟩
      rw [nI_1]
      have e : jfitK σ (j + 1) = jfitK σ j &&& someK σ j nq := by rw [jfitK, enq, nI_clamp (by omega)]
      rw [← e]; exact ih
    · refine h20 _ _ _ _ ⟨fun c => absurd (by rw [← enq]; exact c) (nI_ge hq (by omega)), fun _ => ⟨vin (by omega), vin (by omega), vin (by omega), h, ?_⟩⟩
      rw [nI_1, nI_clamp (by omega)]
      exact ih2
theorem v_X0_untruths (σ : KC) (p0 : Int32) (h : okC σ) : vc_X0_untruths σ p0 (fun r => r = untruthsL σ p0) := by
  obtain ⟨n, hn, en⟩ := okS_nh h.1
  unfold vc_X0_untruths
  intro T hT
  refine upN n (fun j => T (untrK σ p0 j) (nI j)) ?_ (fun j hj ih => ?_) 0 (Nat.zero_le _)
  · refine hT _ _ ⟨fun _ => by rw [untruthsL, en, nI_clamp (by omega)], fun c => absurd (by rw [en]; exact Int32.le_refl _) c⟩
  · refine hT _ _ ⟨fun c => absurd (by rw [← en]; exact c) (nI_ge hj (by omega)), fun _ => ⟨vin (by omega), vin (by omega), ?_⟩⟩
    have hv : vp_in (nI j) 12 := vin (by omega)
    rw [nI_1, nI_clamp (by omega)]
    simp only [untrK] at ih
    grind
theorem v_X0_answersOf (σ : KC) (p0 : Int32) (h : okC σ) : vc_X0_answersOf σ p0 (fun r => r = answersOfI (cS σ) p0) := by
  obtain ⟨n, hn, en⟩ := okS_nh h.1
  unfold vc_X0_answersOf
  intro T hT
  refine upN n (fun j => T (ansK (cS σ) p0 j) (nI j)) ?_ (fun j hj ih => ?_) 0 (Nat.zero_le _)
  · refine hT _ _ ⟨fun _ => by rw [answersOfI, en, nI_clamp (by omega)], fun c => absurd (by rw [en]; exact Int32.le_refl _) c⟩
  · refine hT _ _ ⟨fun c => absurd (by rw [← en]; exact c) (nI_ge hj (by omega)), fun _ => ?_⟩
    have hv : vp_in (nI j) 12 := vin (by omega)
    rw [nI_1, nI_clamp (by omega)]
    simp only [ansK] at ih
    grind
