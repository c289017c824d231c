/-! what the statements leave: in range still -/
theorem flip_63 : ∀ f, f < 6 → ∀ m, m < 64 → 0 ≤ (nI m ^^^ ((1 : Int32) <<< (nI f &&& 31))) ∧ (nI m ^^^ ((1 : Int32) <<< (nI f &&& 31))) ≤ 63 := by decide +kernel
theorem fact_nat {f : Int32} (h : ¬ isFactI f = 0) : ∃ k : Nat, k < 6 ∧ f = nI k := vin_nat (isFact_vin h) (by decide)
theorem flip_ok {v f : Int32} (hv : 0 ≤ v ∧ v ≤ 63) (hf : ¬ isFactI f = 0) : 0 ≤ (v ^^^ ((1 : Int32) <<< (f &&& 31))) ∧ (v ^^^ ((1 : Int32) <<< (f &&& 31))) ≤ 63 := by
  obtain ⟨m, hm, rfl⟩ := nI_up (M := 63) (n := 63) (by decide) hv
  obtain ⟨k, hk, rfl⟩ := fact_nat hf
  exact flip_63 k hk m (by omega)
theorem fact_r {f : Int32} (h : ¬ isFactI f = 0) : 0 ≤ f ∧ f ≤ 5 := by
  obtain ⟨k, hk, rfl⟩ := fact_nat h
  exact ⟨nI_pos' (by omega), nI_le (b := 5) (by omega) (by decide)⟩
theorem okS_setCase {x : SS} (hx : okS x) {v : Int32} (hv : 0 ≤ v ∧ v ≤ 63) : okS (sSetCase x v) := ⟨hv, hx.2⟩
theorem okS_setNh {x : SS} (hx : okS x) : okS (sSetNh x 0) := by
  obtain ⟨h1, h2, h3, h4, h5, h6, h7, h8⟩ := hx
  exact ⟨h1, h2, h3, h4, ⟨by show (0 : Int32) ≤ 0; decide, by show (0 : Int32) ≤ 12; decide⟩, h6, h7, fun k hk hk2 => absurd hk (by show ¬ nI k < 0; exact nI_pos (by omega))⟩
theorem okS_addQ {x : SS} (hx : okS x) (hn : sNq x < 8) {f a b : Int32} (hf : 0 ≤ f ∧ f ≤ 4) (ha : 0 ≤ a ∧ a ≤ 5) (hb : 0 ≤ b ∧ b ≤ 5) : okS (addQ x f a b) := by
  obtain ⟨n, hn8, en⟩ := okS_nq hx
  have hlt : n < 8 := by rw [en] at hn; exact (nI_ltI (b := 8) (by omega) (by decide)).mp hn
  obtain ⟨h1, h2, h3, h4, h5, h6, h7, h8⟩ := hx
  have en1 : sNq x + 1 = nI (n + 1) := by rw [en, nI_1]
  refine ⟨h1, h2, ?_, h4, h5, ?_, h7, ?_⟩
  · show 0 ≤ sNq x + 1 ∧ sNq x + 1 ≤ 8
    rw [en1]; exact ⟨nI_pos' (by omega), nI_le (b := 8) (by omega) (by decide)⟩
  · intro k hk hk8
    have hk : nI k < sNq x + 1 := hk
    rw [en1] at hk
    have hkn : k < n + 1 := (nI_ltI (by omega) (by omega)).mp hk
    show (0 ≤ upd (sForm x) _ f k ∧ upd (sForm x) _ f k ≤ 4) ∧ (0 ≤ upd (sFirst x) _ a k ∧ upd (sFirst x) _ a k ≤ 5) ∧ (0 ≤ upd (sSecond x) _ b k ∧ upd (sSecond x) _ b k ≤ 5)
    rw [en, nI_clamp (by omega)]
    by_cases z : k = n
    · subst z; rw [pk_us, pk_us, pk_us]; exact ⟨hf, ha, hb⟩
    · rw [pk_un z, pk_un z, pk_un z]
      exact h6 k (by rw [en]; exact nI_lt (by omega) (by omega)) hk8
  · intro k hk hk2
    obtain ⟨w1, w2, w3, w4⟩ := h8 k hk hk2
    refine ⟨w1, ⟨w2.1, ?_⟩, w3, w4⟩
    show sWhat x k < sNq x + 1
    obtain ⟨j, hj, ej⟩ := nI_of (Int32.not_lt.mpr w2.1)
    have := w2.2
    rw [ej, en] at this
    rw [ej, en1]
    have := (nI_ltI hj (by omega)).mp this
    exact nI_lt (by omega) (by omega)
theorem okS_addW {x : SS} (hx : okS x) (hn : sNw x < 5) {f a b : Int32} (hf : 0 ≤ f ∧ f ≤ 5) (ha : 0 ≤ a ∧ a ≤ 9) (hb : 0 ≤ b ∧ b ≤ 63) : okS (addW x f a b) := by
  obtain ⟨n, hn8, en⟩ := okS_nw hx
  have hlt : n < 5 := by rw [en] at hn; exact (nI_ltI (b := 5) (by omega) (by decide)).mp hn
  obtain ⟨h1, h2, h3, h4, h5, h6, h7, h8⟩ := hx
  have en1 : sNw x + 1 = nI (n + 1) := by rw [en, nI_1]
  refine ⟨h1, h2, h3, ?_, h5, h6, ?_, ?_⟩
  · show 0 ≤ sNw x + 1 ∧ sNw x + 1 ≤ 5
    rw [en1]; exact ⟨nI_pos' (by omega), nI_le (b := 5) (by omega) (by decide)⟩
  · intro k hk hk8
    have hk : nI k < sNw x + 1 := hk
    rw [en1] at hk
    have hkn : k < n + 1 := (nI_ltI (by omega) (by omega)).mp hk
    show (0 ≤ upd (sKind x) _ f k ∧ upd (sKind x) _ f k ≤ 5) ∧ (0 ≤ upd (sFigure x) _ a k ∧ upd (sFigure x) _ a k ≤ 9) ∧ (0 ≤ upd (sKnows x) _ b k ∧ upd (sKnows x) _ b k ≤ 63)
    rw [en, nI_clamp (by omega)]
    by_cases z : k = n
    · subst z; rw [pk_us, pk_us, pk_us]; exact ⟨hf, ha, hb⟩
    · rw [pk_un z, pk_un z, pk_un z]
      exact h7 k (by rw [en]; exact nI_lt (by omega) (by omega)) hk8
  · intro k hk hk2
    obtain ⟨w1, w2, w3, w4⟩ := h8 k hk hk2
    refine ⟨⟨w1.1, ?_⟩, w2, w3, w4⟩
    show sWhom x k < sNw x + 1
    obtain ⟨j, hj, ej⟩ := nI_of (Int32.not_lt.mpr w1.1)
    have := w1.2
    rw [ej, en] at this
    rw [ej, en1]
    have := (nI_ltI hj (by omega)).mp this
    exact nI_lt (by omega) (by omega)
theorem zS_addQ {x : SS} (hx : okS x) (hz : zS x) (hn : sNq x < 8) (f a b : Int32) : zS (addQ x f a b) := by
  obtain ⟨n, hn8, en⟩ := okS_nq hx
  have hlt : n < 8 := by rw [en] at hn; exact (nI_ltI (b := 8) (by omega) (by decide)).mp hn
  refine ⟨fun k hk => ?_, hz.2⟩
  show upd (sForm x) _ f k = 0 ∧ upd (sFirst x) _ a k = 0 ∧ upd (sSecond x) _ b k = 0
  rw [en, nI_clamp (by omega), pk_un (by omega), pk_un (by omega), pk_un (by omega)]
  exact hz.1 k hk
theorem zS_addW {x : SS} (hx : okS x) (hz : zS x) (hn : sNw x < 5) (f a b : Int32) : zS (addW x f a b) := by
  obtain ⟨n, hn8, en⟩ := okS_nw hx
  have hlt : n < 5 := by rw [en] at hn; exact (nI_ltI (b := 5) (by omega) (by decide)).mp hn
  refine ⟨hz.1, fun k hk => ?_, hz.2.2⟩
  show upd (sKind x) _ f k = 0 ∧ upd (sFigure x) _ a k = 0 ∧ upd (sKnows x) _ b k = 0
  rw [en, nI_clamp (by omega), pk_un (by omega), pk_un (by omega), pk_un (by omega)]
  exact hz.2.1 k hk
theorem zS_knows {x : SS} (hx : okS x) (hz : zS x) {w : Int32} (hw : inW x w) (v : Int32) : zS (sSetKnows x (upd (sKnows x) w.toNatClampNeg v)) := by
  obtain ⟨k, n, h1, h2, rfl, en⟩ := inW_nat hx hw
  refine ⟨hz.1, fun j hj => ⟨(hz.2.1 j hj).1, (hz.2.1 j hj).2.1, ?_⟩, hz.2.2⟩
  show upd (sKnows x) _ v j = 0
  rw [nI_clamp (by omega), pk_un (by omega)]
  exact (hz.2.1 j hj).2.2
theorem zS_kf {x : SS} (hx : okS x) (hz : zS x) {w : Int32} (hw : inW x w) (v f : Int32) : zS (sSetKF x (upd (sKind x) w.toNatClampNeg v) (upd (sFigure x) w.toNatClampNeg f)) := by
  obtain ⟨k, n, h1, h2, rfl, en⟩ := inW_nat hx hw
  refine ⟨hz.1, fun j hj => ⟨?_, ?_, (hz.2.1 j hj).2.2⟩, hz.2.2⟩
  · show upd (sKind x) _ v j = 0
    rw [nI_clamp (by omega), pk_un (by omega)]
    exact (hz.2.1 j hj).1
  · show upd (sFigure x) _ f j = 0
    rw [nI_clamp (by omega), pk_un (by omega)]
    exact (hz.2.1 j hj).2.1
theorem okS_kf {x : SS} (hx : okS x) {w v f : Int32} (hv : 0 ≤ v ∧ v ≤ 5) (hf : 0 ≤ f ∧ f ≤ 9) : okS (sSetKF x (upd (sKind x) w.toNatClampNeg v) (upd (sFigure x) w.toNatClampNeg f)) := by
  obtain ⟨h1, h2, h3, h4, h5, h6, h7, h8⟩ := hx
  refine ⟨h1, h2, h3, h4, h5, h6, fun k hk hk5 => ?_, h8⟩
  show (0 ≤ upd (sKind x) _ v k ∧ upd (sKind x) _ v k ≤ 5) ∧ (0 ≤ upd (sFigure x) _ f k ∧ upd (sFigure x) _ f k ≤ 9) ∧ _
  obtain ⟨a1, a2, a3⟩ := h7 k hk hk5
  by_cases e : k = w.toNatClampNeg
  · subst e; rw [pk_us, pk_us]; exact ⟨hv, hf, a3⟩
  · rw [pk_un e, pk_un e]; exact ⟨a1, a2, a3⟩
/-- a statement comes well -/
def goodS (x : SS) : Prop := okS x ∧ zS x ∧ sAsked x ≤ 999
theorem goodS.lt {x : SS} (h : goodS x) : sAsked x < 5000 := Int32.lt_of_le_of_lt h.2.2 (by decide)
theorem goodS.ask {x : SS} (h : goodS x) {w q : Int32} (hw : inW x w) (hq : inQ x q) (ha : ¬ sAsked x = 999) : goodS (askS x w q) := by
  refine ⟨okS_ask h.1 hw hq h.lt, zS_ask h.1 h.2.1 w q, ?_⟩
  show sAsked x + 1 ≤ 999
  obtain ⟨k, hk, e⟩ := le_of_nI (n := 999) h.1.2.1.1 h.2.2 (by decide)
  have : k ≠ 999 := fun z => ha (by rw [e, z]; rfl)
  rw [e, nI_1]
  exact nI_le (b := 999) (by omega) (by decide)
/-- told numbers as a statement needs them -/
def toldR (h a b c : Int32) : Prop := (h = 113 → 0 ≤ a) ∧ (h = 119 → (0 ≤ a ∧ a ≤ 5) ∧ (0 ≤ b ∧ b ≤ 9) ∧ 0 ≤ c)
theorem lt_of_ne {x N : Int32} (h : x ≤ N) (hn : ¬ x = N) : x < N := Int32.lt_of_le_of_ne h hn
theorem comes_good {t : KT} {x : SS} (h : goodS x) (k : Int32) (hr : toldR (tLetter t k.toNatClampNeg) (tTold t (3 * k).toNatClampNeg) (tTold t (3 * k + 1).toNatClampNeg) (tTold t (3 * k + 2).toNatClampNeg)) : goodS (comesI t x k).2 := by
  unfold comesI
  simp only []
  by_cases c1 : tLetter t k.toNatClampNeg = 102
  · rw [if_pos c1]
    by_cases d : isFactI (tTold t (3 * k).toNatClampNeg) = 0
    · rw [if_pos d]; exact h
    · rw [if_neg d]; exact ⟨okS_setCase h.1 (flip_ok h.1.1 d), h.2.1, h.2.2⟩
  · rw [if_neg c1]
    by_cases c2 : tLetter t k.toNatClampNeg = 113
    · rw [if_pos c2]
      by_cases d : cqB t x (3 * k) = true
      · rw [if_pos d]
        unfold cqB at d
        simp only [Bool.and_eq_true, Bool.not_eq_true', decide_eq_false_iff_not] at d
        obtain ⟨⟨⟨d1, d2⟩, d3⟩, d4⟩ := d
        have hn := lt_of_ne h.1.2.2.1.2 d4
        exact ⟨okS_addQ h.1 hn ⟨hr.1 c2, Int32.not_lt.mp d1⟩ (fact_r d2) (fact_r d3), zS_addQ h.1 h.2.1 hn _ _ _, h.2.2⟩
      · rw [if_neg d]; exact h
    · rw [if_neg c2]
      by_cases c3 : tLetter t k.toNatClampNeg = 119
      · rw [if_pos c3]
        by_cases d : cwB t x (3 * k) = true
        · rw [if_pos d]
          unfold cwB at d
          simp only [Bool.and_eq_true, Bool.not_eq_true', decide_eq_false_iff_not] at d
          obtain ⟨d1, d2⟩ := d
          have hn := lt_of_ne h.1.2.2.2.1.2 d2
          obtain ⟨r1, r2, r3⟩ := hr.2 c3
          have r4 : tTold t (3 * k + 2).toNatClampNeg ≤ 63 := by
            have := Int32.not_le.mp d1
            rw [int_lt] at this; rw [int_le]
            have e1 : (64 : Int32).toInt = 64 := by decide
            have e2 : (63 : Int32).toInt = 63 := by decide
            omega
          exact ⟨okS_addW h.1 hn r1 r2 ⟨r3, r4⟩, zS_addW h.1 h.2.1 hn _ _ _, h.2.2⟩
        · rw [if_neg d]; exact h
      · rw [if_neg c3]
        by_cases c4 : tLetter t k.toNatClampNeg = 107
        · rw [if_pos c4]
          by_cases d : isWitnessI x (tTold t (3 * k).toNatClampNeg) = 0 ∨ isFactI (tTold t (3 * k + 1).toNatClampNeg) = 0
          · rw [if_pos d]; exact h
          · rw [if_neg d]
            have hw := isW_in (fun z => d (Or.inl z))
            exact ⟨okS_knows h.1 (flip_ok (okS_w h.1 hw).2.2 (fun z => d (Or.inr z))), zS_knows h.1 h.2.1 hw _, h.2.2⟩
        · rw [if_neg c4]
          by_cases c5 : tLetter t k.toNatClampNeg = 97
          · rw [if_pos c5]
            by_cases d : caB x (tTold t (3 * k).toNatClampNeg) (tTold t (3 * k + 1).toNatClampNeg) = true
            · rw [if_pos d]
              unfold caB at d
              simp only [Bool.and_eq_true, Bool.not_eq_true', decide_eq_false_iff_not] at d
              exact h.ask (isW_in d.1.1) (isQ_in d.1.2) d.2
            · rw [if_neg d]; exact h
          · rw [if_neg c5]
            exact ⟨okS_setNh h.1, h.2.1, h.2.2⟩
