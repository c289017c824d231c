/-! all that is kept: put back it is as it was -/
theorem saveS_n (k : FI) {C : Nat} (hC : C ≤ 184) (x : SS) : saveS k (nI C) x = fun j => if j = C + 91 then sAsked x else if j = C + 90 then sNh x else if j = C + 89 then sNw x else if j = C + 88 then sNq x else if j = C + 87 then sCase x else if C + 75 ≤ j ∧ j < C + 75 + 12 then sWhen x (j - (C + 75)) else if C + 63 ≤ j ∧ j < C + 63 + 12 then sSaid x (j - (C + 63)) else if C + 51 ≤ j ∧ j < C + 51 + 12 then sWhat x (j - (C + 51)) else if C + 39 ≤ j ∧ j < C + 39 + 12 then sWhom x (j - (C + 39)) else if C + 34 ≤ j ∧ j < C + 34 + 5 then sKnows x (j - (C + 34)) else if C + 29 ≤ j ∧ j < C + 29 + 5 then sFigure x (j - (C + 29)) else if C + 24 ≤ j ∧ j < C + 24 + 5 then sKind x (j - (C + 24)) else if C + 16 ≤ j ∧ j < C + 16 + 8 then sSecond x (j - (C + 16)) else if C + 8 ≤ j ∧ j < C + 8 + 8 then sFirst x (j - (C + 8)) else if C ≤ j ∧ j < C + 8 then sForm x (j - C) else k j := by
  have o8 : (nI C + 8).toNatClampNeg = C + 8 := by rw [show (8 : Int32) = nI 8 from rfl, nI_add, nI_clamp (by omega)]
  have o16 : (nI C + 16).toNatClampNeg = C + 16 := by rw [show (16 : Int32) = nI 16 from rfl, nI_add, nI_clamp (by omega)]
  have o24 : (nI C + 24).toNatClampNeg = C + 24 := by rw [show (24 : Int32) = nI 24 from rfl, nI_add, nI_clamp (by omega)]
  have o29 : (nI C + 29).toNatClampNeg = C + 29 := by rw [show (29 : Int32) = nI 29 from rfl, nI_add, nI_clamp (by omega)]
  have o34 : (nI C + 34).toNatClampNeg = C + 34 := by rw [show (34 : Int32) = nI 34 from rfl, nI_add, nI_clamp (by omega)]
  have o39 : (nI C + 39).toNatClampNeg = C + 39 := by rw [show (39 : Int32) = nI 39 from rfl, nI_add, nI_clamp (by omega)]
  have o51 : (nI C + 51).toNatClampNeg = C + 51 := by rw [show (51 : Int32) = nI 51 from rfl, nI_add, nI_clamp (by omega)]
  have o63 : (nI C + 63).toNatClampNeg = C + 63 := by rw [show (63 : Int32) = nI 63 from rfl, nI_add, nI_clamp (by omega)]
  have o75 : (nI C + 75).toNatClampNeg = C + 75 := by rw [show (75 : Int32) = nI 75 from rfl, nI_add, nI_clamp (by omega)]
  have o87 : (nI C + 87).toNatClampNeg = C + 87 := by rw [show (87 : Int32) = nI 87 from rfl, nI_add, nI_clamp (by omega)]
  have o88 : (nI C + 88).toNatClampNeg = C + 88 := by rw [show (88 : Int32) = nI 88 from rfl, nI_add, nI_clamp (by omega)]
  have o89 : (nI C + 89).toNatClampNeg = C + 89 := by rw [show (89 : Int32) = nI 89 from rfl, nI_add, nI_clamp (by omega)]
  have o90 : (nI C + 90).toNatClampNeg = C + 90 := by rw [show (90 : Int32) = nI 90 from rfl, nI_add, nI_clamp (by omega)]
  have o91 : (nI C + 91).toNatClampNeg = C + 91 := by rw [show (91 : Int32) = nI 91 from rfl, nI_add, nI_clamp (by omega)]
  have o0 : (nI C).toNatClampNeg = C := nI_clamp (by omega)
  funext j
  unfold saveS save1 saveA upd
  simp only [o0, o8, o16, o24, o29, o34, o39, o51, o63, o75, o87, o88, o89, o90, o91]
theorem sv_sAsked (k : FI) {C : Nat} (hC : C ≤ 184) (x : SS) : saveS k (nI C) x (C + 91) = sAsked x := by
  rw [saveS_n k hC]
  show (if _ then _ else _) = _
  rw [if_pos rfl]
theorem sv_sNh (k : FI) {C : Nat} (hC : C ≤ 184) (x : SS) : saveS k (nI C) x (C + 90) = sNh x := by
  rw [saveS_n k hC]
  show (if _ then _ else _) = _
  rw [if_neg (by omega), if_pos rfl]
theorem sv_sNw (k : FI) {C : Nat} (hC : C ≤ 184) (x : SS) : saveS k (nI C) x (C + 89) = sNw x := by
  rw [saveS_n k hC]
  show (if _ then _ else _) = _
  rw [if_neg (by omega), if_neg (by omega), if_pos rfl]
theorem sv_sNq (k : FI) {C : Nat} (hC : C ≤ 184) (x : SS) : saveS k (nI C) x (C + 88) = sNq x := by
  rw [saveS_n k hC]
  show (if _ then _ else _) = _
  rw [if_neg (by omega), if_neg (by omega), if_neg (by omega), if_pos rfl]
theorem sv_sCase (k : FI) {C : Nat} (hC : C ≤ 184) (x : SS) : saveS k (nI C) x (C + 87) = sCase x := by
  rw [saveS_n k hC]
  show (if _ then _ else _) = _
  rw [if_neg (by omega), if_neg (by omega), if_neg (by omega), if_neg (by omega), if_pos rfl]
theorem sv_sWhen (k : FI) {C : Nat} (hC : C ≤ 184) (x : SS) {i : Nat} (hi : i < 12) : saveS k (nI C) x (C + 75 + i) = sWhen x i := by
  rw [saveS_n k hC]
  show (if _ then _ else _) = _
  rw [if_neg (by omega), if_neg (by omega), if_neg (by omega), if_neg (by omega), if_neg (by omega), if_pos ⟨by omega, by omega⟩, show C + 75 + i - (C + 75) = i by omega]
theorem sv_sSaid (k : FI) {C : Nat} (hC : C ≤ 184) (x : SS) {i : Nat} (hi : i < 12) : saveS k (nI C) x (C + 63 + i) = sSaid x i := by
  rw [saveS_n k hC]
  show (if _ then _ else _) = _
  rw [if_neg (by omega), if_neg (by omega), if_neg (by omega), if_neg (by omega), if_neg (by omega), if_neg (by omega), if_pos ⟨by omega, by omega⟩, show C + 63 + i - (C + 63) = i by omega]
theorem sv_sWhat (k : FI) {C : Nat} (hC : C ≤ 184) (x : SS) {i : Nat} (hi : i < 12) : saveS k (nI C) x (C + 51 + i) = sWhat x i := by
  rw [saveS_n k hC]
  show (if _ then _ else _) = _
  rw [if_neg (by omega), if_neg (by omega), if_neg (by omega), if_neg (by omega), if_neg (by omega), if_neg (by omega), if_neg (by omega), if_pos ⟨by omega, by omega⟩, show C + 51 + i - (C + 51) = i by omega]
theorem sv_sWhom (k : FI) {C : Nat} (hC : C ≤ 184) (x : SS) {i : Nat} (hi : i < 12) : saveS k (nI C) x (C + 39 + i) = sWhom x i := by
  rw [saveS_n k hC]
  show (if _ then _ else _) = _
  rw [if_neg (by omega), if_neg (by omega), if_neg (by omega), if_neg (by omega), if_neg (by omega), if_neg (by omega), if_neg (by omega), if_neg (by omega), if_pos ⟨by omega, by omega⟩, show C + 39 + i - (C + 39) = i by omega]
theorem sv_sKnows (k : FI) {C : Nat} (hC : C ≤ 184) (x : SS) {i : Nat} (hi : i < 5) : saveS k (nI C) x (C + 34 + i) = sKnows x i := by
  rw [saveS_n k hC]
  show (if _ then _ else _) = _
  rw [if_neg (by omega), if_neg (by omega), if_neg (by omega), if_neg (by omega), if_neg (by omega), if_neg (by omega), if_neg (by omega), if_neg (by omega), if_neg (by omega), if_pos ⟨by omega, by omega⟩, show C + 34 + i - (C + 34) = i by omega]
theorem sv_sFigure (k : FI) {C : Nat} (hC : C ≤ 184) (x : SS) {i : Nat} (hi : i < 5) : saveS k (nI C) x (C + 29 + i) = sFigure x i := by
  rw [saveS_n k hC]
  show (if _ then _ else _) = _
  rw [if_neg (by omega), if_neg (by omega), if_neg (by omega), if_neg (by omega), if_neg (by omega), if_neg (by omega), if_neg (by omega), if_neg (by omega), if_neg (by omega), if_neg (by omega), if_pos ⟨by omega, by omega⟩, show C + 29 + i - (C + 29) = i by omega]
theorem sv_sKind (k : FI) {C : Nat} (hC : C ≤ 184) (x : SS) {i : Nat} (hi : i < 5) : saveS k (nI C) x (C + 24 + i) = sKind x i := by
  rw [saveS_n k hC]
  show (if _ then _ else _) = _
  rw [if_neg (by omega), if_neg (by omega), if_neg (by omega), if_neg (by omega), if_neg (by omega), if_neg (by omega), if_neg (by omega), if_neg (by omega), if_neg (by omega), if_neg (by omega), if_neg (by omega), if_pos ⟨by omega, by omega⟩, show C + 24 + i - (C + 24) = i by omega]
theorem sv_sSecond (k : FI) {C : Nat} (hC : C ≤ 184) (x : SS) {i : Nat} (hi : i < 8) : saveS k (nI C) x (C + 16 + i) = sSecond x i := by
  rw [saveS_n k hC]
  show (if _ then _ else _) = _
  rw [if_neg (by omega), if_neg (by omega), if_neg (by omega), if_neg (by omega), if_neg (by omega), if_neg (by omega), if_neg (by omega), if_neg (by omega), if_neg (by omega), if_neg (by omega), if_neg (by omega), if_neg (by omega), if_pos ⟨by omega, by omega⟩, show C + 16 + i - (C + 16) = i by omega]
theorem sv_sFirst (k : FI) {C : Nat} (hC : C ≤ 184) (x : SS) {i : Nat} (hi : i < 8) : saveS k (nI C) x (C + 8 + i) = sFirst x i := by
  rw [saveS_n k hC]
  show (if _ then _ else _) = _
  rw [if_neg (by omega), if_neg (by omega), if_neg (by omega), if_neg (by omega), if_neg (by omega), if_neg (by omega), if_neg (by omega), if_neg (by omega), if_neg (by omega), if_neg (by omega), if_neg (by omega), if_neg (by omega), if_neg (by omega), if_pos ⟨by omega, by omega⟩, show C + 8 + i - (C + 8) = i by omega]
theorem sv_sForm (k : FI) {C : Nat} (hC : C ≤ 184) (x : SS) {i : Nat} (hi : i < 8) : saveS k (nI C) x (C + i) = sForm x i := by
  rw [saveS_n k hC]
  show (if _ then _ else _) = _
  rw [if_neg (by omega), if_neg (by omega), if_neg (by omega), if_neg (by omega), if_neg (by omega), if_neg (by omega), if_neg (by omega), if_neg (by omega), if_neg (by omega), if_neg (by omega), if_neg (by omega), if_neg (by omega), if_neg (by omega), if_neg (by omega), if_pos ⟨by omega, by omega⟩, show C + i - C = i by omega]
theorem ld_row {K f g : FI} {c : Int32} {n P : Nat} (hc : c.toNatClampNeg = P) (h : ∀ i, i < n → K (P + i) = g i) (hf : ∀ i, n ≤ i → f i = 0) (hg : ∀ i, n ≤ i → g i = 0) : loadA K c n f = g := by
  funext i
  unfold loadA tab
  by_cases k : i < n
  · rw [if_pos k, hc]; exact h i k
  · rw [if_neg k, hf i (by omega), hg i (by omega)]
theorem load_save (k : FI) {C : Nat} (hC : C ≤ 184) {x y : SS} (hx : zS x) (hy : zS y) : loadS (saveS k (nI C) x) (nI C) y = x := by
  have o8 : (nI C + 8).toNatClampNeg = C + 8 := by rw [show (8 : Int32) = nI 8 from rfl, nI_add, nI_clamp (by omega)]
  have o16 : (nI C + 16).toNatClampNeg = C + 16 := by rw [show (16 : Int32) = nI 16 from rfl, nI_add, nI_clamp (by omega)]
  have o24 : (nI C + 24).toNatClampNeg = C + 24 := by rw [show (24 : Int32) = nI 24 from rfl, nI_add, nI_clamp (by omega)]
  have o29 : (nI C + 29).toNatClampNeg = C + 29 := by rw [show (29 : Int32) = nI 29 from rfl, nI_add, nI_clamp (by omega)]
  have o34 : (nI C + 34).toNatClampNeg = C + 34 := by rw [show (34 : Int32) = nI 34 from rfl, nI_add, nI_clamp (by omega)]
  have o39 : (nI C + 39).toNatClampNeg = C + 39 := by rw [show (39 : Int32) = nI 39 from rfl, nI_add, nI_clamp (by omega)]
  have o51 : (nI C + 51).toNatClampNeg = C + 51 := by rw [show (51 : Int32) = nI 51 from rfl, nI_add, nI_clamp (by omega)]
  have o63 : (nI C + 63).toNatClampNeg = C + 63 := by rw [show (63 : Int32) = nI 63 from rfl, nI_add, nI_clamp (by omega)]
  have o75 : (nI C + 75).toNatClampNeg = C + 75 := by rw [show (75 : Int32) = nI 75 from rfl, nI_add, nI_clamp (by omega)]
  have o87 : (nI C + 87).toNatClampNeg = C + 87 := by rw [show (87 : Int32) = nI 87 from rfl, nI_add, nI_clamp (by omega)]
  have o88 : (nI C + 88).toNatClampNeg = C + 88 := by rw [show (88 : Int32) = nI 88 from rfl, nI_add, nI_clamp (by omega)]
  have o89 : (nI C + 89).toNatClampNeg = C + 89 := by rw [show (89 : Int32) = nI 89 from rfl, nI_add, nI_clamp (by omega)]
  have o90 : (nI C + 90).toNatClampNeg = C + 90 := by rw [show (90 : Int32) = nI 90 from rfl, nI_add, nI_clamp (by omega)]
  have o91 : (nI C + 91).toNatClampNeg = C + 91 := by rw [show (91 : Int32) = nI 91 from rfl, nI_add, nI_clamp (by omega)]
  have o0 : (nI C).toNatClampNeg = C := nI_clamp (by omega)
  have r_sForm : loadA (saveS k (nI C) x) (nI C) 8 (sForm y) = sForm x := ld_row o0 (fun i hi => sv_sForm k hC x hi) (fun i hi => (hy.1 i hi).1) (fun i hi => (hx.1 i hi).1)
  have r_sFirst : loadA (saveS k (nI C) x) (nI C + 8) 8 (sFirst y) = sFirst x := ld_row o8 (fun i hi => sv_sFirst k hC x hi) (fun i hi => (hy.1 i hi).2.1) (fun i hi => (hx.1 i hi).2.1)
  have r_sSecond : loadA (saveS k (nI C) x) (nI C + 16) 8 (sSecond y) = sSecond x := ld_row o16 (fun i hi => sv_sSecond k hC x hi) (fun i hi => (hy.1 i hi).2.2) (fun i hi => (hx.1 i hi).2.2)
  have r_sKind : loadA (saveS k (nI C) x) (nI C + 24) 5 (sKind y) = sKind x := ld_row o24 (fun i hi => sv_sKind k hC x hi) (fun i hi => (hy.2.1 i hi).1) (fun i hi => (hx.2.1 i hi).1)
  have r_sFigure : loadA (saveS k (nI C) x) (nI C + 29) 5 (sFigure y) = sFigure x := ld_row o29 (fun i hi => sv_sFigure k hC x hi) (fun i hi => (hy.2.1 i hi).2.1) (fun i hi => (hx.2.1 i hi).2.1)
  have r_sKnows : loadA (saveS k (nI C) x) (nI C + 34) 5 (sKnows y) = sKnows x := ld_row o34 (fun i hi => sv_sKnows k hC x hi) (fun i hi => (hy.2.1 i hi).2.2) (fun i hi => (hx.2.1 i hi).2.2)
  have r_sWhom : loadA (saveS k (nI C) x) (nI C + 39) 12 (sWhom y) = sWhom x := ld_row o39 (fun i hi => sv_sWhom k hC x hi) (fun i hi => (hy.2.2 i hi).1) (fun i hi => (hx.2.2 i hi).1)
  have r_sWhat : loadA (saveS k (nI C) x) (nI C + 51) 12 (sWhat y) = sWhat x := ld_row o51 (fun i hi => sv_sWhat k hC x hi) (fun i hi => (hy.2.2 i hi).2.1) (fun i hi => (hx.2.2 i hi).2.1)
  have r_sSaid : loadA (saveS k (nI C) x) (nI C + 63) 12 (sSaid y) = sSaid x := ld_row o63 (fun i hi => sv_sSaid k hC x hi) (fun i hi => (hy.2.2 i hi).2.2.1) (fun i hi => (hx.2.2 i hi).2.2.1)
  have r_sWhen : loadA (saveS k (nI C) x) (nI C + 75) 12 (sWhen y) = sWhen x := ld_row o75 (fun i hi => sv_sWhen k hC x hi) (fun i hi => (hy.2.2 i hi).2.2.2) (fun i hi => (hx.2.2 i hi).2.2.2)
  have q_sCase : saveS k (nI C) x (nI C + 87).toNatClampNeg = sCase x := by rw [o87]; exact sv_sCase k hC x
  have q_sNq : saveS k (nI C) x (nI C + 88).toNatClampNeg = sNq x := by rw [o88]; exact sv_sNq k hC x
  have q_sNw : saveS k (nI C) x (nI C + 89).toNatClampNeg = sNw x := by rw [o89]; exact sv_sNw k hC x
  have q_sNh : saveS k (nI C) x (nI C + 90).toNatClampNeg = sNh x := by rw [o90]; exact sv_sNh k hC x
  have q_sAsked : saveS k (nI C) x (nI C + 91).toNatClampNeg = sAsked x := by rw [o91]; exact sv_sAsked k hC x
  unfold loadS
  rw [r_sForm, r_sFirst, r_sSecond, r_sKind, r_sFigure, r_sKnows, r_sWhom, r_sWhat, r_sSaid, r_sWhen, q_sCase, q_sNq, q_sNw, q_sNh, q_sAsked]
theorem mix_self (k : FI) : mixK k k = k := by
  funext j; unfold mixK; by_cases h : j < 92
  · rw [if_pos h]
  · rw [if_neg h]
theorem mix_save {k kk : FI} (h : mixK k kk = kk) {C : Nat} (hC : C ≤ 184) (h92 : 92 ≤ C) (x : SS) : mixK k (saveS kk (nI C) x) = saveS kk (nI C) x := by
  funext j
  unfold mixK
  by_cases c : j < 92
  · rw [if_pos c, saveS_n kk hC]
    show _ = (if _ then _ else _)
    rw [if_neg (by omega), if_neg (by omega), if_neg (by omega), if_neg (by omega), if_neg (by omega), if_neg (by omega), if_neg (by omega), if_neg (by omega), if_neg (by omega), if_neg (by omega), if_neg (by omega), if_neg (by omega), if_neg (by omega), if_neg (by omega), if_neg (by omega)]
    have := congrFun h j
    unfold mixK at this
    rw [if_pos c] at this
    exact this
  · rw [if_neg c]
/-- what lies ahead of place 92 is all that the image needs -/
theorem load_mix (k f : FI) (y : SS) : loadS (mixK k f) 0 y = loadS k 0 y := by
  have h : ∀ j, j < 92 → mixK k f j = k j := fun j hj => if_pos hj
  have o8 : ((0 : Int32) + 8).toNatClampNeg = 8 := by decide
  have o16 : ((0 : Int32) + 16).toNatClampNeg = 16 := by decide
  have o24 : ((0 : Int32) + 24).toNatClampNeg = 24 := by decide
  have o29 : ((0 : Int32) + 29).toNatClampNeg = 29 := by decide
  have o34 : ((0 : Int32) + 34).toNatClampNeg = 34 := by decide
  have o39 : ((0 : Int32) + 39).toNatClampNeg = 39 := by decide
  have o51 : ((0 : Int32) + 51).toNatClampNeg = 51 := by decide
  have o63 : ((0 : Int32) + 63).toNatClampNeg = 63 := by decide
  have o75 : ((0 : Int32) + 75).toNatClampNeg = 75 := by decide
  have o87 : ((0 : Int32) + 87).toNatClampNeg = 87 := by decide
  have o88 : ((0 : Int32) + 88).toNatClampNeg = 88 := by decide
  have o89 : ((0 : Int32) + 89).toNatClampNeg = 89 := by decide
  have o90 : ((0 : Int32) + 90).toNatClampNeg = 90 := by decide
  have o91 : ((0 : Int32) + 91).toNatClampNeg = 91 := by decide
  have o0 : (0 : Int32).toNatClampNeg = 0 := by decide
  have hl : ∀ (c : Int32) (n P : Nat) (g : FI), c.toNatClampNeg = P → P + n ≤ 92 → loadA (mixK k f) c n g = loadA k c n g := by
    intro c n P g hc hn
    funext i
    unfold loadA tab
    by_cases q : i < n
    · rw [if_pos q, if_pos q, hc]; exact h _ (by omega)
    · rw [if_neg q, if_neg q]
  unfold loadS
  rw [hl _ 8 0 _ o0 (by decide), hl _ 8 8 _ o8 (by decide), hl _ 8 16 _ o16 (by decide), hl _ 5 24 _ o24 (by decide), hl _ 5 29 _ o29 (by decide), hl _ 5 34 _ o34 (by decide), hl _ 12 39 _ o39 (by decide), hl _ 12 51 _ o51 (by decide), hl _ 12 63 _ o63 (by decide), hl _ 12 75 _ o75 (by decide), o87, o88, o89, o90, o91, h 87 (by decide), h 88 (by decide), h 89 (by decide), h 90 (by decide), h 91 (by decide)]
