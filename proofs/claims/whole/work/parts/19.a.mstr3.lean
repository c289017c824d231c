set_option maxHeartbeats 4000000 in
set_option maxRecDepth 100000 in
theorem m_X1_sign (l : Launch)  (g : CX) (ad : Nat → Nat) (o : Nat) (σ : KZ) (p0 : Int32) (Post : Int32 → Prop) (hv : vc_X1_sign σ p0 Post) : Met l yX1_sign wsX1_sign { frames := 0, cells := 0, slots := 0, locals := 0 } (va_Pc [.ref (ad o), .int p0] (RO g (wZ g ad o σ))) (va_Qi (fun r (_ : Unit) => Post r) (fun _ _ => True) A0) 0 0 A0 := by
  unfold vc_X1_sign at hv
  refine Met.ofW (cc := cX1_sign) (maxL := 2) (ret := (some .char)) (by decide) rfl ?_
  intro p e s m args below meth c s₁ B hml hv0
  obtain ⟨rfl, hP, hK, hE⟩ := hv0
  have hx := B.exec
  have hb := B.bytes
  have hr := B.returns
  have hts := atoms_spec (ws := wsX1_sign) B.pre
  have hown : s.vm.findClass RX1 = some m.cls := findClass_of_methodNamed B.named
  have hlocks := B.notSynchronized
  have hi1 : ∀ w ∈ wsX10, w ∈ wsX1_sign := by decide +kernel
  have k0 := hts (.fieldLink RX1 15 "JuryHearsAnswers$Script" "length" "I") (by decide +kernel)
  have k1 := hts (.fieldLink RX1 9 "JuryHearsAnswers$Script" "text" "[C") (by decide +kernel)
  have hS : va_S A0 s.heap s.heap [] := va_S.rf
  have hP : va_P (gD g) vwCl (wZ g ad o σ) s.heap := hP
  have hl := lv_entry ([.ref (ad o), .int p0]) (n := 2) (Nat.le_of_ble_eq_true rfl)
  rw [lg_entry_eq]
  generalize (lg_sl ([.ref (ad o), .int p0]) ++ List.replicate (2 - (lg_sl ([.ref (ad o), .int p0])).length) Slot.unset).toArray = ls at hl ⊢
  have hl : lv_has ls 2 [(0, .ref (ad o)), (1, .int p0)] := hl
  obtain ⟨H, hH⟩ : ∃ z, z = s.heap := ⟨_, rfl⟩
  obtain ⟨locs, hL⟩ : ∃ z : List Loc, z = [] := ⟨_, rfl⟩
  rw [← hL] at hS ⊢
  have hS : va_S A0 s.heap H locs := by rw [hH]; exact hS
  rw [← hH] at hP ⊢
  clear hH hL
  refine lv_iload_n hx hb dX1_sign_0 rfl (lv_at hl 1 rfl) ?_
  refine lv_if_lt (tgt := 27) hx hb dX1_sign_1 (by decide) (fun c1 => ?_) (fun c1 => ?_)
  · have hv := hv.1 c1
    refine lv_iconst (v := 0) hx hb dX1_sign_27 (by decide) ?_
    exact W.zret (v := 0) hx hb hr rfl (fun t ht hW => ⟨⟨0, (), rfl, hv, trivial⟩, hS.F ht⟩) hS.2.2 dX1_sign_28
  · have hv := hv.2 c1
    refine lv_iload_n hx hb dX1_sign_4 rfl (lv_at hl 1 rfl) ?_
    refine lv_aload_n hx hb dX1_sign_5 rfl (lv_at hl 0 rfl) ?_
    refine va_get (D := gD g) (ci := 1) (v := .int (zLen σ)) (C := RX1) (T := TX1) (N := 2) hx hb hts hi1 hown hK hP 0 rfl rfl 0 (by decide) k0 (fun _ h9 => h9) rfl dX1_sign_6 ?_
    refine lv_icmp_ge (tgt := 27) hx hb dX1_sign_9 (by decide) (fun c9 => ?_) (fun c9 => ?_)
    · have hv := hv.1 c9
      refine lv_iconst (v := 0) hx hb dX1_sign_27 (by decide) ?_
      exact W.zret (v := 0) hx hb hr rfl (fun t ht hW => ⟨⟨0, (), rfl, hv, trivial⟩, hS.F ht⟩) hS.2.2 dX1_sign_28
    · have hv := hv.2 c9
      refine lv_iload_n hx hb dX1_sign_12 rfl (lv_at hl 1 rfl) ?_
      refine lv_bipush (v := 96) hx hb dX1_sign_13 (by decide) ?_
      refine lv_icmp_ge (tgt := 27) hx hb dX1_sign_15 (by decide) (fun c15 => ?_) (fun c15 => ?_)
      · have hv := hv.1 c15
        refine lv_iconst (v := 0) hx hb dX1_sign_27 (by decide) ?_
        exact W.zret (v := 0) hx hb hr rfl (fun t ht hW => ⟨⟨0, (), rfl, hv, trivial⟩, hS.F ht⟩) hS.2.2 dX1_sign_28
      · have hv := hv.2 c15
        refine lv_aload_n hx hb dX1_sign_18 rfl (lv_at hl 0 rfl) ?_
        refine va_get (D := gD g) (ci := 1) (v := .ref (ad (o + 1))) (C := RX1) (T := TX1) (N := 2) hx hb hts hi1 hown hK hP 0 rfl rfl 1 (by decide) k1 (fun _ h9 => h9) rfl dX1_sign_19 ?_
        refine lv_iload_n hx hb dX1_sign_22 rfl (lv_at hl 1 rfl) ?_
        have h9 := hv.1
        have hv := hv.2
        refine va_cald (f := (zText σ)) (n := 96) hx hb hK hP 1 2 rfl rfl h9 dX1_sign_23 ?_
        refine lv_goto (tgt := 28) hx hb dX1_sign_24 (by decide) ?_
        have hn := hv.1
        have hv := hv.2
        exact W.zret (v := ((zText σ) (p0).toNatClampNeg)) hx hb hr hn (fun t ht hW => ⟨⟨((zText σ) (p0).toNatClampNeg), (), rfl, hv, trivial⟩, hS.F ht⟩) hS.2.2 dX1_sign_28

set_option maxHeartbeats 4000000 in
set_option maxRecDepth 100000 in
theorem m_X1_digit (l : Launch) (h_X1_sign : C_X1_sign l) (g : CX) (ad : Nat → Nat) (o : Nat) (σ : KZ) (p0 : Int32) (Post : Int32 → Prop) (hv : vc_X1_digit σ p0 Post) : Met l yX1_digit wsX1_digit { frames := 1, cells := 0, slots := 0, locals := 21 } (va_Pc [.ref (ad o), .int p0] (RO g (wZ g ad o σ))) (va_Qi (fun r (_ : Unit) => Post r) (fun _ _ => True) A0) 0 0 A0 := by
  unfold vc_X1_digit at hv
  refine Met.ofW (cc := cX1_digit) (maxL := 2) (ret := (some .int)) (by decide) rfl ?_
  intro p e s m args below meth c s₁ B hml hv0
  obtain ⟨rfl, hP, hK, hE⟩ := hv0
  have hx := B.exec
  have hb := B.bytes
  have hr := B.returns
  have hts := atoms_spec (ws := wsX1_digit) B.pre
  have hown : s.vm.findClass RX1 = some m.cls := findClass_of_methodNamed B.named
  have hlocks := B.notSynchronized
  have hS : va_S A0 s.heap s.heap [] := va_S.rf
  have hP : va_P (gD g) vwCl (wZ g ad o σ) s.heap := hP
  have hl := lv_entry ([.ref (ad o), .int p0]) (n := 2) (Nat.le_of_ble_eq_true rfl)
  rw [lg_entry_eq]
  generalize (lg_sl ([.ref (ad o), .int p0]) ++ List.replicate (2 - (lg_sl ([.ref (ad o), .int p0])).length) Slot.unset).toArray = ls at hl ⊢
  have hl : lv_has ls 2 [(0, .ref (ad o)), (1, .int p0)] := hl
  obtain ⟨H, hH⟩ : ∃ z, z = s.heap := ⟨_, rfl⟩
  obtain ⟨locs, hL⟩ : ∃ z : List Loc, z = [] := ⟨_, rfl⟩
  rw [← hL] at hS ⊢
  have hS : va_S A0 s.heap H locs := by rw [hH]; exact hS
  rw [← hH] at hP ⊢
  clear hH hL
  refine lv_aload_n hx hb dX1_digit_0 rfl (lv_at hl 0 rfl) ?_
  refine lv_iload_n hx hb dX1_digit_1 rfl (lv_at hl 1 rfl) ?_
  have h8 := hv.1
  have hv := hv.2
  have hPc := hP
  refine ro_int (va_runV (As := [.int p0]) (rest := []) ⟨hx, hb, hml, hown, hts⟩ (h_X1_sign g ad o σ p0 h8) (cwV 1 hts gX1_digit_X1_sign rfl rfl rfl (by decide +kernel) ⟨Nat.le_of_ble_eq_true rfl, Nat.le_of_ble_eq_true rfl⟩) ⟨RO_blind, va_recv hK hP (ci := 1) (q0 := 0) rfl rfl, fun U hU hW => ⟨rfl, by rw [hU]; exact hPc, va_K.moved hW.alike hK, hE.call hW hU hS (fun _ h => h.elim)⟩⟩ rfl rfl hl.1 rfl (lv_room (Nat.le_of_ble_eq_true rfl)) dX1_digit_2 ⟨Nat.le_of_ble_eq_true rfl, Nat.le_of_ble_eq_true rfl⟩) hS hP (fun r H locs hw hP hS => ?_)
  subst r
  refine lv_bipush (v := 48) hx hb dX1_digit_5 (by decide) ?_
  refine lv_isub hx hb dX1_digit_7 ?_
  exact W.iret (v := ((signI σ p0) - 48)) hx hb hr (fun t ht hW => ⟨⟨((signI σ p0) - 48), (), rfl, hv, trivial⟩, hS.F ht⟩) hS.2.2 dX1_digit_8

set_option maxHeartbeats 4000000 in
set_option maxRecDepth 100000 in
theorem m_X1_statementLength (l : Launch) (h_J0_length_8abf5 : C_J0_length_8abf5 l) (h_X1_shape : C_X1_shape l) (h_X1_sign : C_X1_sign l) (g : CX) (ad : Nat → Nat) (o : Nat) (σ : KZ) (p0 : Int32) (Post : Int32 → Prop) (hv : vc_X1_statementLength σ p0 Post) : Met l yX1_statementLength wsX1_statementLength { frames := 2, cells := 0, slots := 0, locals := 40 } (va_Pc [.ref (ad o), .int p0] (RO g (wZ g ad o σ))) (va_Qi (fun r (_ : Unit) => Post r) (fun _ _ => True) A0) 0 0 A0 := by
  unfold vc_X1_statementLength at hv
  refine Met.ofW (cc := cX1_statementLength) (maxL := 2) (ret := (some .int)) (by decide) rfl ?_
  intro p e s m args below meth c s₁ B hml hv0
  obtain ⟨rfl, hP, hK, hE⟩ := hv0
  have hx := B.exec
  have hb := B.bytes
  have hr := B.returns
  have hts := atoms_spec (ws := wsX1_statementLength) B.pre
  have hown : s.vm.findClass RX1 = some m.cls := findClass_of_methodNamed B.named
  have hlocks := B.notSynchronized
  have hS : va_S A0 s.heap s.heap [] := va_S.rf
  have hP : va_P (gD g) vwCl (wZ g ad o σ) s.heap := hP
  have hl := lv_entry ([.ref (ad o), .int p0]) (n := 2) (Nat.le_of_ble_eq_true rfl)
  rw [lg_entry_eq]
  generalize (lg_sl ([.ref (ad o), .int p0]) ++ List.replicate (2 - (lg_sl ([.ref (ad o), .int p0])).length) Slot.unset).toArray = ls at hl ⊢
  have hl : lv_has ls 2 [(0, .ref (ad o)), (1, .int p0)] := hl
  obtain ⟨H, hH⟩ : ∃ z, z = s.heap := ⟨_, rfl⟩
  obtain ⟨locs, hL⟩ : ∃ z : List Loc, z = [] := ⟨_, rfl⟩
  rw [← hL] at hS ⊢
  have hS : va_S A0 s.heap H locs := by rw [hH]; exact hS
  rw [← hH] at hP ⊢
  clear hH hL
  refine lv_iconst (v := 1) hx hb dX1_statementLength_0 (by decide) ?_
  refine lv_aload_n hx hb dX1_statementLength_1 rfl (lv_at hl 0 rfl) ?_
  refine lv_iload_n hx hb dX1_statementLength_2 rfl (lv_at hl 1 rfl) ?_
  have h8 := hv.1
  have hv := hv.2
  have hPc := hP
  refine ro_int (va_runV (As := [.int p0]) (rest := [.int 1]) ⟨hx, hb, hml, hown, hts⟩ (h_X1_sign g ad o σ p0 h8) (cwV 1 hts gX1_statementLength_X1_sign rfl rfl rfl (by decide +kernel) ⟨Nat.le_of_ble_eq_true rfl, Nat.le_of_ble_eq_true rfl⟩) ⟨RO_blind, va_recv hK hP (ci := 1) (q0 := 0) rfl rfl, fun U hU hW => ⟨rfl, by rw [hU]; exact hPc, va_K.moved hW.alike hK, hE.call hW hU hS (fun _ h => h.elim)⟩⟩ rfl rfl hl.1 rfl (lv_room (Nat.le_of_ble_eq_true rfl)) dX1_statementLength_3 ⟨Nat.le_of_ble_eq_true rfl, Nat.le_of_ble_eq_true rfl⟩) hS hP (fun r H locs hw hP hS => ?_)
  subst r
  have hPc : va_P (gD g) vwCl [] H := fun k q h => by simp at h
  refine ro_str (va_runS (As := [.int (signI σ p0)]) (rest := [.int 1]) ⟨hx, hb, hml, hown, hts⟩ (h_X1_shape g (signI σ p0)) (va_cwS 1 hts gX1_statementLength_X1_shape rfl rfl rfl (by decide +kernel) ⟨Nat.le_of_ble_eq_true rfl, Nat.le_of_ble_eq_true rfl⟩) ⟨RO_blind, fun U hU hW => ⟨rfl, by rw [hU]; exact hPc, va_K.moved hW.alike hK, hE.call hW hU hS (fun _ h => h.elim)⟩⟩ rfl rfl hl.1 rfl (lv_room (Nat.le_of_ble_eq_true rfl)) dX1_statementLength_6 ⟨Nat.le_of_ble_eq_true rfl, Nat.le_of_ble_eq_true rfl⟩) hS hP (fun r H locs hw hP hS => ?_)
  subst r
  have h8 := hv.1
  have hv := hv.2
  have hPc : va_P (gD g) vwCl [] H := fun k q h => by simp at h
  have hi := hv.1
  have hv := hv.2
  refine ro_int (va_runV (As := []) (rest := [.int 1]) ⟨hx, hb, hml, hown, hts⟩ (h_J0_length_8abf5 g (shapeN (signI σ p0)) h8) (cwV 0 hts gX1_statementLength_J0_length_8abf5 rfl rfl rfl (by decide +kernel) ⟨Nat.le_of_ble_eq_true rfl, Nat.le_of_ble_eq_true rfl⟩) ⟨RO_blind, vk_recv hE.2.2.1.1 hi hS, fun U hU hW => ⟨rfl, by rw [hU]; exact hPc, va_K.moved hW.alike hK, hE.call hW hU hS (fun _ h => h.elim)⟩⟩ rfl rfl hl.1 rfl (lv_room (Nat.le_of_ble_eq_true rfl)) dX1_statementLength_9 ⟨Nat.le_of_ble_eq_true rfl, Nat.le_of_ble_eq_true rfl⟩) hS hP (fun r H locs hw hP hS => ?_)
  subst r
  refine lv_iadd hx hb dX1_statementLength_12 ?_
  exact W.iret (v := (1 + (lenI (shapeN (signI σ p0))))) hx hb hr (fun t ht hW => ⟨⟨(1 + (lenI (shapeN (signI σ p0)))), (), rfl, hv, trivial⟩, hS.F ht⟩) hS.2.2 dX1_statementLength_13

set_option maxHeartbeats 4000000 in
set_option maxRecDepth 100000 in
theorem m_X1_brokenPlace (l : Launch) (h_J0_charAt_5068e : C_J0_charAt_5068e l) (h_J0_isEmpty_aae02 : C_J0_isEmpty_aae02 l) (h_J0_length_8abf5 : C_J0_length_8abf5 l) (h_X1_isOfShape : C_X1_isOfShape l) (h_X1_shape : C_X1_shape l) (g : CX) (ad : Nat → Nat) (o : Nat) (σ : KZ)  (Post : Int32 → Prop) (hv : vc_X1_brokenPlace σ Post) : Met l yX1_brokenPlace wsX1_brokenPlace { frames := 5, cells := 0, slots := 0, locals := 127 } (va_Pc [.ref (ad o)] (RO g (wZ g ad o σ))) (va_Qi (fun r (_ : Unit) => Post r) (fun _ _ => True) A0) 0 0 A0 := by
  unfold vc_X1_brokenPlace at hv
  refine Met.ofW (cc := cX1_brokenPlace) (maxL := 4) (ret := (some .int)) (by decide) rfl ?_
  intro p e s m args below meth c s₁ B hml hv0
  obtain ⟨rfl, hP, hK, hE⟩ := hv0
  have hx := B.exec
  have hb := B.bytes
  have hr := B.returns
  have hts := atoms_spec (ws := wsX1_brokenPlace) B.pre
  have hown : s.vm.findClass RX1 = some m.cls := findClass_of_methodNamed B.named
  have hlocks := B.notSynchronized
  have hi1 : ∀ w ∈ wsX10, w ∈ wsX1_brokenPlace := by decide +kernel
  have k0 := hts (.fieldLink RX1 15 "JuryHearsAnswers$Script" "length" "I") (by decide +kernel)
  have k1 := hts (.fieldLink RX1 9 "JuryHearsAnswers$Script" "text" "[C") (by decide +kernel)
  have hS : va_S A0 s.heap s.heap [] := va_S.rf
  have hP : va_P (gD g) vwCl (wZ g ad o σ) s.heap := hP
  have hl := lv_entry ([.ref (ad o)]) (n := 4) (Nat.le_of_ble_eq_true rfl)
  rw [lg_entry_eq]
  generalize (lg_sl ([.ref (ad o)]) ++ List.replicate (4 - (lg_sl ([.ref (ad o)])).length) Slot.unset).toArray = ls at hl ⊢
  have hl : lv_has ls 4 [(0, .ref (ad o))] := hl
  have hv := hv (fun (x1 : Nat) (x2 : Int32) (x3 : Int32) => ∀ (H : Heap) (locs : List Loc) (ls : Array Slot), va_P (gD g) vwCl (wZ g ad o σ) H → va_S A0 s.heap H locs → lv_has ls 4 [(0, .ref (ad o)), (1, .ref (gK g x1)), (2, .int x2), (3, .int x3)] → W p l e { frames := 5, cells := 0, slots := 0, locals := 127 } s m ([.ref (ad o)] : List Value).toArray below meth c H locs 0 0 (MQ below (va_Qi (fun r (_ : Unit) => Post r) (fun _ _ => True) A0) ([.ref (ad o)] : List Value).toArray s 0 0 A0) (F0 m 7 ls []))
  have hv := hv (by
    intro x1 x2 x3 hv H locs ls hP hS hl
    refine lv_iload_n hx hb dX1_brokenPlace_7 rfl (lv_at hl 3 rfl) ?_
    refine lv_aload_n hx hb dX1_brokenPlace_8 rfl (lv_at hl 0 rfl) ?_
    refine va_get (D := gD g) (ci := 1) (v := .int (zLen σ)) (C := RX1) (T := TX1) (N := 2) hx hb hts hi1 hown hK hP 0 rfl rfl 0 (by decide) k0 (fun _ h9 => h9) rfl dX1_brokenPlace_9 ?_
    refine lv_icmp_ge (tgt := 75) hx hb dX1_brokenPlace_12 (by decide) (fun c12 => ?_) (fun c12 => ?_)
    · have hv := hv.1 c12
      refine lv_aload_n hx hb dX1_brokenPlace_75 rfl (lv_at hl 0 rfl) ?_
      refine va_get (D := gD g) (ci := 1) (v := .int (zLen σ)) (C := RX1) (T := TX1) (N := 2) hx hb hts hi1 hown hK hP 0 rfl rfl 0 (by decide) k0 (fun _ h9 => h9) rfl dX1_brokenPlace_76 ?_
      refine lv_if_eq (tgt := 90) hx hb dX1_brokenPlace_79 (by decide) (fun c79 => ?_) (fun c79 => ?_)
      · have hv := hv.1 c79
        refine lv_aload_n hx hb dX1_brokenPlace_90 rfl (lv_at hl 0 rfl) ?_
        refine va_get (D := gD g) (ci := 1) (v := .int (zLen σ)) (C := RX1) (T := TX1) (N := 2) hx hb hts hi1 hown hK hP 0 rfl rfl 0 (by decide) k0 (fun _ h9 => h9) rfl dX1_brokenPlace_91 ?_
        refine lv_goto (tgt := 98) hx hb dX1_brokenPlace_94 (by decide) ?_
        exact W.iret (v := (zLen σ)) hx hb hr (fun t ht hW => ⟨⟨(zLen σ), (), rfl, hv, trivial⟩, hS.F ht⟩) hS.2.2 dX1_brokenPlace_98
      · have hv := hv.2 c79
        refine lv_iload_n hx hb dX1_brokenPlace_82 rfl (lv_at hl 2 rfl) ?_
        refine lv_aload_n hx hb dX1_brokenPlace_83 rfl (lv_at hl 1 rfl) ?_
        have h8 := hv.1
        have hv := hv.2
        have hPc : va_P (gD g) vwCl [] H := fun k q h => by simp at h
        have hi := hv.1
        have hv := hv.2
        refine ro_int (va_runV (As := []) (rest := [.int x2]) ⟨hx, hb, hml, hown, hts⟩ (h_J0_length_8abf5 g x1 h8) (cwV 0 hts gX1_brokenPlace_J0_length_8abf5 rfl rfl rfl (by decide +kernel) ⟨Nat.le_of_ble_eq_true rfl, Nat.le_of_ble_eq_true rfl⟩) ⟨RO_blind, vk_recv hE.2.2.1.1 hi hS, fun U hU hW => ⟨rfl, by rw [hU]; exact hPc, va_K.moved hW.alike hK, hE.call hW hU hS (fun _ h => h.elim)⟩⟩ rfl rfl hl.1 rfl (lv_room (Nat.le_of_ble_eq_true rfl)) dX1_brokenPlace_84 ⟨Nat.le_of_ble_eq_true rfl, Nat.le_of_ble_eq_true rfl⟩) hS hP (fun r H locs hw hP hS => ?_)
        subst r
        refine lv_icmp_ge (tgt := 97) hx hb dX1_brokenPlace_87 (by decide) (fun c87 => ?_) (fun c87 => ?_)
        · have hv := hv.1 c87
          refine lv_iconst (v := (-1)) hx hb dX1_brokenPlace_97 (by decide) ?_
          exact W.iret (v := (-1)) hx hb hr (fun t ht hW => ⟨⟨(-1), (), rfl, hv, trivial⟩, hS.F ht⟩) hS.2.2 dX1_brokenPlace_98
        · have hv := hv.2 c87
          refine lv_aload_n hx hb dX1_brokenPlace_90 rfl (lv_at hl 0 rfl) ?_
          refine va_get (D := gD g) (ci := 1) (v := .int (zLen σ)) (C := RX1) (T := TX1) (N := 2) hx hb hts hi1 hown hK hP 0 rfl rfl 0 (by decide) k0 (fun _ h9 => h9) rfl dX1_brokenPlace_91 ?_
          refine lv_goto (tgt := 98) hx hb dX1_brokenPlace_94 (by decide) ?_
          exact W.iret (v := (zLen σ)) hx hb hr (fun t ht hW => ⟨⟨(zLen σ), (), rfl, hv, trivial⟩, hS.F ht⟩) hS.2.2 dX1_brokenPlace_98
    · have hv := hv.2 c12
      refine lv_iload_n hx hb dX1_brokenPlace_15 rfl (lv_at hl 2 rfl) ?_
      refine lv_aload_n hx hb dX1_brokenPlace_16 rfl (lv_at hl 1 rfl) ?_
      have h8 := hv.1
      have hv := hv.2
      have hPc : va_P (gD g) vwCl [] H := fun k q h => by simp at h
      have hi := hv.1
      have hv := hv.2
      refine ro_int (va_runV (As := []) (rest := [.int x2]) ⟨hx, hb, hml, hown, hts⟩ (h_J0_length_8abf5 g x1 h8) (cwV 0 hts gX1_brokenPlace_J0_length_8abf5 rfl rfl rfl (by decide +kernel) ⟨Nat.le_of_ble_eq_true rfl, Nat.le_of_ble_eq_true rfl⟩) ⟨RO_blind, vk_recv hE.2.2.1.1 hi hS, fun U hU hW => ⟨rfl, by rw [hU]; exact hPc, va_K.moved hW.alike hK, hE.call hW hU hS (fun _ h => h.elim)⟩⟩ rfl rfl hl.1 rfl (lv_room (Nat.le_of_ble_eq_true rfl)) dX1_brokenPlace_17 ⟨Nat.le_of_ble_eq_true rfl, Nat.le_of_ble_eq_true rfl⟩) hS hP (fun r H locs hw hP hS => ?_)
      subst r
      refine lv_icmp_lt (tgt := 44) hx hb dX1_brokenPlace_20 (by decide) (fun c20 => ?_) (fun c20 => ?_)
      · have hv := hv.1 c20
        refine lv_aload_n hx hb dX1_brokenPlace_44 rfl (lv_at hl 0 rfl) ?_
        refine va_get (D := gD g) (ci := 1) (v := .ref (ad (o + 1))) (C := RX1) (T := TX1) (N := 2) hx hb hts hi1 hown hK hP 0 rfl rfl 1 (by decide) k1 (fun _ h9 => h9) rfl dX1_brokenPlace_45 ?_
        refine lv_iload_n hx hb dX1_brokenPlace_48 rfl (lv_at hl 3 rfl) ?_
        have h9 := hv.1
        have hv := hv.2
        refine va_cald (f := (zText σ)) (n := 96) hx hb hK hP 1 2 rfl rfl h9 dX1_brokenPlace_49 ?_
        refine lv_aload_n hx hb dX1_brokenPlace_50 rfl (lv_at hl 1 rfl) ?_
        refine lv_iload_n hx hb dX1_brokenPlace_51 rfl (lv_at hl 2 rfl) ?_
        have h8 := hv.1
        have hv := hv.2
        have hPc : va_P (gD g) vwCl [] H := fun k q h => by simp at h
        have hi := hv.1
        have hv := hv.2
        refine ro_int (va_runV (As := [.int x2]) (rest := [.int ((zText σ) (x3).toNatClampNeg)]) ⟨hx, hb, hml, hown, hts⟩ (h_J0_charAt_5068e g x1 x2 h8) (cwV 1 hts gX1_brokenPlace_J0_charAt_5068e rfl rfl rfl (by decide +kernel) ⟨Nat.le_of_ble_eq_true rfl, Nat.le_of_ble_eq_true rfl⟩) ⟨RO_blind, vk_recv hE.2.2.1.1 hi hS, fun U hU hW => ⟨rfl, by rw [hU]; exact hPc, va_K.moved hW.alike hK, hE.call hW hU hS (fun _ h => h.elim)⟩⟩ rfl rfl hl.1 rfl (lv_room (Nat.le_of_ble_eq_true rfl)) dX1_brokenPlace_52 ⟨Nat.le_of_ble_eq_true rfl, Nat.le_of_ble_eq_true rfl⟩) hS hP (fun r H locs hw hP hS => ?_)
        subst r
        have h8 := hv.1
        have hv := hv.2
        have hPc : va_P (gD g) vwCl [] H := fun k q h => by simp at h
        refine ro_int (va_runS (As := [.int ((zText σ) (x3).toNatClampNeg), .int (chS x1 x2)]) (rest := []) ⟨hx, hb, hml, hown, hts⟩ (h_X1_isOfShape g ((zText σ) (x3).toNatClampNeg) (chS x1 x2) h8) (va_cwS 2 hts gX1_brokenPlace_X1_isOfShape rfl rfl rfl (by decide +kernel) ⟨Nat.le_of_ble_eq_true rfl, Nat.le_of_ble_eq_true rfl⟩) ⟨RO_blind, fun U hU hW => ⟨rfl, by rw [hU]; exact hPc, va_K.moved hW.alike hK, hE.call hW hU hS (fun _ h => h.elim)⟩⟩ rfl rfl hl.1 rfl (lv_room (Nat.le_of_ble_eq_true rfl)) dX1_brokenPlace_55 ⟨Nat.le_of_ble_eq_true rfl, Nat.le_of_ble_eq_true rfl⟩) hS hP (fun r H locs hw hP hS => ?_)
        subst r
        refine lv_if_eq (tgt := 67) hx hb dX1_brokenPlace_58 (by decide) (fun c58 => ?_) (fun c58 => ?_)
        · have hv := hv.1 c58
          refine lv_iload_n hx hb dX1_brokenPlace_67 rfl (lv_at hl 3 rfl) ?_
          exact W.iret (v := x3) hx hb hr (fun t ht hW => ⟨⟨x3, (), rfl, hv, trivial⟩, hS.F ht⟩) hS.2.2 dX1_brokenPlace_68
        · have hv := hv.2 c58
          refine lv_iinc (v := (x2 + 1)) (lv' := [(2, .int (x2 + 1)), (0, .ref (ad o)), (1, .ref (gK g x1)), (3, .int x3)]) hx hb dX1_brokenPlace_61 hl (k := 2) rfl (by first | rfl | exact congrArg _ (by decide)) (by decide) rfl (fun ls hl => ?_)
          refine lv_goto (tgt := 69) hx hb dX1_brokenPlace_64 (by decide) ?_
          refine lv_iinc (v := (x3 + 1)) (lv' := [(3, .int (x3 + 1)), (2, .int (x2 + 1)), (0, .ref (ad o)), (1, .ref (gK g x1))]) hx hb dX1_brokenPlace_69 hl (k := 3) rfl (by first | rfl | exact congrArg _ (by decide)) (by decide) rfl (fun ls hl => ?_)
          refine lv_goto (tgt := 7) hx hb dX1_brokenPlace_72 (by decide) ?_
          exact hv H locs ls hP hS (lv_sub hl [2, 3, 1, 0] rfl)
      · have hv := hv.2 c20
        refine lv_aload_n hx hb dX1_brokenPlace_23 rfl (lv_at hl 0 rfl) ?_
        refine va_get (D := gD g) (ci := 1) (v := .ref (ad (o + 1))) (C := RX1) (T := TX1) (N := 2) hx hb hts hi1 hown hK hP 0 rfl rfl 1 (by decide) k1 (fun _ h9 => h9) rfl dX1_brokenPlace_24 ?_
        refine lv_iload_n hx hb dX1_brokenPlace_27 rfl (lv_at hl 3 rfl) ?_
        have h9 := hv.1
        have hv := hv.2
        refine va_cald (f := (zText σ)) (n := 96) hx hb hK hP 1 2 rfl rfl h9 dX1_brokenPlace_28 ?_
        have hPc : va_P (gD g) vwCl [] H := fun k q h => by simp at h
        refine ro_str (va_runS (As := [.int ((zText σ) (x3).toNatClampNeg)]) (rest := []) ⟨hx, hb, hml, hown, hts⟩ (h_X1_shape g ((zText σ) (x3).toNatClampNeg)) (va_cwS 1 hts gX1_brokenPlace_X1_shape rfl rfl rfl (by decide +kernel) ⟨Nat.le_of_ble_eq_true rfl, Nat.le_of_ble_eq_true rfl⟩) ⟨RO_blind, fun U hU hW => ⟨rfl, by rw [hU]; exact hPc, va_K.moved hW.alike hK, hE.call hW hU hS (fun _ h => h.elim)⟩⟩ rfl rfl hl.1 rfl (lv_room (Nat.le_of_ble_eq_true rfl)) dX1_brokenPlace_29 ⟨Nat.le_of_ble_eq_true rfl, Nat.le_of_ble_eq_true rfl⟩) hS hP (fun r H locs hw hP hS => ?_)
        subst r
        refine lv_astore_n (lv' := [(1, .ref (gK g (shapeN ((zText σ) (x3).toNatClampNeg)))), (0, .ref (ad o)), (2, .int x2), (3, .int x3)]) hx hb dX1_brokenPlace_32 rfl hl (by decide) rfl (fun ls hl => ?_)
        refine lv_iconst (v := 0) hx hb dX1_brokenPlace_33 (by decide) ?_
        refine lv_istore_n (lv' := [(2, .int 0), (1, .ref (gK g (shapeN ((zText σ) (x3).toNatClampNeg)))), (0, .ref (ad o)), (3, .int x3)]) hx hb dX1_brokenPlace_34 rfl hl (by decide) rfl (fun ls hl => ?_)
        refine lv_aload_n hx hb dX1_brokenPlace_35 rfl (lv_at hl 1 rfl) ?_
        have h8 := hv.1
        have hv := hv.2
        have hPc : va_P (gD g) vwCl [] H := fun k q h => by simp at h
        have hi := hv.1
        have hv := hv.2
        refine ro_int (va_runV (As := []) (rest := []) ⟨hx, hb, hml, hown, hts⟩ (h_J0_isEmpty_aae02 g (shapeN ((zText σ) (x3).toNatClampNeg)) h8) (cwV 0 hts gX1_brokenPlace_J0_isEmpty_aae02 rfl rfl rfl (by decide +kernel) ⟨Nat.le_of_ble_eq_true rfl, Nat.le_of_ble_eq_true rfl⟩) ⟨RO_blind, vk_recv hE.2.2.1.1 hi hS, fun U hU hW => ⟨rfl, by rw [hU]; exact hPc, va_K.moved hW.alike hK, hE.call hW hU hS (fun _ h => h.elim)⟩⟩ rfl rfl hl.1 rfl (lv_room (Nat.le_of_ble_eq_true rfl)) dX1_brokenPlace_36 ⟨Nat.le_of_ble_eq_true rfl, Nat.le_of_ble_eq_true rfl⟩) hS hP (fun r H locs hw hP hS => ?_)
        subst r
        refine lv_if_eq (tgt := 69) hx hb dX1_brokenPlace_39 (by decide) (fun c39 => ?_) (fun c39 => ?_)
        · have hv := hv.1 c39
          refine lv_iinc (v := (x3 + 1)) (lv' := [(3, .int (x3 + 1)), (2, .int 0), (1, .ref (gK g (shapeN ((zText σ) (x3).toNatClampNeg)))), (0, .ref (ad o))]) hx hb dX1_brokenPlace_69 hl (k := 3) rfl (by first | rfl | exact congrArg _ (by decide)) (by decide) rfl (fun ls hl => ?_)
          refine lv_goto (tgt := 7) hx hb dX1_brokenPlace_72 (by decide) ?_
          exact hv H locs ls hP hS (lv_sub hl [3, 2, 1, 0] rfl)
        · have hv := hv.2 c39
          refine lv_iload_n hx hb dX1_brokenPlace_42 rfl (lv_at hl 3 rfl) ?_
          exact W.iret (v := x3) hx hb hr (fun t ht hW => ⟨⟨x3, (), rfl, hv, trivial⟩, hS.F ht⟩) hS.2.2 dX1_brokenPlace_43)
  obtain ⟨H, hH⟩ : ∃ z, z = s.heap := ⟨_, rfl⟩
  obtain ⟨locs, hL⟩ : ∃ z : List Loc, z = [] := ⟨_, rfl⟩
  rw [← hL] at hS ⊢
  have hS : va_S A0 s.heap H locs := by rw [hH]; exact hS
  rw [← hH] at hP ⊢
  clear hH hL
  refine va_ldcS hx hb hown hE.2.2.1.2.2.2.2.2.2.1 dX1_brokenPlace_0 ?_
  refine lv_astore_n (lv' := [(1, .ref (gK g 5)), (0, .ref (ad o))]) hx hb dX1_brokenPlace_2 rfl hl (by decide) rfl (fun ls hl => ?_)
  refine lv_iconst (v := 0) hx hb dX1_brokenPlace_3 (by decide) ?_
  refine lv_istore_n (lv' := [(2, .int 0), (1, .ref (gK g 5)), (0, .ref (ad o))]) hx hb dX1_brokenPlace_4 rfl hl (by decide) rfl (fun ls hl => ?_)
  refine lv_iconst (v := 0) hx hb dX1_brokenPlace_5 (by decide) ?_
  refine lv_istore_n (lv' := [(3, .int 0), (2, .int 0), (1, .ref (gK g 5)), (0, .ref (ad o))]) hx hb dX1_brokenPlace_6 rfl hl (by decide) rfl (fun ls hl => ?_)
  exact hv H locs ls hP hS (lv_sub hl [3, 2, 1, 0] rfl)

set_option maxHeartbeats 4000000 in
set_option maxRecDepth 100000 in
theorem m_X1_playWitness (l : Launch) (h_J0_indexOf_0f7a4 : C_J0_indexOf_0f7a4 l) (h_X0_addWitness : C_X0_addWitness l) (h_X1_digit : C_X1_digit l) (h_X1_sign : C_X1_sign l) (g : CX) (ad : Nat → Nat) (σ : KP) (p0 : Int32) (Post : Int32 → KP → Prop) (hv : vc_X1_playWitness σ p0 Post) : Met l yX1_playWitness wsX1_playWitness { frames := 4, cells := 0, slots := 0, locals := 106 } (va_Pc [.ref (ad 43), .int p0, .ref (ad 30)] (RW g (AD ad 30 15) (wP g ad σ))) (va_Qi (fun (r : Int32) (u : KP) => Post r u) (fun u t => va_P (gD g) vwCl (wP g ad u) t.heap) (AD ad 30 15)) 0 0 (AD ad 30 15) := by
  unfold vc_X1_playWitness at hv
  refine Met.ofW (cc := cX1_playWitness) (maxL := 4) (ret := (some .boolean)) (by decide) rfl ?_
  intro p e s m args below meth c s₁ B hml hv0
  obtain ⟨rfl, hP, hK, hE, hD⟩ := hv0
  have hx := B.exec
  have hb := B.bytes
  have hr := B.returns
  have hts := atoms_spec (ws := wsX1_playWitness) B.pre
  have hown : s.vm.findClass RX1 = some m.cls := findClass_of_methodNamed B.named
  have hlocks := B.notSynchronized
  have hS : va_S (AD ad 30 15) s.heap s.heap [] := va_S.rf
  have hP : va_P (gD g) vwCl (wP g ad σ) s.heap := hP
  have hl := lv_entry ([.ref (ad 43), .int p0, .ref (ad 30)]) (n := 4) (Nat.le_of_ble_eq_true rfl)
  rw [lg_entry_eq]
  generalize (lg_sl ([.ref (ad 43), .int p0, .ref (ad 30)]) ++ List.replicate (4 - (lg_sl ([.ref (ad 43), .int p0, .ref (ad 30)])).length) Slot.unset).toArray = ls at hl ⊢
  have hl : lv_has ls 4 [(0, .ref (ad 43)), (1, .int p0), (2, .ref (ad 30))] := hl
  obtain ⟨H, hH⟩ : ∃ z, z = s.heap := ⟨_, rfl⟩
  obtain ⟨locs, hL⟩ : ∃ z : List Loc, z = [] := ⟨_, rfl⟩
  rw [← hL] at hS ⊢
  have hS : va_S (AD ad 30 15) s.heap H locs := by rw [hH]; exact hS
  rw [← hH] at hP ⊢
  clear hH hL
  refine lv_bipush (v := 10) hx hb dX1_playWitness_0 (by decide) ?_
  refine lv_aload_n hx hb dX1_playWitness_2 rfl (lv_at hl 0 rfl) ?_
  refine lv_iload_n hx hb dX1_playWitness_3 rfl (lv_at hl 1 rfl) ?_
  refine lv_iconst (v := 3) hx hb dX1_playWitness_4 (by decide) ?_
  refine lv_iadd hx hb dX1_playWitness_5 ?_
  have h8 := hv.1
  have hv := hv.2
  have hPc : va_P (gD g) vwCl (wZ g ad 43 (qScr σ)) H := hP.sub [13, 14] rfl
  refine ro_int (va_runV (As := [.int (p0 + 3)]) (rest := [.int 10]) ⟨hx, hb, hml, hown, hts⟩ (h_X1_digit g ad 43 (qScr σ) (p0 + 3) h8) (cwV 1 hts gX1_playWitness_X1_digit rfl rfl rfl (by decide +kernel) ⟨Nat.le_of_ble_eq_true rfl, Nat.le_of_ble_eq_true rfl⟩) ⟨RO_blind, va_recv hK hP (ci := 1) (q0 := 13) rfl rfl, fun U hU hW => ⟨rfl, by rw [hU]; exact hPc, va_K.moved hW.alike hK, hE.call hW hU hS (fun _ h => h.elim)⟩⟩ rfl rfl hl.1 rfl (lv_room (Nat.le_of_ble_eq_true rfl)) dX1_playWitness_6 ⟨Nat.le_of_ble_eq_true rfl, Nat.le_of_ble_eq_true rfl⟩) hS hP (fun r H locs hw hP hS => ?_)
  subst r
  refine lv_imul hx hb dX1_playWitness_9 ?_
  refine lv_aload_n hx hb dX1_playWitness_10 rfl (lv_at hl 0 rfl) ?_
  refine lv_iload_n hx hb dX1_playWitness_11 rfl (lv_at hl 1 rfl) ?_
  refine lv_iconst (v := 4) hx hb dX1_playWitness_12 (by decide) ?_
  refine lv_iadd hx hb dX1_playWitness_13 ?_
  have h8 := hv.1
  have hv := hv.2
  have hPc : va_P (gD g) vwCl (wZ g ad 43 (qScr σ)) H := hP.sub [13, 14] rfl
  refine ro_int (va_runV (As := [.int (p0 + 4)]) (rest := [.int (10 * (digV (qScr σ) (p0 + 3)))]) ⟨hx, hb, hml, hown, hts⟩ (h_X1_digit g ad 43 (qScr σ) (p0 + 4) h8) (cwV 1 hts gX1_playWitness_X1_digit rfl rfl rfl (by decide +kernel) ⟨Nat.le_of_ble_eq_true rfl, Nat.le_of_ble_eq_true rfl⟩) ⟨RO_blind, va_recv hK hP (ci := 1) (q0 := 13) rfl rfl, fun U hU hW => ⟨rfl, by rw [hU]; exact hPc, va_K.moved hW.alike hK, hE.call hW hU hS (fun _ h => h.elim)⟩⟩ rfl rfl hl.1 rfl (lv_room (Nat.le_of_ble_eq_true rfl)) dX1_playWitness_14 ⟨Nat.le_of_ble_eq_true rfl, Nat.le_of_ble_eq_true rfl⟩) hS hP (fun r H locs hw hP hS => ?_)
  subst r
  refine lv_iadd hx hb dX1_playWitness_17 ?_
  refine lv_istore_n (lv' := [(3, .int ((10 * (digV (qScr σ) (p0 + 3))) + (digV (qScr σ) (p0 + 4)))), (0, .ref (ad 43)), (1, .int p0), (2, .ref (ad 30))]) hx hb dX1_playWitness_18 rfl hl (by decide) rfl (fun ls hl => ?_)
  refine lv_aload_n hx hb dX1_playWitness_19 rfl (lv_at hl 3 rfl) ?_
  refine va_ldcS hx hb hown hE.2.2.1.2.2.2.2.2.2.2 dX1_playWitness_20 ?_
  refine lv_aload_n hx hb dX1_playWitness_22 rfl (lv_at hl 1 rfl) ?_
  refine lv_iload_n hx hb dX1_playWitness_23 rfl (lv_at hl 2 rfl) ?_
  refine lv_iconst (v := 1) hx hb dX1_playWitness_24 (by decide) ?_
  refine lv_iadd hx hb dX1_playWitness_25 ?_
  have h8 := hv.1
  have hv := hv.2
  have hPc : va_P (gD g) vwCl (wZ g ad 43 (qScr σ)) H := hP.sub [13, 14] rfl
  refine ro_int (va_runV (As := [.int (p0 + 1)]) (rest := [.ref (gK g 6), .ref (ad 30)]) ⟨hx, hb, hml, hown, hts⟩ (h_X1_sign g ad 43 (qScr σ) (p0 + 1) h8) (cwV 1 hts gX1_playWitness_X1_sign rfl rfl rfl (by decide +kernel) ⟨Nat.le_of_ble_eq_true rfl, Nat.le_of_ble_eq_true rfl⟩) ⟨RO_blind, va_recv hK hP (ci := 1) (q0 := 13) rfl rfl, fun U hU hW => ⟨rfl, by rw [hU]; exact hPc, va_K.moved hW.alike hK, hE.call hW hU hS (fun _ h => h.elim)⟩⟩ rfl rfl hl.1 rfl (lv_room (Nat.le_of_ble_eq_true rfl)) dX1_playWitness_26 ⟨Nat.le_of_ble_eq_true rfl, Nat.le_of_ble_eq_true rfl⟩) hS hP (fun r H locs hw hP hS => ?_)
  subst r
  have h8 := hv.1
  have hv := hv.2
  have hPc : va_P (gD g) vwCl [] H := fun k q h => by simp at h
  have hi := hv.1
  have hv := hv.2
  refine ro_int (va_runV (As := [.int (signI (qScr σ) (p0 + 1))]) (rest := [.ref (ad 30)]) ⟨hx, hb, hml, hown, hts⟩ (h_J0_indexOf_0f7a4 g 6 (signI (qScr σ) (p0 + 1)) h8) (cwV 1 hts gX1_playWitness_J0_indexOf_0f7a4 rfl rfl rfl (by decide +kernel) ⟨Nat.le_of_ble_eq_true rfl, Nat.le_of_ble_eq_true rfl⟩) ⟨RO_blind, vk_recv hE.2.2.1.1 hi hS, fun U hU hW => ⟨rfl, by rw [hU]; exact hPc, va_K.moved hW.alike hK, hE.call hW hU hS (fun _ h => h.elim)⟩⟩ rfl rfl hl.1 rfl (lv_room (Nat.le_of_ble_eq_true rfl)) dX1_playWitness_29 ⟨Nat.le_of_ble_eq_true rfl, Nat.le_of_ble_eq_true rfl⟩) hS hP (fun r H locs hw hP hS => ?_)
  subst r
  refine lv_aload_n hx hb dX1_playWitness_32 rfl (lv_at hl 1 rfl) ?_
  refine lv_iload_n hx hb dX1_playWitness_33 rfl (lv_at hl 2 rfl) ?_
  refine lv_iconst (v := 2) hx hb dX1_playWitness_34 (by decide) ?_
  refine lv_iadd hx hb dX1_playWitness_35 ?_
  have h8 := hv.1
  have hv := hv.2
  have hPc : va_P (gD g) vwCl (wZ g ad 43 (qScr σ)) H := hP.sub [13, 14] rfl
  refine ro_int (va_runV (As := [.int (p0 + 2)]) (rest := [.int (ixS 6 (signI (qScr σ) (p0 + 1))), .ref (ad 30)]) ⟨hx, hb, hml, hown, hts⟩ (h_X1_digit g ad 43 (qScr σ) (p0 + 2) h8) (cwV 1 hts gX1_playWitness_X1_digit rfl rfl rfl (by decide +kernel) ⟨Nat.le_of_ble_eq_true rfl, Nat.le_of_ble_eq_true rfl⟩) ⟨RO_blind, va_recv hK hP (ci := 1) (q0 := 13) rfl rfl, fun U hU hW => ⟨rfl, by rw [hU]; exact hPc, va_K.moved hW.alike hK, hE.call hW hU hS (fun _ h => h.elim)⟩⟩ rfl rfl hl.1 rfl (lv_room (Nat.le_of_ble_eq_true rfl)) dX1_playWitness_36 ⟨Nat.le_of_ble_eq_true rfl, Nat.le_of_ble_eq_true rfl⟩) hS hP (fun r H locs hw hP hS => ?_)
  subst r
  refine lv_iload_n hx hb dX1_playWitness_39 rfl (lv_at hl 0 rfl) ?_
  have h8 := hv.1
  have hv := hv.2
  have hPc : va_P (gD g) vwCl (wC g ad 30 (qCourt σ)) H := hP.sub [0, 1, 2, 3, 4, 5, 6, 7, 8, 9, 10, 11, 12] rfl
  have hDc : va_D (AD ad 30 13) (wC g ad 30 (qCourt σ)) := ⟨(hD.sub [0, 1, 2, 3, 4, 5, 6, 7, 8, 9, 10, 11, 12] (by decide) rfl).1, AD_of rfl⟩
  have hAc : ∀ q, (AD ad 30 13) q → (AD ad 30 15) q := AD_sub (by decide) (by decide)
  refine rw_int (va_runV (As := [.int (ixS 6 (signI (qScr σ) (p0 + 1))), .int (digV (qScr σ) (p0 + 2)), .int ((10 * (digV (qScr σ) (p0 + 3))) + (digV (qScr σ) (p0 + 4)))]) (rest := []) ⟨hx, hb, hml, hown, hts⟩ (h_X0_addWitness g ad 30 (qCourt σ) (ixS 6 (signI (qScr σ) (p0 + 1))) (digV (qScr σ) (p0 + 2)) ((10 * (digV (qScr σ) (p0 + 3))) + (digV (qScr σ) (p0 + 4))) h8) (cwV 3 hts gX1_playWitness_X0_addWitness rfl rfl rfl (by decide +kernel) ⟨Nat.le_of_ble_eq_true rfl, Nat.le_of_ble_eq_true rfl⟩) ⟨RW_blind, va_recv hK hP (ci := 0) (q0 := 0) rfl rfl, fun U hU hW => ⟨rfl, by rw [hU]; exact hPc, va_K.moved hW.alike hK, hE.call hW hU hS hAc, hDc⟩⟩ rfl rfl hl.1 rfl (lv_room (Nat.le_of_ble_eq_true rfl)) dX1_playWitness_40 ⟨Nat.le_of_ble_eq_true rfl, Nat.le_of_ble_eq_true rfl⟩) hS hAc (fun r u H1 locs hw hP1 hk hS => ?_)
  obtain ⟨hw1, hw⟩ := hw; subst r; subst u
  have hP := mid_at hP hD 0 13 (b := wC g ad 30 (qCourt σ)) rfl (AD_at rfl) hk hP1 (wC_len.trans wC_len.symm)
  generalize H1 = H at hP hS ⊢
  have hP : va_P (gD g) vwCl (wP g ad (((if wOkB (cS (qCourt σ)) (ixS 6 (signI (qScr σ) (p0 + 1))) (digV (qScr σ) (p0 + 2)) ((10 * (digV (qScr σ) (p0 + 3))) + (digV (qScr σ) (p0 + 4))) then addW (cS (qCourt σ)) (ixS 6 (signI (qScr σ) (p0 + 1))) (digV (qScr σ) (p0 + 2)) ((10 * (digV (qScr σ) (p0 + 3))) + (digV (qScr σ) (p0 + 4))) else cS (qCourt σ)), (cNeeded (qCourt σ)), (cTruth (qCourt σ))), (qScr σ))) H := wP_set0 hP
  have hD : va_D (AD ad 30 15) (wP g ad (((if wOkB (cS (qCourt σ)) (ixS 6 (signI (qScr σ) (p0 + 1))) (digV (qScr σ) (p0 + 2)) ((10 * (digV (qScr σ) (p0 + 3))) + (digV (qScr σ) (p0 + 4))) then addW (cS (qCourt σ)) (ixS 6 (signI (qScr σ) (p0 + 1))) (digV (qScr σ) (p0 + 2)) ((10 * (digV (qScr σ) (p0 + 3))) + (digV (qScr σ) (p0 + 4))) else cS (qCourt σ)), (cNeeded (qCourt σ)), (cTruth (qCourt σ))), (qScr σ))) := hD.addr wP_addr
  have hn := hv.1
  have hv := hv.2
  exact W.zret (v := (b2i (wOkB (cS (qCourt σ)) (ixS 6 (signI (qScr σ) (p0 + 1))) (digV (qScr σ) (p0 + 2)) ((10 * (digV (qScr σ) (p0 + 3))) + (digV (qScr σ) (p0 + 4)))))) hx hb hr hn (fun t ht hW => ⟨⟨(b2i (wOkB (cS (qCourt σ)) (ixS 6 (signI (qScr σ) (p0 + 1))) (digV (qScr σ) (p0 + 2)) ((10 * (digV (qScr σ) (p0 + 3))) + (digV (qScr σ) (p0 + 4))))), (((if wOkB (cS (qCourt σ)) (ixS 6 (signI (qScr σ) (p0 + 1))) (digV (qScr σ) (p0 + 2)) ((10 * (digV (qScr σ) (p0 + 3))) + (digV (qScr σ) (p0 + 4))) then addW (cS (qCourt σ)) (ixS 6 (signI (qScr σ) (p0 + 1))) (digV (qScr σ) (p0 + 2)) ((10 * (digV (qScr σ) (p0 + 3))) + (digV (qScr σ) (p0 + 4))) else cS (qCourt σ)), (cNeeded (qCourt σ)), (cTruth (qCourt σ))), (qScr σ)), rfl, hv, P_at ht hP⟩, hS.F ht⟩) hS.2.2 dX1_playWitness_43

