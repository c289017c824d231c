set_option maxHeartbeats 4000000 in
set_option maxRecDepth 100000 in
theorem m_J1_canEncode_9a6ad (l : Launch)  (g : CX) (p0 : Int32) (Post : Int32 → Prop) (hv : vc_J1_canEncode_9a6ad p0 Post) : Met l yJ1_canEncode_9a6ad wsJ1_canEncode_9a6ad { frames := 0, cells := 0, slots := 0, locals := 0 } (va_Pc [.int p0] (RO g [])) (va_Qi (fun r (_ : Unit) => Post r) (fun _ _ => True) A0) 0 0 A0 := by
  unfold vc_J1_canEncode_9a6ad at hv
  refine Met.ofW (cc := cJ1_canEncode_9a6ad) (maxL := 1) (ret := (some .boolean)) (by decide) rfl ?_
  intro p e s m args below meth c s₁ B hml hv0
  obtain ⟨rfl, hP, hK, hE⟩ := hv0
  have hx := B.exec
  have hb := B.bytes
  have hr := B.returns
  have hts := atoms_spec (ws := wsJ1_canEncode_9a6ad) B.pre
  have hown : s.vm.findClass RJ1 = some m.cls := findClass_of_methodNamed B.named
  have hlocks := B.notSynchronized
  have hS : va_S A0 s.heap s.heap [] := va_S.rf
  have hP : va_P (gD g) vwCl ([]) s.heap := hP
  have hl := lv_entry ([.int p0]) (n := 1) (Nat.le_of_ble_eq_true rfl)
  rw [lg_entry_eq]
  generalize (lg_sl ([.int p0]) ++ List.replicate (1 - (lg_sl ([.int p0])).length) Slot.unset).toArray = ls at hl ⊢
  have hl : lv_has ls 1 [(0, .int p0)] := hl
  obtain ⟨H, hH⟩ : ∃ z, z = s.heap := ⟨_, rfl⟩
  obtain ⟨locs, hL⟩ : ∃ z : List Loc, z = [] := ⟨_, rfl⟩
  rw [← hL] at hS ⊢
  have hS : va_S A0 s.heap H locs := by rw [hH]; exact hS
  rw [← hH] at hP ⊢
  clear hH hL
  refine lv_iload_n hx hb dJ1_canEncode_9a6ad_0 rfl (lv_at hl 0 rfl) ?_
  refine lv_if_lt (tgt := 15) hx hb dJ1_canEncode_9a6ad_1 (by decide) (fun c1 => ?_) (fun c1 => ?_)
  · have hv := hv.1 c1
    refine lv_iconst (v := 0) hx hb dJ1_canEncode_9a6ad_15 (by decide) ?_
    exact W.zret (v := 0) hx hb hr rfl (fun t ht hW => ⟨⟨0, (), rfl, hv, trivial⟩, hS.F ht⟩) hS.2.2 dJ1_canEncode_9a6ad_16
  · have hv := hv.2 c1
    refine lv_iload_n hx hb dJ1_canEncode_9a6ad_4 rfl (lv_at hl 0 rfl) ?_
    refine lv_sipush (v := 255) hx hb dJ1_canEncode_9a6ad_5 (by decide) ?_
    refine lv_icmp_gt (tgt := 15) hx hb dJ1_canEncode_9a6ad_8 (by decide) (fun c8 => ?_) (fun c8 => ?_)
    · have hv := hv.1 c8
      refine lv_iconst (v := 0) hx hb dJ1_canEncode_9a6ad_15 (by decide) ?_
      exact W.zret (v := 0) hx hb hr rfl (fun t ht hW => ⟨⟨0, (), rfl, hv, trivial⟩, hS.F ht⟩) hS.2.2 dJ1_canEncode_9a6ad_16
    · have hv := hv.2 c8
      refine lv_iconst (v := 1) hx hb dJ1_canEncode_9a6ad_11 (by decide) ?_
      refine lv_goto (tgt := 16) hx hb dJ1_canEncode_9a6ad_12 (by decide) ?_
      exact W.zret (v := 1) hx hb hr rfl (fun t ht hW => ⟨⟨1, (), rfl, hv, trivial⟩, hS.F ht⟩) hS.2.2 dJ1_canEncode_9a6ad_16

set_option maxHeartbeats 4000000 in
set_option maxRecDepth 100000 in
theorem m_J1_indexOfChar_4cfef (l : Launch)  (g : CX) (p0 : Nat) (p1 : Int32) (p2 : Int32) (p3 : Int32) (Post : Int32 → Prop) (hv : vc_J1_indexOfChar_4cfef p0 p1 p2 p3 Post) : Met l yJ1_indexOfChar_4cfef wsJ1_indexOfChar_4cfef { frames := 0, cells := 0, slots := 0, locals := 0 } (va_Pc [.ref (gV g p0), .int p1, .int p2, .int p3] (RO g [])) (va_Qi (fun r (_ : Unit) => Post r) (fun _ _ => True) A0) 0 0 A0 := by
  unfold vc_J1_indexOfChar_4cfef at hv
  refine Met.ofW (cc := cJ1_indexOfChar_4cfef) (maxL := 6) (ret := (some .int)) (by decide) rfl ?_
  intro p e s m args below meth c s₁ B hml hv0
  obtain ⟨rfl, hP, hK, hE⟩ := hv0
  have hx := B.exec
  have hb := B.bytes
  have hr := B.returns
  have hts := atoms_spec (ws := wsJ1_indexOfChar_4cfef) B.pre
  have hown : s.vm.findClass RJ1 = some m.cls := findClass_of_methodNamed B.named
  have hlocks := B.notSynchronized
  have hS : va_S A0 s.heap s.heap [] := va_S.rf
  have hP : va_P (gD g) vwCl ([]) s.heap := hP
  have hl := lv_entry ([.ref (gV g p0), .int p1, .int p2, .int p3]) (n := 6) (Nat.le_of_ble_eq_true rfl)
  rw [lg_entry_eq]
  generalize (lg_sl ([.ref (gV g p0), .int p1, .int p2, .int p3]) ++ List.replicate (6 - (lg_sl ([.ref (gV g p0), .int p1, .int p2, .int p3])).length) Slot.unset).toArray = ls at hl ⊢
  have hl : lv_has ls 6 [(0, .ref (gV g p0)), (1, .int p1), (2, .int p2), (3, .int p3)] := hl
  have hv := hv (fun (x4 : Int32) (x5 : Int32) => ∀ (H : Heap) (locs : List Loc) (ls : Array Slot), va_P (gD g) vwCl ([]) H → va_S A0 s.heap H locs → lv_has ls 6 [(0, .ref (gV g p0)), (3, .int p3), (4, .int x4), (5, .int x5)] → W p l e { frames := 0, cells := 0, slots := 0, locals := 0 } s m ([.ref (gV g p0), .int p1, .int p2, .int p3] : List Value).toArray below meth c H locs 0 0 (MQ below (va_Qi (fun r (_ : Unit) => Post r) (fun _ _ => True) A0) ([.ref (gV g p0), .int p1, .int p2, .int p3] : List Value).toArray s 0 0 A0) (F0 m 7 ls []))
  have hv := hv (by
    intro x4 x5 hv H locs ls hP hS hl
    refine lv_iload hx hb dJ1_indexOfChar_4cfef_7 (lv_at hl 3 rfl) ?_
    refine lv_iload_n hx hb dJ1_indexOfChar_4cfef_9 rfl (lv_at hl 1 rfl) ?_
    refine lv_icmp_ge (tgt := 31) hx hb dJ1_indexOfChar_4cfef_10 (by decide) (fun c10 => ?_) (fun c10 => ?_)
    · have hv := hv.1 c10
      refine lv_iconst (v := (-1)) hx hb dJ1_indexOfChar_4cfef_31 (by decide) ?_
      exact W.iret (v := (-1)) hx hb hr (fun t ht hW => ⟨⟨(-1), (), rfl, hv, trivial⟩, hS.F ht⟩) hS.2.2 dJ1_indexOfChar_4cfef_32
    · have hv := hv.2 c10
      refine lv_aload_n hx hb dJ1_indexOfChar_4cfef_13 rfl (lv_at hl 0 rfl) ?_
      refine lv_iload hx hb dJ1_indexOfChar_4cfef_14 (lv_at hl 3 rfl) ?_
      have hi := hv.1
      have hv := hv.2
      have h9 := hv.1
      have hv := hv.2
      refine va_tb hx hb (hE.2.2.1.1.1 _ hi).2.2.2 hS h9 rfl dJ1_indexOfChar_4cfef_16 ?_
      refine lv_iload hx hb dJ1_indexOfChar_4cfef_17 (lv_at hl 2 rfl) ?_
      refine lv_icmp_ne (tgt := 25) hx hb dJ1_indexOfChar_4cfef_19 (by decide) (fun c19 => ?_) (fun c19 => ?_)
      · have hv := hv.1 c19
        refine lv_iinc (v := (x5 + 1)) (lv' := [(5, .int (x5 + 1)), (0, .ref (gV g p0)), (3, .int p3), (4, .int x4)]) hx hb dJ1_indexOfChar_4cfef_25 hl (k := 3) rfl (by first | rfl | exact congrArg _ (by decide)) (by decide) rfl (fun ls hl => ?_)
        refine lv_goto (tgt := 7) hx hb dJ1_indexOfChar_4cfef_28 (by decide) ?_
        exact hv H locs ls hP hS (lv_sub hl [1, 2, 3, 0] rfl)
      · have hv := hv.2 c19
        refine lv_iload hx hb dJ1_indexOfChar_4cfef_22 (lv_at hl 3 rfl) ?_
        exact W.iret (v := x5) hx hb hr (fun t ht hW => ⟨⟨x5, (), rfl, hv, trivial⟩, hS.F ht⟩) hS.2.2 dJ1_indexOfChar_4cfef_24)
  obtain ⟨H, hH⟩ : ∃ z, z = s.heap := ⟨_, rfl⟩
  obtain ⟨locs, hL⟩ : ∃ z : List Loc, z = [] := ⟨_, rfl⟩
  rw [← hL] at hS ⊢
  have hS : va_S A0 s.heap H locs := by rw [hH]; exact hS
  rw [← hH] at hP ⊢
  clear hH hL
  refine lv_iload_n hx hb dJ1_indexOfChar_4cfef_0 rfl (lv_at hl 1 rfl) ?_
  refine lv_i2b hx hb dJ1_indexOfChar_4cfef_1 rfl ?_
  refine lv_istore (lv' := [(4, .int ((p1).toInt8.toInt32)), (0, .ref (gV g p0)), (1, .int p1), (2, .int p2), (3, .int p3)]) hx hb dJ1_indexOfChar_4cfef_2 hl (by decide) rfl (fun ls hl => ?_)
  refine lv_iload_n hx hb dJ1_indexOfChar_4cfef_4 rfl (lv_at hl 3 rfl) ?_
  refine lv_istore (lv' := [(5, .int p2), (4, .int ((p1).toInt8.toInt32)), (0, .ref (gV g p0)), (1, .int p1), (2, .int p2), (3, .int p3)]) hx hb dJ1_indexOfChar_4cfef_5 hl (by decide) rfl (fun ls hl => ?_)
  exact hv H locs ls hP hS (lv_sub hl [2, 5, 1, 0] rfl)

set_option maxHeartbeats 4000000 in
set_option maxRecDepth 100000 in
theorem m_J1_indexOf_4cfef (l : Launch) (h_J1_canEncode_9a6ad : C_J1_canEncode_9a6ad l) (h_J1_indexOfChar_4cfef : C_J1_indexOfChar_4cfef l) (g : CX) (p0 : Nat) (p1 : Int32) (p2 : Int32) (p3 : Int32) (Post : Int32 → Prop) (hv : vc_J1_indexOf_4cfef p0 p1 p2 p3 Post) : Met l yJ1_indexOf_4cfef wsJ1_indexOf_4cfef { frames := 1, cells := 0, slots := 0, locals := 40 } (va_Pc [.ref (gV g p0), .int p1, .int p2, .int p3] (RO g [])) (va_Qi (fun r (_ : Unit) => Post r) (fun _ _ => True) A0) 0 0 A0 := by
  unfold vc_J1_indexOf_4cfef at hv
  refine Met.ofW (cc := cJ1_indexOf_4cfef) (maxL := 4) (ret := (some .int)) (by decide) rfl ?_
  intro p e s m args below meth c s₁ B hml hv0
  obtain ⟨rfl, hP, hK, hE⟩ := hv0
  have hx := B.exec
  have hb := B.bytes
  have hr := B.returns
  have hts := atoms_spec (ws := wsJ1_indexOf_4cfef) B.pre
  have hown : s.vm.findClass RJ1 = some m.cls := findClass_of_methodNamed B.named
  have hlocks := B.notSynchronized
  have k0 := hts (.methodLink RJ1 92 Lib.Math.max.name) (by decide +kernel)
  have k1 := hts (.static Lib.Math.max.name) (by decide +kernel)
  have k2 := hts (.initialized "java/lang/Math") (by decide +kernel)
  have k3 := hts (.code Lib.Math.max.name Lib.Math.max.code 2 (some .int)) (by decide +kernel)
  have k4 := hts (.methodLink RJ1 38 Lib.Math.min.name) (by decide +kernel)
  have k5 := hts (.static Lib.Math.min.name) (by decide +kernel)
  have k6 := hts (.code Lib.Math.min.name Lib.Math.min.code 2 (some .int)) (by decide +kernel)
  have hS : va_S A0 s.heap s.heap [] := va_S.rf
  have hP : va_P (gD g) vwCl ([]) s.heap := hP
  have hl := lv_entry ([.ref (gV g p0), .int p1, .int p2, .int p3]) (n := 4) (Nat.le_of_ble_eq_true rfl)
  rw [lg_entry_eq]
  generalize (lg_sl ([.ref (gV g p0), .int p1, .int p2, .int p3]) ++ List.replicate (4 - (lg_sl ([.ref (gV g p0), .int p1, .int p2, .int p3])).length) Slot.unset).toArray = ls at hl ⊢
  have hl : lv_has ls 4 [(0, .ref (gV g p0)), (1, .int p1), (2, .int p2), (3, .int p3)] := hl
  obtain ⟨H, hH⟩ : ∃ z, z = s.heap := ⟨_, rfl⟩
  obtain ⟨locs, hL⟩ : ∃ z : List Loc, z = [] := ⟨_, rfl⟩
  rw [← hL] at hS ⊢
  have hS : va_S A0 s.heap H locs := by rw [hH]; exact hS
  rw [← hH] at hP ⊢
  clear hH hL
  refine lv_iload_n hx hb dJ1_indexOf_4cfef_0 rfl (lv_at hl 1 rfl) ?_
  have hPc : va_P (gD g) vwCl [] H := fun k q h => by simp at h
  refine ro_int (va_runS (As := [.int p1]) (rest := []) ⟨hx, hb, hml, hown, hts⟩ (h_J1_canEncode_9a6ad g p1) (va_cwS 1 hts gJ1_indexOf_4cfef_J1_canEncode_9a6ad rfl rfl rfl (by decide +kernel) ⟨Nat.le_of_ble_eq_true rfl, Nat.le_of_ble_eq_true rfl⟩) ⟨RO_blind, fun U hU hW => ⟨rfl, by rw [hU]; exact hPc, va_K.moved hW.alike hK, hE.call hW hU hS (fun _ h => h.elim)⟩⟩ rfl rfl hl.1 rfl (lv_room (Nat.le_of_ble_eq_true rfl)) dJ1_indexOf_4cfef_1 ⟨Nat.le_of_ble_eq_true rfl, Nat.le_of_ble_eq_true rfl⟩) hS hP (fun r H locs hw hP hS => ?_)
  subst r
  refine lv_if_ne (tgt := 9) hx hb dJ1_indexOf_4cfef_4 (by decide) (fun c4 => ?_) (fun c4 => ?_)
  · have hv := hv.1 c4
    refine lv_iload_n hx hb dJ1_indexOf_4cfef_9 rfl (lv_at hl 2 rfl) ?_
    refine lv_iconst (v := 0) hx hb dJ1_indexOf_4cfef_10 (by decide) ?_
    refine va_mmax hx hb (hml.trans hl.1.symm) hown k0 k1 k2 k3 (Nat.le_of_ble_eq_true rfl) (Nat.le_of_ble_eq_true rfl) (Nat.le_refl _) (Nat.le_refl _) dJ1_indexOf_4cfef_11 ?_
    refine lv_istore_n (lv' := [(2, .int (jmax p2 0)), (0, .ref (gV g p0)), (1, .int p1), (3, .int p3)]) hx hb dJ1_indexOf_4cfef_14 rfl hl (by decide) rfl (fun ls hl => ?_)
    refine lv_iload_n hx hb dJ1_indexOf_4cfef_15 rfl (lv_at hl 3 rfl) ?_
    refine lv_aload_n hx hb dJ1_indexOf_4cfef_16 rfl (lv_at hl 1 rfl) ?_
    have hi := hv.1
    have hv := hv.2
    refine va_tlen (v := nI (lenS.getD p0 0)) hx hb (hE.2.2.1.1.1 _ hi).2.2.2 hS rfl dJ1_indexOf_4cfef_17 ?_
    refine va_mmin hx hb (hml.trans hl.1.symm) hown k4 k5 k2 k6 (Nat.le_of_ble_eq_true rfl) (Nat.le_of_ble_eq_true rfl) (Nat.le_refl _) (Nat.le_refl _) dJ1_indexOf_4cfef_18 ?_
    refine lv_istore_n (lv' := [(3, .int (jmin p3 (nI (lenS.getD p0 0)))), (2, .int (jmax p2 0)), (0, .ref (gV g p0)), (1, .int p1)]) hx hb dJ1_indexOf_4cfef_21 rfl hl (by decide) rfl (fun ls hl => ?_)
    refine lv_iload_n hx hb dJ1_indexOf_4cfef_22 rfl (lv_at hl 1 rfl) ?_
    refine lv_iload_n hx hb dJ1_indexOf_4cfef_23 rfl (lv_at hl 0 rfl) ?_
    refine lv_icmp_lt (tgt := 29) hx hb dJ1_indexOf_4cfef_24 (by decide) (fun c24 => ?_) (fun c24 => ?_)
    · have hv := hv.1 c24
      refine lv_aload_n hx hb dJ1_indexOf_4cfef_29 rfl (lv_at hl 2 rfl) ?_
      refine lv_iload_n hx hb dJ1_indexOf_4cfef_30 rfl (lv_at hl 3 rfl) ?_
      refine lv_iload_n hx hb dJ1_indexOf_4cfef_31 rfl (lv_at hl 1 rfl) ?_
      refine lv_iload_n hx hb dJ1_indexOf_4cfef_32 rfl (lv_at hl 0 rfl) ?_
      have h8 := hv.1
      have hv := hv.2
      have hPc : va_P (gD g) vwCl [] H := fun k q h => by simp at h
      refine ro_int (va_runS (As := [.ref (gV g p0), .int p1, .int (jmax p2 0), .int (jmin p3 (nI (lenS.getD p0 0)))]) (rest := []) ⟨hx, hb, hml, hown, hts⟩ (h_J1_indexOfChar_4cfef g p0 p1 (jmax p2 0) (jmin p3 (nI (lenS.getD p0 0))) h8) (va_cwS 4 hts gJ1_indexOf_4cfef_J1_indexOfChar_4cfef rfl rfl rfl (by decide +kernel) ⟨Nat.le_of_ble_eq_true rfl, Nat.le_of_ble_eq_true rfl⟩) ⟨RO_blind, fun U hU hW => ⟨rfl, by rw [hU]; exact hPc, va_K.moved hW.alike hK, hE.call hW hU hS (fun _ h => h.elim)⟩⟩ rfl rfl hl.1 rfl (lv_room (Nat.le_of_ble_eq_true rfl)) dJ1_indexOf_4cfef_33 ⟨Nat.le_of_ble_eq_true rfl, Nat.le_of_ble_eq_true rfl⟩) hS hP (fun r H locs hw hP hS => ?_)
      subst r
      exact W.iret (v := (ixS p0 p1)) hx hb hr (fun t ht hW => ⟨⟨(ixS p0 p1), (), rfl, hv, trivial⟩, hS.F ht⟩) hS.2.2 dJ1_indexOf_4cfef_36
    · have hv := hv.2 c24
      refine lv_iconst (v := (-1)) hx hb dJ1_indexOf_4cfef_27 (by decide) ?_
      exact W.iret (v := (-1)) hx hb hr (fun t ht hW => ⟨⟨(-1), (), rfl, hv, trivial⟩, hS.F ht⟩) hS.2.2 dJ1_indexOf_4cfef_28
  · have hv := hv.2 c4
    refine lv_iconst (v := (-1)) hx hb dJ1_indexOf_4cfef_7 (by decide) ?_
    exact W.iret (v := (-1)) hx hb hr (fun t ht hW => ⟨⟨(-1), (), rfl, hv, trivial⟩, hS.F ht⟩) hS.2.2 dJ1_indexOf_4cfef_8

set_option maxHeartbeats 4000000 in
set_option maxRecDepth 100000 in
theorem m_J0_indexOf_7cf53 (l : Launch) (h_J0_isLatin1_aae02 : C_J0_isLatin1_aae02 l) (h_J0_length_8abf5 : C_J0_length_8abf5 l) (h_J1_indexOf_4cfef : C_J1_indexOf_4cfef l) (g : CX) (i0 : Nat) (p0 : Int32) (p1 : Int32) (Post : Int32 → Prop) (hv : vc_J0_indexOf_7cf53 i0 p0 p1 Post) : Met l yJ0_indexOf_7cf53 wsJ0_indexOf_7cf53 { frames := 2, cells := 0, slots := 0, locals := 63 } (va_Pc [.ref (gK g i0), .int p0, .int p1] (RO g [])) (va_Qi (fun r (_ : Unit) => Post r) (fun _ _ => True) A0) 0 0 A0 := by
  unfold vc_J0_indexOf_7cf53 at hv
  refine Met.ofW (cc := cJ0_indexOf_7cf53) (maxL := 3) (ret := (some .int)) (by decide) rfl ?_
  intro p e s m args below meth c s₁ B hml hv0
  obtain ⟨rfl, hP, hK, hE⟩ := hv0
  have hx := B.exec
  have hb := B.bytes
  have hr := B.returns
  have hts := atoms_spec (ws := wsJ0_indexOf_7cf53) B.pre
  have hown : s.vm.findClass RJ0 = some m.cls := findClass_of_methodNamed B.named
  have hlocks := B.notSynchronized
  have k0 := hts (.fieldLink RJ0 9 "java/lang/String" "value" "[B") (by decide +kernel)
  have hS : va_S A0 s.heap s.heap [] := va_S.rf
  have hP : va_P (gD g) vwCl ([]) s.heap := hP
  have hl := lv_entry ([.ref (gK g i0), .int p0, .int p1]) (n := 3) (Nat.le_of_ble_eq_true rfl)
  rw [lg_entry_eq]
  generalize (lg_sl ([.ref (gK g i0), .int p0, .int p1]) ++ List.replicate (3 - (lg_sl ([.ref (gK g i0), .int p0, .int p1])).length) Slot.unset).toArray = ls at hl ⊢
  have hl : lv_has ls 3 [(0, .ref (gK g i0)), (1, .int p0), (2, .int p1)] := hl
  obtain ⟨H, hH⟩ : ∃ z, z = s.heap := ⟨_, rfl⟩
  obtain ⟨locs, hL⟩ : ∃ z : List Loc, z = [] := ⟨_, rfl⟩
  rw [← hL] at hS ⊢
  have hS : va_S A0 s.heap H locs := by rw [hH]; exact hS
  rw [← hH] at hP ⊢
  clear hH hL
  refine lv_aload_n hx hb dJ0_indexOf_7cf53_0 rfl (lv_at hl 0 rfl) ?_
  have h8 := hv.1
  have hv := hv.2
  have hPc : va_P (gD g) vwCl [] H := fun k q h => by simp at h
  have hi := hv.1
  have hv := hv.2
  refine ro_int (va_runV (As := []) (rest := []) ⟨hx, hb, hml, hown, hts⟩ (h_J0_isLatin1_aae02 g i0 h8) (cwV 0 hts gJ0_indexOf_7cf53_J0_isLatin1_aae02 rfl rfl rfl (by decide +kernel) ⟨Nat.le_of_ble_eq_true rfl, Nat.le_of_ble_eq_true rfl⟩) ⟨RO_blind, vk_recv hE.2.2.1.1 hi hS, fun U hU hW => ⟨rfl, by rw [hU]; exact hPc, va_K.moved hW.alike hK, hE.call hW hU hS (fun _ h => h.elim)⟩⟩ rfl rfl hl.1 rfl (lv_room (Nat.le_of_ble_eq_true rfl)) dJ0_indexOf_7cf53_1 ⟨Nat.le_of_ble_eq_true rfl, Nat.le_of_ble_eq_true rfl⟩) hS hP (fun r H locs hw hP hS => ?_)
  subst r
  refine lv_if_eq (tgt := 23) hx hb dJ0_indexOf_7cf53_4 (by decide) (fun c4 => ?_) (fun c4 => ?_)
  · have hv := hv.1 c4
    refine lv_aload_n hx hb dJ0_indexOf_7cf53_23 rfl (lv_at hl 0 rfl) ?_
    have hi := hv.1
    have hv := hv.2
    refine vk_getf hx hb (hE.2.2.1.1.1 _ hi).2.2.1 hS hown k0 (fun _ h9 => h9) dJ0_indexOf_7cf53_24 ?_
    refine lv_iload_n hx hb dJ0_indexOf_7cf53_27 rfl (lv_at hl 1 rfl) ?_
    refine lv_iload_n hx hb dJ0_indexOf_7cf53_28 rfl (lv_at hl 2 rfl) ?_
    refine lv_aload_n hx hb dJ0_indexOf_7cf53_29 rfl (lv_at hl 0 rfl) ?_
    have h8 := hv.1
    have hv := hv.2
    have hPc : va_P (gD g) vwCl [] H := fun k q h => by simp at h
    have hi := hv.1
    have hv := hv.2
    refine ro_int (va_runV (As := []) (rest := [.int p1, .int p0, .ref (gV g i0)]) ⟨hx, hb, hml, hown, hts⟩ (h_J0_length_8abf5 g i0 h8) (cwV 0 hts gJ0_indexOf_7cf53_J0_length_8abf5 rfl rfl rfl (by decide +kernel) ⟨Nat.le_of_ble_eq_true rfl, Nat.le_of_ble_eq_true rfl⟩) ⟨RO_blind, vk_recv hE.2.2.1.1 hi hS, fun U hU hW => ⟨rfl, by rw [hU]; exact hPc, va_K.moved hW.alike hK, hE.call hW hU hS (fun _ h => h.elim)⟩⟩ rfl rfl hl.1 rfl (lv_room (Nat.le_of_ble_eq_true rfl)) dJ0_indexOf_7cf53_30 ⟨Nat.le_of_ble_eq_true rfl, Nat.le_of_ble_eq_true rfl⟩) hS hP (fun r H locs hw hP hS => ?_)
    subst r
    exact hv.elim
  · have hv := hv.2 c4
    refine lv_aload_n hx hb dJ0_indexOf_7cf53_7 rfl (lv_at hl 0 rfl) ?_
    have hi := hv.1
    have hv := hv.2
    refine vk_getf hx hb (hE.2.2.1.1.1 _ hi).2.2.1 hS hown k0 (fun _ h9 => h9) dJ0_indexOf_7cf53_8 ?_
    refine lv_iload_n hx hb dJ0_indexOf_7cf53_11 rfl (lv_at hl 1 rfl) ?_
    refine lv_iload_n hx hb dJ0_indexOf_7cf53_12 rfl (lv_at hl 2 rfl) ?_
    refine lv_aload_n hx hb dJ0_indexOf_7cf53_13 rfl (lv_at hl 0 rfl) ?_
    have h8 := hv.1
    have hv := hv.2
    have hPc : va_P (gD g) vwCl [] H := fun k q h => by simp at h
    have hi := hv.1
    have hv := hv.2
    refine ro_int (va_runV (As := []) (rest := [.int p1, .int p0, .ref (gV g i0)]) ⟨hx, hb, hml, hown, hts⟩ (h_J0_length_8abf5 g i0 h8) (cwV 0 hts gJ0_indexOf_7cf53_J0_length_8abf5 rfl rfl rfl (by decide +kernel) ⟨Nat.le_of_ble_eq_true rfl, Nat.le_of_ble_eq_true rfl⟩) ⟨RO_blind, vk_recv hE.2.2.1.1 hi hS, fun U hU hW => ⟨rfl, by rw [hU]; exact hPc, va_K.moved hW.alike hK, hE.call hW hU hS (fun _ h => h.elim)⟩⟩ rfl rfl hl.1 rfl (lv_room (Nat.le_of_ble_eq_true rfl)) dJ0_indexOf_7cf53_14 ⟨Nat.le_of_ble_eq_true rfl, Nat.le_of_ble_eq_true rfl⟩) hS hP (fun r H locs hw hP hS => ?_)
    subst r
    have h8 := hv.1
    have hv := hv.2
    have hPc : va_P (gD g) vwCl [] H := fun k q h => by simp at h
    refine ro_int (va_runS (As := [.ref (gV g i0), .int p0, .int p1, .int (lenI i0)]) (rest := []) ⟨hx, hb, hml, hown, hts⟩ (h_J1_indexOf_4cfef g i0 p0 p1 (lenI i0) h8) (va_cwS 4 hts gJ0_indexOf_7cf53_J1_indexOf_4cfef rfl rfl rfl (by decide +kernel) ⟨Nat.le_of_ble_eq_true rfl, Nat.le_of_ble_eq_true rfl⟩) ⟨RO_blind, fun U hU hW => ⟨rfl, by rw [hU]; exact hPc, va_K.moved hW.alike hK, hE.call hW hU hS (fun _ h => h.elim)⟩⟩ rfl rfl hl.1 rfl (lv_room (Nat.le_of_ble_eq_true rfl)) dJ0_indexOf_7cf53_17 ⟨Nat.le_of_ble_eq_true rfl, Nat.le_of_ble_eq_true rfl⟩) hS hP (fun r H locs hw hP hS => ?_)
    subst r
    refine lv_goto (tgt := 36) hx hb dJ0_indexOf_7cf53_20 (by decide) ?_
    exact W.iret (v := (ixS i0 p0)) hx hb hr (fun t ht hW => ⟨⟨(ixS i0 p0), (), rfl, hv, trivial⟩, hS.F ht⟩) hS.2.2 dJ0_indexOf_7cf53_36

set_option maxHeartbeats 4000000 in
set_option maxRecDepth 100000 in
theorem m_J0_indexOf_0f7a4 (l : Launch) (h_J0_indexOf_7cf53 : C_J0_indexOf_7cf53 l) (g : CX) (i0 : Nat) (p0 : Int32) (Post : Int32 → Prop) (hv : vc_J0_indexOf_0f7a4 i0 p0 Post) : Met l yJ0_indexOf_0f7a4 wsJ0_indexOf_0f7a4 { frames := 3, cells := 0, slots := 0, locals := 85 } (va_Pc [.ref (gK g i0), .int p0] (RO g [])) (va_Qi (fun r (_ : Unit) => Post r) (fun _ _ => True) A0) 0 0 A0 := by
  unfold vc_J0_indexOf_0f7a4 at hv
  refine Met.ofW (cc := cJ0_indexOf_0f7a4) (maxL := 2) (ret := (some .int)) (by decide) rfl ?_
  intro p e s m args below meth c s₁ B hml hv0
  obtain ⟨rfl, hP, hK, hE⟩ := hv0
  have hx := B.exec
  have hb := B.bytes
  have hr := B.returns
  have hts := atoms_spec (ws := wsJ0_indexOf_0f7a4) B.pre
  have hown : s.vm.findClass RJ0 = some m.cls := findClass_of_methodNamed B.named
  have hlocks := B.notSynchronized
  have hS : va_S A0 s.heap s.heap [] := va_S.rf
  have hP : va_P (gD g) vwCl ([]) s.heap := hP
  have hl := lv_entry ([.ref (gK g i0), .int p0]) (n := 2) (Nat.le_of_ble_eq_true rfl)
  rw [lg_entry_eq]
  generalize (lg_sl ([.ref (gK g i0), .int p0]) ++ List.replicate (2 - (lg_sl ([.ref (gK g i0), .int p0])).length) Slot.unset).toArray = ls at hl ⊢
  have hl : lv_has ls 2 [(0, .ref (gK g i0)), (1, .int p0)] := hl
  obtain ⟨H, hH⟩ : ∃ z, z = s.heap := ⟨_, rfl⟩
  obtain ⟨locs, hL⟩ : ∃ z : List Loc, z = [] := ⟨_, rfl⟩
  rw [← hL] at hS ⊢
  have hS : va_S A0 s.heap H locs := by rw [hH]; exact hS
  rw [← hH] at hP ⊢
  clear hH hL
  refine lv_aload_n hx hb dJ0_indexOf_0f7a4_0 rfl (lv_at hl 0 rfl) ?_
  refine lv_iload_n hx hb dJ0_indexOf_0f7a4_1 rfl (lv_at hl 1 rfl) ?_
  refine lv_iconst (v := 0) hx hb dJ0_indexOf_0f7a4_2 (by decide) ?_
  have h8 := hv.1
  have hv := hv.2
  have hPc : va_P (gD g) vwCl [] H := fun k q h => by simp at h
  have hi := hv.1
  have hv := hv.2
  refine ro_int (va_runV (As := [.int p0, .int 0]) (rest := []) ⟨hx, hb, hml, hown, hts⟩ (h_J0_indexOf_7cf53 g i0 p0 0 h8) (cwV 2 hts gJ0_indexOf_0f7a4_J0_indexOf_7cf53 rfl rfl rfl (by decide +kernel) ⟨Nat.le_of_ble_eq_true rfl, Nat.le_of_ble_eq_true rfl⟩) ⟨RO_blind, vk_recv hE.2.2.1.1 hi hS, fun U hU hW => ⟨rfl, by rw [hU]; exact hPc, va_K.moved hW.alike hK, hE.call hW hU hS (fun _ h => h.elim)⟩⟩ rfl rfl hl.1 rfl (lv_room (Nat.le_of_ble_eq_true rfl)) dJ0_indexOf_0f7a4_3 ⟨Nat.le_of_ble_eq_true rfl, Nat.le_of_ble_eq_true rfl⟩) hS hP (fun r H locs hw hP hS => ?_)
  subst r
  exact W.iret (v := (ixS i0 p0)) hx hb hr (fun t ht hW => ⟨⟨(ixS i0 p0), (), rfl, hv, trivial⟩, hS.F ht⟩) hS.2.2 dJ0_indexOf_0f7a4_6

set_option maxHeartbeats 4000000 in
set_option maxRecDepth 100000 in
theorem m_X1_shape (l : Launch)  (g : CX) (p0 : Int32) (Post : Nat → Prop) (hv : vc_X1_shape p0 Post) : Met l yX1_shape wsX1_shape { frames := 0, cells := 0, slots := 0, locals := 0 } (va_Pc [.int p0] (RO g [])) (va_Qr (fun (r : Nat) => Post r) (fun r a _ => a = gK g r) A0) 0 0 A0 := by
  unfold vc_X1_shape at hv
  refine Met.ofW (cc := cX1_shape) (maxL := 1) (ret := (some (.object "java/lang/String"))) (by decide) rfl ?_
  intro p e s m args below meth c s₁ B hml hv0
  obtain ⟨rfl, hP, hK, hE⟩ := hv0
  have hx := B.exec
  have hb := B.bytes
  have hr := B.returns
  have hts := atoms_spec (ws := wsX1_shape) B.pre
  have hown : s.vm.findClass RX1 = some m.cls := findClass_of_methodNamed B.named
  have hlocks := B.notSynchronized
  have hS : va_S A0 s.heap s.heap [] := va_S.rf
  have hP : va_P (gD g) vwCl ([]) s.heap := hP
  have hl := lv_entry ([.int p0]) (n := 1) (Nat.le_of_ble_eq_true rfl)
  rw [lg_entry_eq]
  generalize (lg_sl ([.int p0]) ++ List.replicate (1 - (lg_sl ([.int p0])).length) Slot.unset).toArray = ls at hl ⊢
  have hl : lv_has ls 1 [(0, .int p0)] := hl
  obtain ⟨H, hH⟩ : ∃ z, z = s.heap := ⟨_, rfl⟩
  obtain ⟨locs, hL⟩ : ∃ z : List Loc, z = [] := ⟨_, rfl⟩
  rw [← hL] at hS ⊢
  have hS : va_S A0 s.heap H locs := by rw [hH]; exact hS
  rw [← hH] at hP ⊢
  clear hH hL
  refine lv_iload_n hx hb dX1_shape_0 rfl (lv_at hl 0 rfl) ?_
  by_cases d1_97 : p0 = 97
  · have hv := hv.1 d1_97
    refine lv_lookup (off := 71) (tgt := 72) hx hb dX1_shape_1 (by decide +kernel) (by rw [d1_97]; decide +kernel) (by decide) ?_
    refine va_ldcS hx hb hown hE.2.2.1.2.2.2.2.1 dX1_shape_72 ?_
    exact W.aret (v := .ref (gK g 3)) hx hb hr (Or.inl ⟨_, rfl⟩) (Or.inr ⟨_, rfl⟩) (fun t ht hW => ⟨⟨3, gK g 3, rfl, hv, rfl⟩, hS.F ht⟩) hS.2.2 dX1_shape_74
  · have hv := hv.2 d1_97
    by_cases d1_102 : p0 = 102
    · have hv := hv.1 d1_102
      refine lv_lookup (off := 59) (tgt := 60) hx hb dX1_shape_1 (by decide +kernel) (by rw [d1_102]; decide +kernel) (by decide) ?_
      refine va_ldcS hx hb hown hE.2.2.1.2.1 dX1_shape_60 ?_
      exact W.aret (v := .ref (gK g 0)) hx hb hr (Or.inl ⟨_, rfl⟩) (Or.inr ⟨_, rfl⟩) (fun t ht hW => ⟨⟨0, gK g 0, rfl, hv, rfl⟩, hS.F ht⟩) hS.2.2 dX1_shape_62
    · have hv := hv.2 d1_102
      by_cases d1_107 : p0 = 107
      · have hv := hv.1 d1_107
        refine lv_lookup (off := 68) (tgt := 69) hx hb dX1_shape_1 (by decide +kernel) (by rw [d1_107]; decide +kernel) (by decide) ?_
        refine va_ldcS hx hb hown hE.2.2.1.2.2.2.2.1 dX1_shape_69 ?_
        exact W.aret (v := .ref (gK g 3)) hx hb hr (Or.inl ⟨_, rfl⟩) (Or.inr ⟨_, rfl⟩) (fun t ht hW => ⟨⟨3, gK g 3, rfl, hv, rfl⟩, hS.F ht⟩) hS.2.2 dX1_shape_71
      · have hv := hv.2 d1_107
        by_cases d1_110 : p0 = 110
        · have hv := hv.1 d1_110
          refine lv_lookup (off := 74) (tgt := 75) hx hb dX1_shape_1 (by decide +kernel) (by rw [d1_110]; decide +kernel) (by decide) ?_
          refine va_ldcS hx hb hown hE.2.2.1.2.2.2.2.2.1 dX1_shape_75 ?_
          exact W.aret (v := .ref (gK g 4)) hx hb hr (Or.inl ⟨_, rfl⟩) (Or.inr ⟨_, rfl⟩) (fun t ht hW => ⟨⟨4, gK g 4, rfl, hv, rfl⟩, hS.F ht⟩) hS.2.2 dX1_shape_77
        · have hv := hv.2 d1_110
          by_cases d1_113 : p0 = 113
          · have hv := hv.1 d1_113
            refine lv_lookup (off := 62) (tgt := 63) hx hb dX1_shape_1 (by decide +kernel) (by rw [d1_113]; decide +kernel) (by decide) ?_
            refine va_ldcS hx hb hown hE.2.2.1.2.2.1 dX1_shape_63 ?_
            exact W.aret (v := .ref (gK g 1)) hx hb hr (Or.inl ⟨_, rfl⟩) (Or.inr ⟨_, rfl⟩) (fun t ht hW => ⟨⟨1, gK g 1, rfl, hv, rfl⟩, hS.F ht⟩) hS.2.2 dX1_shape_65
          · have hv := hv.2 d1_113
            by_cases d1_119 : p0 = 119
            · have hv := hv.1 d1_119
              refine lv_lookup (off := 65) (tgt := 66) hx hb dX1_shape_1 (by decide +kernel) (by rw [d1_119]; decide +kernel) (by decide) ?_
              refine va_ldcS hx hb hown hE.2.2.1.2.2.2.1 dX1_shape_66 ?_
              exact W.aret (v := .ref (gK g 2)) hx hb hr (Or.inl ⟨_, rfl⟩) (Or.inr ⟨_, rfl⟩) (fun t ht hW => ⟨⟨2, gK g 2, rfl, hv, rfl⟩, hS.F ht⟩) hS.2.2 dX1_shape_68
            · have hv := hv.2 d1_119
              refine lv_lookup (off := 77) (tgt := 78) hx hb dX1_shape_1 (by decide +kernel) (by first | (rw [lv_osw d1_97 (by decide), lv_osw d1_102 (by decide), lv_osw d1_107 (by decide), lv_osw d1_110 (by decide), lv_osw d1_113 (by decide), lv_osw d1_119 (by decide)]; rfl) | (show Op.lookupswitch.offset [(97, 71), (102, 59), (107, 68), (110, 74), (113, 62), (119, 65)] 77 _ = _; rw [lv_osw d1_97 (by decide), lv_osw d1_102 (by decide), lv_osw d1_107 (by decide), lv_osw d1_110 (by decide), lv_osw d1_113 (by decide), lv_osw d1_119 (by decide)]; rfl)) (by decide) ?_
              refine va_ldcS hx hb hown hE.2.2.1.2.2.2.2.2.2.1 dX1_shape_78 ?_
              exact W.aret (v := .ref (gK g 5)) hx hb hr (Or.inl ⟨_, rfl⟩) (Or.inr ⟨_, rfl⟩) (fun t ht hW => ⟨⟨5, gK g 5, rfl, hv, rfl⟩, hS.F ht⟩) hS.2.2 dX1_shape_80

set_option maxHeartbeats 4000000 in
set_option maxRecDepth 100000 in
theorem m_X1_isOfShape (l : Launch) (h_J0_indexOf_0f7a4 : C_J0_indexOf_0f7a4 l) (g : CX) (p0 : Int32) (p1 : Int32) (Post : Int32 → Prop) (hv : vc_X1_isOfShape p0 p1 Post) : Met l yX1_isOfShape wsX1_isOfShape { frames := 4, cells := 0, slots := 0, locals := 106 } (va_Pc [.int p0, .int p1] (RO g [])) (va_Qi (fun r (_ : Unit) => Post r) (fun _ _ => True) A0) 0 0 A0 := by
  unfold vc_X1_isOfShape at hv
  refine Met.ofW (cc := cX1_isOfShape) (maxL := 2) (ret := (some .boolean)) (by decide) rfl ?_
  intro p e s m args below meth c s₁ B hml hv0
  obtain ⟨rfl, hP, hK, hE⟩ := hv0
  have hx := B.exec
  have hb := B.bytes
  have hr := B.returns
  have hts := atoms_spec (ws := wsX1_isOfShape) B.pre
  have hown : s.vm.findClass RX1 = some m.cls := findClass_of_methodNamed B.named
  have hlocks := B.notSynchronized
  have hS : va_S A0 s.heap s.heap [] := va_S.rf
  have hP : va_P (gD g) vwCl ([]) s.heap := hP
  have hl := lv_entry ([.int p0, .int p1]) (n := 2) (Nat.le_of_ble_eq_true rfl)
  rw [lg_entry_eq]
  generalize (lg_sl ([.int p0, .int p1]) ++ List.replicate (2 - (lg_sl ([.int p0, .int p1])).length) Slot.unset).toArray = ls at hl ⊢
  have hl : lv_has ls 2 [(0, .int p0), (1, .int p1)] := hl
  obtain ⟨H, hH⟩ : ∃ z, z = s.heap := ⟨_, rfl⟩
  obtain ⟨locs, hL⟩ : ∃ z : List Loc, z = [] := ⟨_, rfl⟩
  rw [← hL] at hS ⊢
  have hS : va_S A0 s.heap H locs := by rw [hH]; exact hS
  rw [← hH] at hP ⊢
  clear hH hL
  refine lv_iload_n hx hb dX1_isOfShape_0 rfl (lv_at hl 1 rfl) ?_
  by_cases d1_57 : p1 = 57
  · have hv := hv.1 d1_57
    refine lv_lookup (off := 27) (tgt := 28) hx hb dX1_isOfShape_1 (by decide +kernel) (by rw [d1_57]; decide +kernel) (by decide) ?_
    refine lv_iload_n hx hb dX1_isOfShape_28 rfl (lv_at hl 0 rfl) ?_
    refine lv_bipush (v := 48) hx hb dX1_isOfShape_29 (by decide) ?_
    refine lv_icmp_lt (tgt := 44) hx hb dX1_isOfShape_31 (by decide) (fun c31 => ?_) (fun c31 => ?_)
    · have hv := hv.1 c31
      refine lv_iconst (v := 0) hx hb dX1_isOfShape_44 (by decide) ?_
      exact W.zret (v := 0) hx hb hr rfl (fun t ht hW => ⟨⟨0, (), rfl, hv, trivial⟩, hS.F ht⟩) hS.2.2 dX1_isOfShape_45
    · have hv := hv.2 c31
      refine lv_iload_n hx hb dX1_isOfShape_34 rfl (lv_at hl 0 rfl) ?_
      refine lv_bipush (v := 57) hx hb dX1_isOfShape_35 (by decide) ?_
      refine lv_icmp_gt (tgt := 44) hx hb dX1_isOfShape_37 (by decide) (fun c37 => ?_) (fun c37 => ?_)
      · have hv := hv.1 c37
        refine lv_iconst (v := 0) hx hb dX1_isOfShape_44 (by decide) ?_
        exact W.zret (v := 0) hx hb hr rfl (fun t ht hW => ⟨⟨0, (), rfl, hv, trivial⟩, hS.F ht⟩) hS.2.2 dX1_isOfShape_45
      · have hv := hv.2 c37
        refine lv_iconst (v := 1) hx hb dX1_isOfShape_40 (by decide) ?_
        refine lv_goto (tgt := 45) hx hb dX1_isOfShape_41 (by decide) ?_
        exact W.zret (v := 1) hx hb hr rfl (fun t ht hW => ⟨⟨1, (), rfl, hv, trivial⟩, hS.F ht⟩) hS.2.2 dX1_isOfShape_45
  · have hv := hv.2 d1_57
    by_cases d1_119 : p1 = 119
    · have hv := hv.1 d1_119
      refine lv_lookup (off := 45) (tgt := 46) hx hb dX1_isOfShape_1 (by decide +kernel) (by rw [d1_119]; decide +kernel) (by decide) ?_
      refine va_ldcS hx hb hown hE.2.2.1.2.2.2.2.2.2.2 dX1_isOfShape_46 ?_
      refine lv_iload_n hx hb dX1_isOfShape_48 rfl (lv_at hl 0 rfl) ?_
      have h8 := hv.1
      have hv := hv.2
      have hPc : va_P (gD g) vwCl [] H := fun k q h => by simp at h
      have hi := hv.1
      have hv := hv.2
      refine ro_int (va_runV (As := [.int p0]) (rest := []) ⟨hx, hb, hml, hown, hts⟩ (h_J0_indexOf_0f7a4 g 6 p0 h8) (cwV 1 hts gX1_isOfShape_J0_indexOf_0f7a4 rfl rfl rfl (by decide +kernel) ⟨Nat.le_of_ble_eq_true rfl, Nat.le_of_ble_eq_true rfl⟩) ⟨RO_blind, vk_recv hE.2.2.1.1 hi hS, fun U hU hW => ⟨rfl, by rw [hU]; exact hPc, va_K.moved hW.alike hK, hE.call hW hU hS (fun _ h => h.elim)⟩⟩ rfl rfl hl.1 rfl (lv_room (Nat.le_of_ble_eq_true rfl)) dX1_isOfShape_49 ⟨Nat.le_of_ble_eq_true rfl, Nat.le_of_ble_eq_true rfl⟩) hS hP (fun r H locs hw hP hS => ?_)
      subst r
      refine lv_if_lt (tgt := 59) hx hb dX1_isOfShape_52 (by decide) (fun c52 => ?_) (fun c52 => ?_)
      · have hv := hv.1 c52
        refine lv_iconst (v := 0) hx hb dX1_isOfShape_59 (by decide) ?_
        exact W.zret (v := 0) hx hb hr rfl (fun t ht hW => ⟨⟨0, (), rfl, hv, trivial⟩, hS.F ht⟩) hS.2.2 dX1_isOfShape_60
      · have hv := hv.2 c52
        refine lv_iconst (v := 1) hx hb dX1_isOfShape_55 (by decide) ?_
        refine lv_goto (tgt := 60) hx hb dX1_isOfShape_56 (by decide) ?_
        exact W.zret (v := 1) hx hb hr rfl (fun t ht hW => ⟨⟨1, (), rfl, hv, trivial⟩, hS.F ht⟩) hS.2.2 dX1_isOfShape_60
    · have hv := hv.2 d1_119
      refine lv_lookup (off := 60) (tgt := 61) hx hb dX1_isOfShape_1 (by decide +kernel) (by first | (rw [lv_osw d1_57 (by decide), lv_osw d1_119 (by decide)]; rfl) | (show Op.lookupswitch.offset [(57, 27), (119, 45)] 60 _ = _; rw [lv_osw d1_57 (by decide), lv_osw d1_119 (by decide)]; rfl)) (by decide) ?_
      refine lv_iload_n hx hb dX1_isOfShape_61 rfl (lv_at hl 0 rfl) ?_
      refine lv_iload_n hx hb dX1_isOfShape_62 rfl (lv_at hl 1 rfl) ?_
      refine lv_icmp_ne (tgt := 70) hx hb dX1_isOfShape_63 (by decide) (fun c63 => ?_) (fun c63 => ?_)
      · have hv := hv.1 c63
        refine lv_iconst (v := 0) hx hb dX1_isOfShape_70 (by decide) ?_
        exact W.zret (v := 0) hx hb hr rfl (fun t ht hW => ⟨⟨0, (), rfl, hv, trivial⟩, hS.F ht⟩) hS.2.2 dX1_isOfShape_71
      · have hv := hv.2 c63
        refine lv_iconst (v := 1) hx hb dX1_isOfShape_66 (by decide) ?_
        refine lv_goto (tgt := 71) hx hb dX1_isOfShape_67 (by decide) ?_
        exact W.zret (v := 1) hx hb hr rfl (fun t ht hW => ⟨⟨1, (), rfl, hv, trivial⟩, hS.F ht⟩) hS.2.2 dX1_isOfShape_71

