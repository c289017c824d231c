set_option maxHeartbeats 4000000 in
set_option maxRecDepth 100000 in
theorem m_J0_coder_7d493 (l : Launch)  (g : CX) (i0 : Nat)  (Post : Int32 → Prop) (hv : vc_J0_coder_7d493 i0 Post) : Met l yJ0_coder_7d493 wsJ0_coder_7d493 { frames := 0, cells := 0, slots := 0, locals := 0 } (va_Pc [.ref (gK g i0)] (RO g [])) (va_Qi (fun r (_ : Unit) => Post r) (fun _ _ => True) A0) 0 0 A0 := by
  unfold vc_J0_coder_7d493 at hv
  refine Met.ofW (cc := cJ0_coder_7d493) (maxL := 1) (ret := (some .byte)) (by decide) rfl ?_
  intro p e s m args below meth c s₁ B hml hv0
  obtain ⟨rfl, hP, hK, hE⟩ := hv0
  have hx := B.exec
  have hb := B.bytes
  have hr := B.returns
  have hts := atoms_spec (ws := wsJ0_coder_7d493) B.pre
  have hown : s.vm.findClass RJ0 = some m.cls := findClass_of_methodNamed B.named
  have hlocks := B.notSynchronized
  have k0 := hts (.fieldLink RJ0 38 "java/lang/String" "COMPACT_STRINGS" "Z") (by decide +kernel)
  have k1 := hts (.fieldLink RJ0 15 "java/lang/String" "coder" "B") (by decide +kernel)
  have hS : va_S A0 s.heap s.heap [] := va_S.rf
  have hP : va_P (gD g) vwCl ([]) s.heap := hP
  have hl := lv_entry ([.ref (gK g i0)]) (n := 1) (Nat.le_of_ble_eq_true rfl)
  rw [lg_entry_eq]
  generalize (lg_sl ([.ref (gK g i0)]) ++ List.replicate (1 - (lg_sl ([.ref (gK g i0)])).length) Slot.unset).toArray = ls at hl ⊢
  have hl : lv_has ls 1 [(0, .ref (gK g i0))] := hl
  obtain ⟨H, hH⟩ : ∃ z, z = s.heap := ⟨_, rfl⟩
  obtain ⟨locs, hL⟩ : ∃ z : List Loc, z = [] := ⟨_, rfl⟩
  rw [← hL] at hS ⊢
  have hS : va_S A0 s.heap H locs := by rw [hH]; exact hS
  rw [← hH] at hP ⊢
  clear hH hL
  refine va_gets hx hb hE.2.2.2.1 hS hown k0 (fun _ h9 => h9) dJ0_coder_7d493_0 ?_
  refine lv_if_eq (tgt := 13) hx hb dJ0_coder_7d493_3 (by decide) (fun c3 => ?_) (fun c3 => ?_)
  · exact absurd c3 (by decide)
  · refine lv_aload_n hx hb dJ0_coder_7d493_6 rfl (lv_at hl 0 rfl) ?_
    have hi := hv.1
    have hv := hv.2
    refine vk_getf hx hb (hE.2.2.1.1.1 _ hi).2.1 hS hown k1 (fun _ h9 => h9) dJ0_coder_7d493_7 ?_
    refine lv_goto (tgt := 14) hx hb dJ0_coder_7d493_10 (by decide) ?_
    exact W.zret (v := 0) hx hb hr rfl (fun t ht hW => ⟨⟨0, (), rfl, hv, trivial⟩, hS.F ht⟩) hS.2.2 dJ0_coder_7d493_14

set_option maxHeartbeats 4000000 in
set_option maxRecDepth 100000 in
theorem m_J0_length_8abf5 (l : Launch) (h_J0_coder_7d493 : C_J0_coder_7d493 l) (g : CX) (i0 : Nat)  (Post : Int32 → Prop) (hv : vc_J0_length_8abf5 i0 Post) : Met l yJ0_length_8abf5 wsJ0_length_8abf5 { frames := 1, cells := 0, slots := 0, locals := 20 } (va_Pc [.ref (gK g i0)] (RO g [])) (va_Qi (fun r (_ : Unit) => Post r) (fun _ _ => True) A0) 0 0 A0 := by
  unfold vc_J0_length_8abf5 at hv
  refine Met.ofW (cc := cJ0_length_8abf5) (maxL := 1) (ret := (some .int)) (by decide) rfl ?_
  intro p e s m args below meth c s₁ B hml hv0
  obtain ⟨rfl, hP, hK, hE⟩ := hv0
  have hx := B.exec
  have hb := B.bytes
  have hr := B.returns
  have hts := atoms_spec (ws := wsJ0_length_8abf5) B.pre
  have hown : s.vm.findClass RJ0 = some m.cls := findClass_of_methodNamed B.named
  have hlocks := B.notSynchronized
  have k0 := hts (.fieldLink RJ0 9 "java/lang/String" "value" "[B") (by decide +kernel)
  have hS : va_S A0 s.heap s.heap [] := va_S.rf
  have hP : va_P (gD g) vwCl ([]) s.heap := hP
  have hl := lv_entry ([.ref (gK g i0)]) (n := 1) (Nat.le_of_ble_eq_true rfl)
  rw [lg_entry_eq]
  generalize (lg_sl ([.ref (gK g i0)]) ++ List.replicate (1 - (lg_sl ([.ref (gK g i0)])).length) Slot.unset).toArray = ls at hl ⊢
  have hl : lv_has ls 1 [(0, .ref (gK g i0))] := hl
  obtain ⟨H, hH⟩ : ∃ z, z = s.heap := ⟨_, rfl⟩
  obtain ⟨locs, hL⟩ : ∃ z : List Loc, z = [] := ⟨_, rfl⟩
  rw [← hL] at hS ⊢
  have hS : va_S A0 s.heap H locs := by rw [hH]; exact hS
  rw [← hH] at hP ⊢
  clear hH hL
  refine lv_aload_n hx hb dJ0_length_8abf5_0 rfl (lv_at hl 0 rfl) ?_
  have hi := hv.1
  have hv := hv.2
  refine vk_getf hx hb (hE.2.2.1.1.1 _ hi).2.2.1 hS hown k0 (fun _ h9 => h9) dJ0_length_8abf5_1 ?_
  have hi := hv.1
  have hv := hv.2
  refine va_tlen (v := nI (lenS.getD i0 0)) hx hb (hE.2.2.1.1.1 _ hi).2.2.2 hS rfl dJ0_length_8abf5_4 ?_
  refine lv_aload_n hx hb dJ0_length_8abf5_5 rfl (lv_at hl 0 rfl) ?_
  have h8 := hv.1
  have hv := hv.2
  have hPc : va_P (gD g) vwCl [] H := fun k q h => by simp at h
  have hi := hv.1
  have hv := hv.2
  refine ro_int (va_runV (As := []) (rest := [.int (nI (lenS.getD i0 0))]) ⟨hx, hb, hml, hown, hts⟩ (h_J0_coder_7d493 g i0 h8) (cwV 0 hts gJ0_length_8abf5_J0_coder_7d493 rfl rfl rfl (by decide +kernel) ⟨Nat.le_of_ble_eq_true rfl, Nat.le_of_ble_eq_true rfl⟩) ⟨RO_blind, vk_recv hE.2.2.1.1 hi hS, fun U hU hW => ⟨rfl, by rw [hU]; exact hPc, va_K.moved hW.alike hK, hE.call hW hU hS (fun _ h => h.elim)⟩⟩ rfl rfl hl.1 rfl (lv_room (Nat.le_of_ble_eq_true rfl)) dJ0_length_8abf5_6 ⟨Nat.le_of_ble_eq_true rfl, Nat.le_of_ble_eq_true rfl⟩) hS hP (fun r H locs hw hP hS => ?_)
  subst r
  refine lv_ishr hx hb dJ0_length_8abf5_9 ?_
  exact W.iret (v := ((nI (lenS.getD i0 0)) >>> ((0) &&& 31))) hx hb hr (fun t ht hW => ⟨⟨((nI (lenS.getD i0 0)) >>> ((0) &&& 31)), (), rfl, hv, trivial⟩, hS.F ht⟩) hS.2.2 dJ0_length_8abf5_10

set_option maxHeartbeats 4000000 in
set_option maxRecDepth 100000 in
theorem m_J0_isLatin1_aae02 (l : Launch)  (g : CX) (i0 : Nat)  (Post : Int32 → Prop) (hv : vc_J0_isLatin1_aae02 i0 Post) : Met l yJ0_isLatin1_aae02 wsJ0_isLatin1_aae02 { frames := 0, cells := 0, slots := 0, locals := 0 } (va_Pc [.ref (gK g i0)] (RO g [])) (va_Qi (fun r (_ : Unit) => Post r) (fun _ _ => True) A0) 0 0 A0 := by
  unfold vc_J0_isLatin1_aae02 at hv
  refine Met.ofW (cc := cJ0_isLatin1_aae02) (maxL := 1) (ret := (some .boolean)) (by decide) rfl ?_
  intro p e s m args below meth c s₁ B hml hv0
  obtain ⟨rfl, hP, hK, hE⟩ := hv0
  have hx := B.exec
  have hb := B.bytes
  have hr := B.returns
  have hts := atoms_spec (ws := wsJ0_isLatin1_aae02) B.pre
  have hown : s.vm.findClass RJ0 = some m.cls := findClass_of_methodNamed B.named
  have hlocks := B.notSynchronized
  have k0 := hts (.fieldLink RJ0 38 "java/lang/String" "COMPACT_STRINGS" "Z") (by decide +kernel)
  have k1 := hts (.fieldLink RJ0 15 "java/lang/String" "coder" "B") (by decide +kernel)
  have hS : va_S A0 s.heap s.heap [] := va_S.rf
  have hP : va_P (gD g) vwCl ([]) s.heap := hP
  have hl := lv_entry ([.ref (gK g i0)]) (n := 1) (Nat.le_of_ble_eq_true rfl)
  rw [lg_entry_eq]
  generalize (lg_sl ([.ref (gK g i0)]) ++ List.replicate (1 - (lg_sl ([.ref (gK g i0)])).length) Slot.unset).toArray = ls at hl ⊢
  have hl : lv_has ls 1 [(0, .ref (gK g i0))] := hl
  obtain ⟨H, hH⟩ : ∃ z, z = s.heap := ⟨_, rfl⟩
  obtain ⟨locs, hL⟩ : ∃ z : List Loc, z = [] := ⟨_, rfl⟩
  rw [← hL] at hS ⊢
  have hS : va_S A0 s.heap H locs := by rw [hH]; exact hS
  rw [← hH] at hP ⊢
  clear hH hL
  refine va_gets hx hb hE.2.2.2.1 hS hown k0 (fun _ h9 => h9) dJ0_isLatin1_aae02_0 ?_
  refine lv_if_eq (tgt := 17) hx hb dJ0_isLatin1_aae02_3 (by decide) (fun c3 => ?_) (fun c3 => ?_)
  · exact absurd c3 (by decide)
  · refine lv_aload_n hx hb dJ0_isLatin1_aae02_6 rfl (lv_at hl 0 rfl) ?_
    have hi := hv.1
    have hv := hv.2
    refine vk_getf hx hb (hE.2.2.1.1.1 _ hi).2.1 hS hown k1 (fun _ h9 => h9) dJ0_isLatin1_aae02_7 ?_
    refine lv_if_ne (tgt := 17) hx hb dJ0_isLatin1_aae02_10 (by decide) (fun c10 => ?_) (fun c10 => ?_)
    · exact (c10 (by decide)).elim
    · refine lv_iconst (v := 1) hx hb dJ0_isLatin1_aae02_13 (by decide) ?_
      refine lv_goto (tgt := 18) hx hb dJ0_isLatin1_aae02_14 (by decide) ?_
      exact W.zret (v := 1) hx hb hr rfl (fun t ht hW => ⟨⟨1, (), rfl, hv, trivial⟩, hS.F ht⟩) hS.2.2 dJ0_isLatin1_aae02_18

set_option maxHeartbeats 4000000 in
set_option maxRecDepth 100000 in
theorem m_J0_isEmpty_aae02 (l : Launch)  (g : CX) (i0 : Nat)  (Post : Int32 → Prop) (hv : vc_J0_isEmpty_aae02 i0 Post) : Met l yJ0_isEmpty_aae02 wsJ0_isEmpty_aae02 { frames := 0, cells := 0, slots := 0, locals := 0 } (va_Pc [.ref (gK g i0)] (RO g [])) (va_Qi (fun r (_ : Unit) => Post r) (fun _ _ => True) A0) 0 0 A0 := by
  unfold vc_J0_isEmpty_aae02 at hv
  refine Met.ofW (cc := cJ0_isEmpty_aae02) (maxL := 1) (ret := (some .boolean)) (by decide) rfl ?_
  intro p e s m args below meth c s₁ B hml hv0
  obtain ⟨rfl, hP, hK, hE⟩ := hv0
  have hx := B.exec
  have hb := B.bytes
  have hr := B.returns
  have hts := atoms_spec (ws := wsJ0_isEmpty_aae02) B.pre
  have hown : s.vm.findClass RJ0 = some m.cls := findClass_of_methodNamed B.named
  have hlocks := B.notSynchronized
  have k0 := hts (.fieldLink RJ0 9 "java/lang/String" "value" "[B") (by decide +kernel)
  have hS : va_S A0 s.heap s.heap [] := va_S.rf
  have hP : va_P (gD g) vwCl ([]) s.heap := hP
  have hl := lv_entry ([.ref (gK g i0)]) (n := 1) (Nat.le_of_ble_eq_true rfl)
  rw [lg_entry_eq]
  generalize (lg_sl ([.ref (gK g i0)]) ++ List.replicate (1 - (lg_sl ([.ref (gK g i0)])).length) Slot.unset).toArray = ls at hl ⊢
  have hl : lv_has ls 1 [(0, .ref (gK g i0))] := hl
  obtain ⟨H, hH⟩ : ∃ z, z = s.heap := ⟨_, rfl⟩
  obtain ⟨locs, hL⟩ : ∃ z : List Loc, z = [] := ⟨_, rfl⟩
  rw [← hL] at hS ⊢
  have hS : va_S A0 s.heap H locs := by rw [hH]; exact hS
  rw [← hH] at hP ⊢
  clear hH hL
  refine lv_aload_n hx hb dJ0_isEmpty_aae02_0 rfl (lv_at hl 0 rfl) ?_
  have hi := hv.1
  have hv := hv.2
  refine vk_getf hx hb (hE.2.2.1.1.1 _ hi).2.2.1 hS hown k0 (fun _ h9 => h9) dJ0_isEmpty_aae02_1 ?_
  have hi := hv.1
  have hv := hv.2
  refine va_tlen (v := nI (lenS.getD i0 0)) hx hb (hE.2.2.1.1.1 _ hi).2.2.2 hS rfl dJ0_isEmpty_aae02_4 ?_
  refine lv_if_ne (tgt := 12) hx hb dJ0_isEmpty_aae02_5 (by decide) (fun c5 => ?_) (fun c5 => ?_)
  · have hv := hv.1 c5
    refine lv_iconst (v := 0) hx hb dJ0_isEmpty_aae02_12 (by decide) ?_
    exact W.zret (v := 0) hx hb hr rfl (fun t ht hW => ⟨⟨0, (), rfl, hv, trivial⟩, hS.F ht⟩) hS.2.2 dJ0_isEmpty_aae02_13
  · have hv := hv.2 c5
    refine lv_iconst (v := 1) hx hb dJ0_isEmpty_aae02_8 (by decide) ?_
    refine lv_goto (tgt := 13) hx hb dJ0_isEmpty_aae02_9 (by decide) ?_
    exact W.zret (v := 1) hx hb hr rfl (fun t ht hW => ⟨⟨1, (), rfl, hv, trivial⟩, hS.F ht⟩) hS.2.2 dJ0_isEmpty_aae02_13

set_option maxHeartbeats 4000000 in
set_option maxRecDepth 100000 in
theorem m_J3_checkIndex_n (l : Launch)  (g : CX) (p0 : Int32) (p1 : Int32) (Post : Int32 → Prop) (hv : vc_J3_checkIndex_n p0 p1 Post) : Met l yJ3_checkIndex_8e157 wsJ3_checkIndex_8e157 { frames := 0, cells := 0, slots := 0, locals := 0 } (va_Pc [.int p0, .int p1, .null] (RO g [])) (va_Qi (fun r (_ : Unit) => Post r) (fun _ _ => True) A0) 0 0 A0 := by
  unfold vc_J3_checkIndex_n at hv
  refine Met.ofW (cc := cJ3_checkIndex_8e157) (maxL := 3) (ret := (some .int)) (by decide) rfl ?_
  intro p e s m args below meth c s₁ B hml hv0
  obtain ⟨rfl, hP, hK, hE⟩ := hv0
  have hx := B.exec
  have hb := B.bytes
  have hr := B.returns
  have hts := atoms_spec (ws := wsJ3_checkIndex_8e157) B.pre
  have hown : s.vm.findClass RJ3 = some m.cls := findClass_of_methodNamed B.named
  have hlocks := B.notSynchronized
  have hS : va_S A0 s.heap s.heap [] := va_S.rf
  have hP : va_P (gD g) vwCl ([]) s.heap := hP
  have hl := lv_entry ([.int p0, .int p1, .null]) (n := 3) (Nat.le_of_ble_eq_true rfl)
  rw [lg_entry_eq]
  generalize (lg_sl ([.int p0, .int p1, .null]) ++ List.replicate (3 - (lg_sl ([.int p0, .int p1, .null])).length) Slot.unset).toArray = ls at hl ⊢
  have hl : lv_has ls 3 [(0, .int p0), (1, .int p1), (2, .null)] := hl
  obtain ⟨H, hH⟩ : ∃ z, z = s.heap := ⟨_, rfl⟩
  obtain ⟨locs, hL⟩ : ∃ z : List Loc, z = [] := ⟨_, rfl⟩
  rw [← hL] at hS ⊢
  have hS : va_S A0 s.heap H locs := by rw [hH]; exact hS
  rw [← hH] at hP ⊢
  clear hH hL
  refine lv_iload_n hx hb dJ3_checkIndex_8e157_0 rfl (lv_at hl 0 rfl) ?_
  refine lv_if_lt (tgt := 9) hx hb dJ3_checkIndex_8e157_1 (by decide) (fun c1 => ?_) (fun c1 => ?_)
  · have hv := hv.1 c1
    refine lv_aload_nN hx hb dJ3_checkIndex_8e157_9 rfl (lv_at hl 2 rfl) ?_
    refine lv_iload_n hx hb dJ3_checkIndex_8e157_10 rfl (lv_at hl 0 rfl) ?_
    refine lv_iload_n hx hb dJ3_checkIndex_8e157_11 rfl (lv_at hl 1 rfl) ?_
    exact hv.elim
  · have hv := hv.2 c1
    refine lv_iload_n hx hb dJ3_checkIndex_8e157_4 rfl (lv_at hl 0 rfl) ?_
    refine lv_iload_n hx hb dJ3_checkIndex_8e157_5 rfl (lv_at hl 1 rfl) ?_
    refine lv_icmp_lt (tgt := 16) hx hb dJ3_checkIndex_8e157_6 (by decide) (fun c6 => ?_) (fun c6 => ?_)
    · have hv := hv.1 c6
      refine lv_iload_n hx hb dJ3_checkIndex_8e157_16 rfl (lv_at hl 0 rfl) ?_
      exact W.iret (v := p0) hx hb hr (fun t ht hW => ⟨⟨p0, (), rfl, hv, trivial⟩, hS.F ht⟩) hS.2.2 dJ3_checkIndex_8e157_17
    · have hv := hv.2 c6
      refine lv_aload_nN hx hb dJ3_checkIndex_8e157_9 rfl (lv_at hl 2 rfl) ?_
      refine lv_iload_n hx hb dJ3_checkIndex_8e157_10 rfl (lv_at hl 0 rfl) ?_
      refine lv_iload_n hx hb dJ3_checkIndex_8e157_11 rfl (lv_at hl 1 rfl) ?_
      exact hv.elim

set_option maxHeartbeats 4000000 in
set_option maxRecDepth 100000 in
theorem m_J3_checkIndex_r (l : Launch)  (g : CX) (p0 : Int32) (p1 : Int32) (p2 : Nat) (Post : Int32 → Prop) (hv : vc_J3_checkIndex_r p0 p1 p2 Post) : Met l yJ3_checkIndex_8e157 wsJ3_checkIndex_8e157 { frames := 0, cells := 0, slots := 0, locals := 0 } (va_Pc [.int p0, .int p1, .ref p2] (RO g [])) (va_Qi (fun r (_ : Unit) => Post r) (fun _ _ => True) A0) 0 0 A0 := by
  unfold vc_J3_checkIndex_r at hv
  refine Met.ofW (cc := cJ3_checkIndex_8e157) (maxL := 3) (ret := (some .int)) (by decide) rfl ?_
  intro p e s m args below meth c s₁ B hml hv0
  obtain ⟨rfl, hP, hK, hE⟩ := hv0
  have hx := B.exec
  have hb := B.bytes
  have hr := B.returns
  have hts := atoms_spec (ws := wsJ3_checkIndex_8e157) B.pre
  have hown : s.vm.findClass RJ3 = some m.cls := findClass_of_methodNamed B.named
  have hlocks := B.notSynchronized
  have hS : va_S A0 s.heap s.heap [] := va_S.rf
  have hP : va_P (gD g) vwCl ([]) s.heap := hP
  have hl := lv_entry ([.int p0, .int p1, .ref p2]) (n := 3) (Nat.le_of_ble_eq_true rfl)
  rw [lg_entry_eq]
  generalize (lg_sl ([.int p0, .int p1, .ref p2]) ++ List.replicate (3 - (lg_sl ([.int p0, .int p1, .ref p2])).length) Slot.unset).toArray = ls at hl ⊢
  have hl : lv_has ls 3 [(0, .int p0), (1, .int p1), (2, .ref p2)] := hl
  obtain ⟨H, hH⟩ : ∃ z, z = s.heap := ⟨_, rfl⟩
  obtain ⟨locs, hL⟩ : ∃ z : List Loc, z = [] := ⟨_, rfl⟩
  rw [← hL] at hS ⊢
  have hS : va_S A0 s.heap H locs := by rw [hH]; exact hS
  rw [← hH] at hP ⊢
  clear hH hL
  refine lv_iload_n hx hb dJ3_checkIndex_8e157_0 rfl (lv_at hl 0 rfl) ?_
  refine lv_if_lt (tgt := 9) hx hb dJ3_checkIndex_8e157_1 (by decide) (fun c1 => ?_) (fun c1 => ?_)
  · have hv := hv.1 c1
    refine lv_aload_n hx hb dJ3_checkIndex_8e157_9 rfl (lv_at hl 2 rfl) ?_
    refine lv_iload_n hx hb dJ3_checkIndex_8e157_10 rfl (lv_at hl 0 rfl) ?_
    refine lv_iload_n hx hb dJ3_checkIndex_8e157_11 rfl (lv_at hl 1 rfl) ?_
    exact hv.elim
  · have hv := hv.2 c1
    refine lv_iload_n hx hb dJ3_checkIndex_8e157_4 rfl (lv_at hl 0 rfl) ?_
    refine lv_iload_n hx hb dJ3_checkIndex_8e157_5 rfl (lv_at hl 1 rfl) ?_
    refine lv_icmp_lt (tgt := 16) hx hb dJ3_checkIndex_8e157_6 (by decide) (fun c6 => ?_) (fun c6 => ?_)
    · have hv := hv.1 c6
      refine lv_iload_n hx hb dJ3_checkIndex_8e157_16 rfl (lv_at hl 0 rfl) ?_
      exact W.iret (v := p0) hx hb hr (fun t ht hW => ⟨⟨p0, (), rfl, hv, trivial⟩, hS.F ht⟩) hS.2.2 dJ3_checkIndex_8e157_17
    · have hv := hv.2 c6
      refine lv_aload_n hx hb dJ3_checkIndex_8e157_9 rfl (lv_at hl 2 rfl) ?_
      refine lv_iload_n hx hb dJ3_checkIndex_8e157_10 rfl (lv_at hl 0 rfl) ?_
      refine lv_iload_n hx hb dJ3_checkIndex_8e157_11 rfl (lv_at hl 1 rfl) ?_
      exact hv.elim

set_option maxHeartbeats 4000000 in
set_option maxRecDepth 100000 in
theorem m_J0_checkIndex_df160 (l : Launch) (h_J3_checkIndex_n : C_J3_checkIndex_n l) (h_J3_checkIndex_r : C_J3_checkIndex_r l) (g : CX) (p0 : Int32) (p1 : Int32) (Post : Prop) (hv : vc_J0_checkIndex_df160 p0 p1 Post) : Met l yJ0_checkIndex_df160 wsJ0_checkIndex_df160 { frames := 1, cells := 0, slots := 0, locals := 22 } (va_Pc [.int p0, .int p1] (RO g [])) (va_Qv (fun (_ : Unit) => Post) (fun _ _ => True) A0) 0 0 A0 := by
  unfold vc_J0_checkIndex_df160 at hv
  refine Met.ofW (cc := cJ0_checkIndex_df160) (maxL := 2) (ret := none) (by decide) rfl ?_
  intro p e s m args below meth c s₁ B hml hv0
  obtain ⟨rfl, hP, hK, hE⟩ := hv0
  have hx := B.exec
  have hb := B.bytes
  have hr := B.returns
  have hts := atoms_spec (ws := wsJ0_checkIndex_df160) B.pre
  have hown : s.vm.findClass RJ0 = some m.cls := findClass_of_methodNamed B.named
  have hlocks := B.notSynchronized
  have k0 := hts (.fieldLink RJ0 1053 "jdk/internal/util/Preconditions" "SIOOBE_FORMATTER" "Ljava/util/function/BiFunction;") (by decide +kernel)
  have hS : va_S A0 s.heap s.heap [] := va_S.rf
  have hP : va_P (gD g) vwCl ([]) s.heap := hP
  have hl := lv_entry ([.int p0, .int p1]) (n := 2) (Nat.le_of_ble_eq_true rfl)
  rw [lg_entry_eq]
  generalize (lg_sl ([.int p0, .int p1]) ++ List.replicate (2 - (lg_sl ([.int p0, .int p1])).length) Slot.unset).toArray = ls at hl ⊢
  have hl : lv_has ls 2 [(0, .int p0), (1, .int p1)] := hl
  obtain ⟨H, hH⟩ : ∃ z, z = s.heap := ⟨_, rfl⟩
  obtain ⟨locs, hL⟩ : ∃ z : List Loc, z = [] := ⟨_, rfl⟩
  rw [← hL] at hS ⊢
  have hS : va_S A0 s.heap H locs := by rw [hH]; exact hS
  rw [← hH] at hP ⊢
  clear hH hL
  refine lv_iload_n hx hb dJ0_checkIndex_df160_0 rfl (lv_at hl 0 rfl) ?_
  refine lv_iload_n hx hb dJ0_checkIndex_df160_1 rfl (lv_at hl 1 rfl) ?_
  rcases hE.2.2.2.2 with hz | ⟨t0, hz⟩
  · refine va_gets hx hb hz hS hown k0 (fun _ h9 => h9) dJ0_checkIndex_df160_2 ?_
    have h8 := hv.1
    have hv := hv.2
    have hPc : va_P (gD g) vwCl [] H := fun k q h => by simp at h
    refine ro_int (va_runS (As := [.int p0, .int p1, .null]) (rest := []) ⟨hx, hb, hml, hown, hts⟩ (h_J3_checkIndex_n g p0 p1 h8) (va_cwS 3 hts gJ0_checkIndex_df160_J3_checkIndex_8e157 rfl rfl rfl (by decide +kernel) ⟨Nat.le_of_ble_eq_true rfl, Nat.le_of_ble_eq_true rfl⟩) ⟨RO_blind, fun U hU hW => ⟨rfl, by rw [hU]; exact hPc, va_K.moved hW.alike hK, hE.call hW hU hS (fun _ h => h.elim)⟩⟩ rfl rfl hl.1 rfl (lv_room (Nat.le_of_ble_eq_true rfl)) dJ0_checkIndex_df160_5 ⟨Nat.le_of_ble_eq_true rfl, Nat.le_of_ble_eq_true rfl⟩) hS hP (fun r H locs hw hP hS => ?_)
    subst r
    refine lv_pop hx hb dJ0_checkIndex_df160_8 rfl ?_
    exact W.vret hx hb hr (fun t ht hW => ⟨⟨(), rfl, hv, trivial⟩, hS.F ht⟩) hS.2.2 dJ0_checkIndex_df160_9
  · refine va_gets hx hb hz hS hown k0 (fun _ h9 => h9) dJ0_checkIndex_df160_2 ?_
    have h8 := hv.1
    have hv := hv.2
    have hPc : va_P (gD g) vwCl [] H := fun k q h => by simp at h
    refine ro_int (va_runS (As := [.int p0, .int p1, .ref t0]) (rest := []) ⟨hx, hb, hml, hown, hts⟩ (h_J3_checkIndex_r g p0 p1 t0 h8) (va_cwS 3 hts gJ0_checkIndex_df160_J3_checkIndex_8e157 rfl rfl rfl (by decide +kernel) ⟨Nat.le_of_ble_eq_true rfl, Nat.le_of_ble_eq_true rfl⟩) ⟨RO_blind, fun U hU hW => ⟨rfl, by rw [hU]; exact hPc, va_K.moved hW.alike hK, hE.call hW hU hS (fun _ h => h.elim)⟩⟩ rfl rfl hl.1 rfl (lv_room (Nat.le_of_ble_eq_true rfl)) dJ0_checkIndex_df160_5 ⟨Nat.le_of_ble_eq_true rfl, Nat.le_of_ble_eq_true rfl⟩) hS hP (fun r H locs hw hP hS => ?_)
    subst r
    refine lv_pop hx hb dJ0_checkIndex_df160_8 rfl ?_
    exact W.vret hx hb hr (fun t ht hW => ⟨⟨(), rfl, hv, trivial⟩, hS.F ht⟩) hS.2.2 dJ0_checkIndex_df160_9

set_option maxHeartbeats 4000000 in
set_option maxRecDepth 100000 in
theorem m_J1_charAt_3b067 (l : Launch) (h_J0_checkIndex_df160 : C_J0_checkIndex_df160 l) (g : CX) (p0 : Nat) (p1 : Int32) (Post : Int32 → Prop) (hv : vc_J1_charAt_3b067 p0 p1 Post) : Met l yJ1_charAt_3b067 wsJ1_charAt_3b067 { frames := 2, cells := 0, slots := 0, locals := 43 } (va_Pc [.ref (gV g p0), .int p1] (RO g [])) (va_Qi (fun r (_ : Unit) => Post r) (fun _ _ => True) A0) 0 0 A0 := by
  unfold vc_J1_charAt_3b067 at hv
  refine Met.ofW (cc := cJ1_charAt_3b067) (maxL := 2) (ret := (some .char)) (by decide) rfl ?_
  intro p e s m args below meth c s₁ B hml hv0
  obtain ⟨rfl, hP, hK, hE⟩ := hv0
  have hx := B.exec
  have hb := B.bytes
  have hr := B.returns
  have hts := atoms_spec (ws := wsJ1_charAt_3b067) B.pre
  have hown : s.vm.findClass RJ1 = some m.cls := findClass_of_methodNamed B.named
  have hlocks := B.notSynchronized
  have hS : va_S A0 s.heap s.heap [] := va_S.rf
  have hP : va_P (gD g) vwCl ([]) s.heap := hP
  have hl := lv_entry ([.ref (gV g p0), .int p1]) (n := 2) (Nat.le_of_ble_eq_true rfl)
  rw [lg_entry_eq]
  generalize (lg_sl ([.ref (gV g p0), .int p1]) ++ List.replicate (2 - (lg_sl ([.ref (gV g p0), .int p1])).length) Slot.unset).toArray = ls at hl ⊢
  have hl : lv_has ls 2 [(0, .ref (gV g p0)), (1, .int p1)] := hl
  obtain ⟨H, hH⟩ : ∃ z, z = s.heap := ⟨_, rfl⟩
  obtain ⟨locs, hL⟩ : ∃ z : List Loc, z = [] := ⟨_, rfl⟩
  rw [← hL] at hS ⊢
  have hS : va_S A0 s.heap H locs := by rw [hH]; exact hS
  rw [← hH] at hP ⊢
  clear hH hL
  refine lv_iload_n hx hb dJ1_charAt_3b067_0 rfl (lv_at hl 1 rfl) ?_
  refine lv_aload_n hx hb dJ1_charAt_3b067_1 rfl (lv_at hl 0 rfl) ?_
  have hi := hv.1
  have hv := hv.2
  refine va_tlen (v := nI (lenS.getD p0 0)) hx hb (hE.2.2.1.1.1 _ hi).2.2.2 hS rfl dJ1_charAt_3b067_2 ?_
  have h8 := hv.1
  have hv := hv.2
  have hPc : va_P (gD g) vwCl [] H := fun k q h => by simp at h
  refine ro_void (va_runS (As := [.int p1, .int (nI (lenS.getD p0 0))]) (rest := []) ⟨hx, hb, hml, hown, hts⟩ (h_J0_checkIndex_df160 g p1 (nI (lenS.getD p0 0)) h8) (va_cwS 2 hts gJ1_charAt_3b067_J0_checkIndex_df160 rfl rfl rfl (by decide +kernel) ⟨Nat.le_of_ble_eq_true rfl, Nat.le_of_ble_eq_true rfl⟩) ⟨RO_blind, fun U hU hW => ⟨rfl, by rw [hU]; exact hPc, va_K.moved hW.alike hK, hE.call hW hU hS (fun _ h => h.elim)⟩⟩ rfl rfl hl.1 rfl (lv_room (Nat.le_of_ble_eq_true rfl)) dJ1_charAt_3b067_3 ⟨Nat.le_of_ble_eq_true rfl, Nat.le_of_ble_eq_true rfl⟩) hS hP (fun H locs hP hS => ?_)
  refine lv_aload_n hx hb dJ1_charAt_3b067_6 rfl (lv_at hl 0 rfl) ?_
  refine lv_iload_n hx hb dJ1_charAt_3b067_7 rfl (lv_at hl 1 rfl) ?_
  have hi := hv.1
  have hv := hv.2
  have h9 := hv.1
  have hv := hv.2
  refine va_tb hx hb (hE.2.2.1.1.1 _ hi).2.2.2 hS h9 rfl dJ1_charAt_3b067_8 ?_
  refine lv_sipush (v := 255) hx hb dJ1_charAt_3b067_9 (by decide) ?_
  refine lv_iand hx hb dJ1_charAt_3b067_12 ?_
  refine lv_i2c hx hb dJ1_charAt_3b067_13 rfl ?_
  have hn := hv.1
  have hv := hv.2
  exact W.zret (v := (((((bytS.getD p0 []).getD (p1).toNatClampNeg 0) &&& 255)).toUInt32 % 65536).toInt32) hx hb hr hn (fun t ht hW => ⟨⟨(((((bytS.getD p0 []).getD (p1).toNatClampNeg 0) &&& 255)).toUInt32 % 65536).toInt32, (), rfl, hv, trivial⟩, hS.F ht⟩) hS.2.2 dJ1_charAt_3b067_14

set_option maxHeartbeats 4000000 in
set_option maxRecDepth 100000 in
theorem m_J0_charAt_5068e (l : Launch) (h_J0_isLatin1_aae02 : C_J0_isLatin1_aae02 l) (h_J1_charAt_3b067 : C_J1_charAt_3b067 l) (g : CX) (i0 : Nat) (p0 : Int32) (Post : Int32 → Prop) (hv : vc_J0_charAt_5068e i0 p0 Post) : Met l yJ0_charAt_5068e wsJ0_charAt_5068e { frames := 3, cells := 0, slots := 0, locals := 64 } (va_Pc [.ref (gK g i0), .int p0] (RO g [])) (va_Qi (fun r (_ : Unit) => Post r) (fun _ _ => True) A0) 0 0 A0 := by
  unfold vc_J0_charAt_5068e at hv
  refine Met.ofW (cc := cJ0_charAt_5068e) (maxL := 2) (ret := (some .char)) (by decide) rfl ?_
  intro p e s m args below meth c s₁ B hml hv0
  obtain ⟨rfl, hP, hK, hE⟩ := hv0
  have hx := B.exec
  have hb := B.bytes
  have hr := B.returns
  have hts := atoms_spec (ws := wsJ0_charAt_5068e) B.pre
  have hown : s.vm.findClass RJ0 = some m.cls := findClass_of_methodNamed B.named
  have hlocks := B.notSynchronized
  have k0 := hts (.fieldLink RJ0 9 "java/lang/String" "value" "[B") (by decide +kernel)
  have hS : va_S A0 s.heap s.heap [] := va_S.rf
  have hP : va_P (gD g) vwCl ([]) s.heap := hP
  have hl := lv_entry ([.ref (gK g i0), .int p0]) (n := 2) (Nat.le_of_ble_eq_true rfl)
  rw [lg_entry_eq]
  generalize (lg_sl ([.ref (gK g i0), .int p0]) ++ List.replicate (2 - (lg_sl ([.ref (gK g i0), .int p0])).length) Slot.unset).toArray = ls at hl ⊢
  have hl : lv_has ls 2 [(0, .ref (gK g i0)), (1, .int p0)] := hl
  obtain ⟨H, hH⟩ : ∃ z, z = s.heap := ⟨_, rfl⟩
  obtain ⟨locs, hL⟩ : ∃ z : List Loc, z = [] := ⟨_, rfl⟩
  rw [← hL] at hS ⊢
  have hS : va_S A0 s.heap H locs := by rw [hH]; exact hS
  rw [← hH] at hP ⊢
  clear hH hL
  refine lv_aload_n hx hb dJ0_charAt_5068e_0 rfl (lv_at hl 0 rfl) ?_
  have h8 := hv.1
  have hv := hv.2
  have hPc : va_P (gD g) vwCl [] H := fun k q h => by simp at h
  have hi := hv.1
  have hv := hv.2
  refine ro_int (va_runV (As := []) (rest := []) ⟨hx, hb, hml, hown, hts⟩ (h_J0_isLatin1_aae02 g i0 h8) (cwV 0 hts gJ0_charAt_5068e_J0_isLatin1_aae02 rfl rfl rfl (by decide +kernel) ⟨Nat.le_of_ble_eq_true rfl, Nat.le_of_ble_eq_true rfl⟩) ⟨RO_blind, vk_recv hE.2.2.1.1 hi hS, fun U hU hW => ⟨rfl, by rw [hU]; exact hPc, va_K.moved hW.alike hK, hE.call hW hU hS (fun _ h => h.elim)⟩⟩ rfl rfl hl.1 rfl (lv_room (Nat.le_of_ble_eq_true rfl)) dJ0_charAt_5068e_1 ⟨Nat.le_of_ble_eq_true rfl, Nat.le_of_ble_eq_true rfl⟩) hS hP (fun r H locs hw hP hS => ?_)
  subst r
  refine lv_if_eq (tgt := 16) hx hb dJ0_charAt_5068e_4 (by decide) (fun c4 => ?_) (fun c4 => ?_)
  · have hv := hv.1 c4
    refine lv_aload_n hx hb dJ0_charAt_5068e_16 rfl (lv_at hl 0 rfl) ?_
    have hi := hv.1
    have hv := hv.2
    refine vk_getf hx hb (hE.2.2.1.1.1 _ hi).2.2.1 hS hown k0 (fun _ h9 => h9) dJ0_charAt_5068e_17 ?_
    refine lv_iload_n hx hb dJ0_charAt_5068e_20 rfl (lv_at hl 1 rfl) ?_
    exact hv.elim
  · have hv := hv.2 c4
    refine lv_aload_n hx hb dJ0_charAt_5068e_7 rfl (lv_at hl 0 rfl) ?_
    have hi := hv.1
    have hv := hv.2
    refine vk_getf hx hb (hE.2.2.1.1.1 _ hi).2.2.1 hS hown k0 (fun _ h9 => h9) dJ0_charAt_5068e_8 ?_
    refine lv_iload_n hx hb dJ0_charAt_5068e_11 rfl (lv_at hl 1 rfl) ?_
    have h8 := hv.1
    have hv := hv.2
    have hPc : va_P (gD g) vwCl [] H := fun k q h => by simp at h
    refine ro_int (va_runS (As := [.ref (gV g i0), .int p0]) (rest := []) ⟨hx, hb, hml, hown, hts⟩ (h_J1_charAt_3b067 g i0 p0 h8) (va_cwS 2 hts gJ0_charAt_5068e_J1_charAt_3b067 rfl rfl rfl (by decide +kernel) ⟨Nat.le_of_ble_eq_true rfl, Nat.le_of_ble_eq_true rfl⟩) ⟨RO_blind, fun U hU hW => ⟨rfl, by rw [hU]; exact hPc, va_K.moved hW.alike hK, hE.call hW hU hS (fun _ h => h.elim)⟩⟩ rfl rfl hl.1 rfl (lv_room (Nat.le_of_ble_eq_true rfl)) dJ0_charAt_5068e_12 ⟨Nat.le_of_ble_eq_true rfl, Nat.le_of_ble_eq_true rfl⟩) hS hP (fun r H locs hw hP hS => ?_)
    subst r
    have hn := hv.1
    have hv := hv.2
    exact W.zret (v := (chS i0 p0)) hx hb hr hn (fun t ht hW => ⟨⟨(chS i0 p0), (), rfl, hv, trivial⟩, hS.F ht⟩) hS.2.2 dJ0_charAt_5068e_15

set_option maxHeartbeats 4000000 in
set_option maxRecDepth 100000 in
theorem m_J1_canEncode_9a6ad (l : Launch)  (g : CX) (p0 : Int32) (Post : Int32 → Prop) (hv : vc_J1_canEncode_9a6ad p0 Post) : Met l yJ1_canEncode_9a6ad wsJ1_canEncode_9a6ad { frames := 0, cells := 0, slots := 0, locals := 0 } (va_Pc [.int p0] (RO g [])) (va_Qi (fun r (_ : Unit) => Post r) (fun _ _ => True) A0) 0 0 A0 := by
  unfold vc_J1_canEncode_9a6ad at hv
  refine Met.ofW (cc := cJ1_canEncode_9a6ad) (maxL := 1) (ret := (some .boolean)) (by decide) rfl ?_
  intro p e s m args below meth c s₁ B hml hv0
  obtain ⟨rfl, hP, hK, hE⟩ := hv0
  have hx := B.exec
  have hb := B.bytes
  have hr := B.returns
  have hts := atoms_spec (ws := wsJ1_canEncode_9a6ad) B.pre
  have hown : s.vm.findClass RJ1 = some m.cls := findClass_of_methodNamed B.named
  have hlocks := B.notSynchronized
  have hS : va_S A0 s.heap s.heap [] := va_S.rf
  have hP : va_P (gD g) vwCl ([]) s.heap := hP
  have hl := lv_entry ([.int p0]) (n := 1) (Nat.le_of_ble_eq_true rfl)
  rw [lg_entry_eq]
  generalize (lg_sl ([.int p0]) ++ List.replicate (1 - (lg_sl ([.int p0])).length) Slot.unset).toArray = ls at hl ⊢
  have hl : lv_has ls 1 [(0, .int p0)] := hl
  obtain ⟨H, hH⟩ : ∃ z, z = s.heap := ⟨_, rfl⟩
  obtain ⟨locs, hL⟩ : ∃ z : List Loc, z = [] := ⟨_, rfl⟩
  rw [← hL] at hS ⊢
  have hS : va_S A0 s.heap H locs := by rw [hH]; exact hS
  rw [← hH] at hP ⊢
  clear hH hL
  refine lv_iload_n hx hb dJ1_canEncode_9a6ad_0 rfl (lv_at hl 0 rfl) ?_
  refine lv_if_lt (tgt := 15) hx hb dJ1_canEncode_9a6ad_1 (by decide) (fun c1 => ?_) (fun c1 => ?_)
  · have hv := hv.1 c1
    refine lv_iconst (v := 0) hx hb dJ1_canEncode_9a6ad_15 (by decide) ?_
    exact W.zret (v := 0) hx hb hr rfl (fun t ht hW => ⟨⟨0, (), rfl, hv, trivial⟩, hS.F ht⟩) hS.2.2 dJ1_canEncode_9a6ad_16
  · have hv := hv.2 c1
    refine lv_iload_n hx hb dJ1_canEncode_9a6ad_4 rfl (lv_at hl 0 rfl) ?_
    refine lv_sipush (v := 255) hx hb dJ1_canEncode_9a6ad_5 (by decide) ?_
    refine lv_icmp_gt (tgt := 15) hx hb dJ1_canEncode_9a6ad_8 (by decide) (fun c8 => ?_) (fun c8 => ?_)
    · have hv := hv.1 c8
      refine lv_iconst (v := 0) hx hb dJ1_canEncode_9a6ad_15 (by decide) ?_
      exact W.zret (v := 0) hx hb hr rfl (fun t ht hW => ⟨⟨0, (), rfl, hv, trivial⟩, hS.F ht⟩) hS.2.2 dJ1_canEncode_9a6ad_16
    · have hv := hv.2 c8
      refine lv_iconst (v := 1) hx hb dJ1_canEncode_9a6ad_11 (by decide) ?_
      refine lv_goto (tgt := 16) hx hb dJ1_canEncode_9a6ad_12 (by decide) ?_
      exact W.zret (v := 1) hx hb hr rfl (fun t ht hW => ⟨⟨1, (), rfl, hv, trivial⟩, hS.F ht⟩) hS.2.2 dJ1_canEncode_9a6ad_16

set_option maxHeartbeats 4000000 in
set_option maxRecDepth 100000 in
theorem m_J1_indexOfChar_4cfef (l : Launch)  (g : CX) (p0 : Nat) (p1 : Int32) (p2 : Int32) (p3 : Int32) (Post : Int32 → Prop) (hv : vc_J1_indexOfChar_4cfef p0 p1 p2 p3 Post) : Met l yJ1_indexOfChar_4cfef wsJ1_indexOfChar_4cfef { frames := 0, cells := 0, slots := 0, locals := 0 } (va_Pc [.ref (gV g p0), .int p1, .int p2, .int p3] (RO g [])) (va_Qi (fun r (_ : Unit) => Post r) (fun _ _ => True) A0) 0 0 A0 := by
  unfold vc_J1_indexOfChar_4cfef at hv
  refine Met.ofW (cc := cJ1_indexOfChar_4cfef) (maxL := 6) (ret := (some .int)) (by decide) rfl ?_
  intro p e s m args below meth c s₁ B hml hv0
  obtain ⟨rfl, hP, hK, hE⟩ := hv0
  have hx := B.exec
  have hb := B.bytes
  have hr := B.returns
  have hts := atoms_spec (ws := wsJ1_indexOfChar_4cfef) B.pre
  have hown : s.vm.findClass RJ1 = some m.cls := findClass_of_methodNamed B.named
  have hlocks := B.notSynchronized
  have hS : va_S A0 s.heap s.heap [] := va_S.rf
  have hP : va_P (gD g) vwCl ([]) s.heap := hP
  have hl := lv_entry ([.ref (gV g p0), .int p1, .int p2, .int p3]) (n := 6) (Nat.le_of_ble_eq_true rfl)
  rw [lg_entry_eq]
  generalize (lg_sl ([.ref (gV g p0), .int p1, .int p2, .int p3]) ++ List.replicate (6 - (lg_sl ([.ref (gV g p0), .int p1, .int p2, .int p3])).length) Slot.unset).toArray = ls at hl ⊢
  have hl : lv_has ls 6 [(0, .ref (gV g p0)), (1, .int p1), (2, .int p2), (3, .int p3)] := hl
  have hv := hv (fun (x4 : Int32) (x5 : Int32) => ∀ (H : Heap) (locs : List Loc) (ls : Array Slot), va_P (gD g) vwCl ([]) H → va_S A0 s.heap H locs → lv_has ls 6 [(0, .ref (gV g p0)), (3, .int p3), (4, .int x4), (5, .int x5)] → W p l e { frames := 0, cells := 0, slots := 0, locals := 0 } s m ([.ref (gV g p0), .int p1, .int p2, .int p3] : List Value).toArray below meth c H locs 0 0 (MQ below (va_Qi (fun r (_ : Unit) => Post r) (fun _ _ => True) A0) ([.ref (gV g p0), .int p1, .int p2, .int p3] : List Value).toArray s 0 0 A0) (F0 m 7 ls []))
  have hv := hv (by
    intro x4 x5 hv H locs ls hP hS hl
    refine lv_iload hx hb dJ1_indexOfChar_4cfef_7 (lv_at hl 3 rfl) ?_
    refine lv_iload_n hx hb dJ1_indexOfChar_4cfef_9 rfl (lv_at hl 1 rfl) ?_
    refine lv_icmp_ge (tgt := 31) hx hb dJ1_indexOfChar_4cfef_10 (by decide) (fun c10 => ?_) (fun c10 => ?_)
    · have hv := hv.1 c10
      refine lv_iconst (v := (-1)) hx hb dJ1_indexOfChar_4cfef_31 (by decide) ?_
      exact W.iret (v := (-1)) hx hb hr (fun t ht hW => ⟨⟨(-1), (), rfl, hv, trivial⟩, hS.F ht⟩) hS.2.2 dJ1_indexOfChar_4cfef_32
    · have hv := hv.2 c10
      refine lv_aload_n hx hb dJ1_indexOfChar_4cfef_13 rfl (lv_at hl 0 rfl) ?_
      refine lv_iload hx hb dJ1_indexOfChar_4cfef_14 (lv_at hl 3 rfl) ?_
      have hi := hv.1
      have hv := hv.2
      have h9 := hv.1
      have hv := hv.2
      refine va_tb hx hb (hE.2.2.1.1.1 _ hi).2.2.2 hS h9 rfl dJ1_indexOfChar_4cfef_16 ?_
      refine lv_iload hx hb dJ1_indexOfChar_4cfef_17 (lv_at hl 2 rfl) ?_
      refine lv_icmp_ne (tgt := 25) hx hb dJ1_indexOfChar_4cfef_19 (by decide) (fun c19 => ?_) (fun c19 => ?_)
      · have hv := hv.1 c19
        refine lv_iinc (v := (x5 + 1)) (lv' := [(5, .int (x5 + 1)), (0, .ref (gV g p0)), (3, .int p3), (4, .int x4)]) hx hb dJ1_indexOfChar_4cfef_25 hl (k := 3) rfl (by first | rfl | exact congrArg _ (by decide)) (by decide) rfl (fun ls hl => ?_)
        refine lv_goto (tgt := 7) hx hb dJ1_indexOfChar_4cfef_28 (by decide) ?_
        exact hv H locs ls hP hS (lv_sub hl [1, 2, 3, 0] rfl)
      · have hv := hv.2 c19
        refine lv_iload hx hb dJ1_indexOfChar_4cfef_22 (lv_at hl 3 rfl) ?_
        exact W.iret (v := x5) hx hb hr (fun t ht hW => ⟨⟨x5, (), rfl, hv, trivial⟩, hS.F ht⟩) hS.2.2 dJ1_indexOfChar_4cfef_24)
  obtain ⟨H, hH⟩ : ∃ z, z = s.heap := ⟨_, rfl⟩
  obtain ⟨locs, hL⟩ : ∃ z : List Loc, z = [] := ⟨_, rfl⟩
  rw [← hL] at hS ⊢
  have hS : va_S A0 s.heap H locs := by rw [hH]; exact hS
  rw [← hH] at hP ⊢
  clear hH hL
  refine lv_iload_n hx hb dJ1_indexOfChar_4cfef_0 rfl (lv_at hl 1 rfl) ?_
  refine lv_i2b hx hb dJ1_indexOfChar_4cfef_1 rfl ?_
  refine lv_istore (lv' := [(4, .int ((p1).toInt8.toInt32)), (0, .ref (gV g p0)), (1, .int p1), (2, .int p2), (3, .int p3)]) hx hb dJ1_indexOfChar_4cfef_2 hl (by decide) rfl (fun ls hl => ?_)
  refine lv_iload_n hx hb dJ1_indexOfChar_4cfef_4 rfl (lv_at hl 3 rfl) ?_
  refine lv_istore (lv' := [(5, .int p2), (4, .int ((p1).toInt8.toInt32)), (0, .ref (gV g p0)), (1, .int p1), (2, .int p2), (3, .int p3)]) hx hb dJ1_indexOfChar_4cfef_5 hl (by decide) rfl (fun ls hl => ?_)
  exact hv H locs ls hP hS (lv_sub hl [2, 5, 1, 0] rfl)

set_option maxHeartbeats 4000000 in
set_option maxRecDepth 100000 in
theorem m_J1_indexOf_4cfef (l : Launch) (h_J1_canEncode_9a6ad : C_J1_canEncode_9a6ad l) (h_J1_indexOfChar_4cfef : C_J1_indexOfChar_4cfef l) (g : CX) (p0 : Nat) (p1 : Int32) (p2 : Int32) (p3 : Int32) (Post : Int32 → Prop) (hv : vc_J1_indexOf_4cfef p0 p1 p2 p3 Post) : Met l yJ1_indexOf_4cfef wsJ1_indexOf_4cfef { frames := 1, cells := 0, slots := 0, locals := 40 } (va_Pc [.ref (gV g p0), .int p1, .int p2, .int p3] (RO g [])) (va_Qi (fun r (_ : Unit) => Post r) (fun _ _ => True) A0) 0 0 A0 := by
  unfold vc_J1_indexOf_4cfef at hv
  refine Met.ofW (cc := cJ1_indexOf_4cfef) (maxL := 4) (ret := (some .int)) (by decide) rfl ?_
  intro p e s m args below meth c s₁ B hml hv0
  obtain ⟨rfl, hP, hK, hE⟩ := hv0
  have hx := B.exec
  have hb := B.bytes
  have hr := B.returns
  have hts := atoms_spec (ws := wsJ1_indexOf_4cfef) B.pre
  have hown : s.vm.findClass RJ1 = some m.cls := findClass_of_methodNamed B.named
  have hlocks := B.notSynchronized
  have k0 := hts (.methodLink RJ1 92 Lib.Math.max.name) (by decide +kernel)
  have k1 := hts (.static Lib.Math.max.name) (by decide +kernel)
  have k2 := hts (.initialized "java/lang/Math") (by decide +kernel)
  have k3 := hts (.code Lib.Math.max.name Lib.Math.max.code 2 (some .int)) (by decide +kernel)
  have k4 := hts (.methodLink RJ1 38 Lib.Math.min.name) (by decide +kernel)
  have k5 := hts (.static Lib.Math.min.name) (by decide +kernel)
  have k6 := hts (.code Lib.Math.min.name Lib.Math.min.code 2 (some .int)) (by decide +kernel)
  have hS : va_S A0 s.heap s.heap [] := va_S.rf
  have hP : va_P (gD g) vwCl ([]) s.heap := hP
  have hl := lv_entry ([.ref (gV g p0), .int p1, .int p2, .int p3]) (n := 4) (Nat.le_of_ble_eq_true rfl)
  rw [lg_entry_eq]
  generalize (lg_sl ([.ref (gV g p0), .int p1, .int p2, .int p3]) ++ List.replicate (4 - (lg_sl ([.ref (gV g p0), .int p1, .int p2, .int p3])).length) Slot.unset).toArray = ls at hl ⊢
  have hl : lv_has ls 4 [(0, .ref (gV g p0)), (1, .int p1), (2, .int p2), (3, .int p3)] := hl
  obtain ⟨H, hH⟩ : ∃ z, z = s.heap := ⟨_, rfl⟩
  obtain ⟨locs, hL⟩ : ∃ z : List Loc, z = [] := ⟨_, rfl⟩
  rw [← hL] at hS ⊢
  have hS : va_S A0 s.heap H locs := by rw [hH]; exact hS
  rw [← hH] at hP ⊢
  clear hH hL
  refine lv_iload_n hx hb dJ1_indexOf_4cfef_0 rfl (lv_at hl 1 rfl) ?_
  have hPc : va_P (gD g) vwCl [] H := fun k q h => by simp at h
  refine ro_int (va_runS (As := [.int p1]) (rest := []) ⟨hx, hb, hml, hown, hts⟩ (h_J1_canEncode_9a6ad g p1) (va_cwS 1 hts gJ1_indexOf_4cfef_J1_canEncode_9a6ad rfl rfl rfl (by decide +kernel) ⟨Nat.le_of_ble_eq_true rfl, Nat.le_of_ble_eq_true rfl⟩) ⟨RO_blind, fun U hU hW => ⟨rfl, by rw [hU]; exact hPc, va_K.moved hW.alike hK, hE.call hW hU hS (fun _ h => h.elim)⟩⟩ rfl rfl hl.1 rfl (lv_room (Nat.le_of_ble_eq_true rfl)) dJ1_indexOf_4cfef_1 ⟨Nat.le_of_ble_eq_true rfl, Nat.le_of_ble_eq_true rfl⟩) hS hP (fun r H locs hw hP hS => ?_)
  subst r
  refine lv_if_ne (tgt := 9) hx hb dJ1_indexOf_4cfef_4 (by decide) (fun c4 => ?_) (fun c4 => ?_)
  · have hv := hv.1 c4
    refine lv_iload_n hx hb dJ1_indexOf_4cfef_9 rfl (lv_at hl 2 rfl) ?_
    refine lv_iconst (v := 0) hx hb dJ1_indexOf_4cfef_10 (by decide) ?_
    refine va_mmax hx hb (hml.trans hl.1.symm) hown k0 k1 k2 k3 (Nat.le_of_ble_eq_true rfl) (Nat.le_of_ble_eq_true rfl) (Nat.le_refl _) (Nat.le_refl _) dJ1_indexOf_4cfef_11 ?_
    refine lv_istore_n (lv' := [(2, .int (jmax p2 0)), (0, .ref (gV g p0)), (1, .int p1), (3, .int p3)]) hx hb dJ1_indexOf_4cfef_14 rfl hl (by decide) rfl (fun ls hl => ?_)
    refine lv_iload_n hx hb dJ1_indexOf_4cfef_15 rfl (lv_at hl 3 rfl) ?_
    refine lv_aload_n hx hb dJ1_indexOf_4cfef_16 rfl (lv_at hl 1 rfl) ?_
    have hi := hv.1
    have hv := hv.2
    refine va_tlen (v := nI (lenS.getD p0 0)) hx hb (hE.2.2.1.1.1 _ hi).2.2.2 hS rfl dJ1_indexOf_4cfef_17 ?_
    refine va_mmin hx hb (hml.trans hl.1.symm) hown k4 k5 k2 k6 (Nat.le_of_ble_eq_true rfl) (Nat.le_of_ble_eq_true rfl) (Nat.le_refl _) (Nat.le_refl _) dJ1_indexOf_4cfef_18 ?_
    refine lv_istore_n (lv' := [(3, .int (jmin p3 (nI (lenS.getD p0 0)))), (2, .int (jmax p2 0)), (0, .ref (gV g p0)), (1, .int p1)]) hx hb dJ1_indexOf_4cfef_21 rfl hl (by decide) rfl (fun ls hl => ?_)
    refine lv_iload_n hx hb dJ1_indexOf_4cfef_22 rfl (lv_at hl 1 rfl) ?_
    refine lv_iload_n hx hb dJ1_indexOf_4cfef_23 rfl (lv_at hl 0 rfl) ?_
    refine lv_icmp_lt (tgt := 29) hx hb dJ1_indexOf_4cfef_24 (by decide) (fun c24 => ?_) (fun c24 => ?_)
    · have hv := hv.1 c24
      refine lv_aload_n hx hb dJ1_indexOf_4cfef_29 rfl (lv_at hl 2 rfl) ?_
      refine lv_iload_n hx hb dJ1_indexOf_4cfef_30 rfl (lv_at hl 3 rfl) ?_
      refine lv_iload_n hx hb dJ1_indexOf_4cfef_31 rfl (lv_at hl 1 rfl) ?_
      refine lv_iload_n hx hb dJ1_indexOf_4cfef_32 rfl (lv_at hl 0 rfl) ?_
      have h8 := hv.1
      have hv := hv.2
      have hPc : va_P (gD g) vwCl [] H := fun k q h => by simp at h
      refine ro_int (va_runS (As := [.ref (gV g p0), .int p1, .int (jmax p2 0), .int (jmin p3 (nI (lenS.getD p0 0)))]) (rest := []) ⟨hx, hb, hml, hown, hts⟩ (h_J1_indexOfChar_4cfef g p0 p1 (jmax p2 0) (jmin p3 (nI (lenS.getD p0 0))) h8) (va_cwS 4 hts gJ1_indexOf_4cfef_J1_indexOfChar_4cfef rfl rfl rfl (by decide +kernel) ⟨Nat.le_of_ble_eq_true rfl, Nat.le_of_ble_eq_true rfl⟩) ⟨RO_blind, fun U hU hW => ⟨rfl, by rw [hU]; exact hPc, va_K.moved hW.alike hK, hE.call hW hU hS (fun _ h => h.elim)⟩⟩ rfl rfl hl.1 rfl (lv_room (Nat.le_of_ble_eq_true rfl)) dJ1_indexOf_4cfef_33 ⟨Nat.le_of_ble_eq_true rfl, Nat.le_of_ble_eq_true rfl⟩) hS hP (fun r H locs hw hP hS => ?_)
      subst r
      exact W.iret (v := (ixS p0 p1)) hx hb hr (fun t ht hW => ⟨⟨(ixS p0 p1), (), rfl, hv, trivial⟩, hS.F ht⟩) hS.2.2 dJ1_indexOf_4cfef_36
    · have hv := hv.2 c24
      refine lv_iconst (v := (-1)) hx hb dJ1_indexOf_4cfef_27 (by decide) ?_
      exact W.iret (v := (-1)) hx hb hr (fun t ht hW => ⟨⟨(-1), (), rfl, hv, trivial⟩, hS.F ht⟩) hS.2.2 dJ1_indexOf_4cfef_28
  · have hv := hv.2 c4
    refine lv_iconst (v := (-1)) hx hb dJ1_indexOf_4cfef_7 (by decide) ?_
    exact W.iret (v := (-1)) hx hb hr (fun t ht hW => ⟨⟨(-1), (), rfl, hv, trivial⟩, hS.F ht⟩) hS.2.2 dJ1_indexOf_4cfef_8

set_option maxHeartbeats 4000000 in
set_option maxRecDepth 100000 in
theorem m_J0_indexOf_7cf53 (l : Launch) (h_J0_isLatin1_aae02 : C_J0_isLatin1_aae02 l) (h_J0_length_8abf5 : C_J0_length_8abf5 l) (h_J1_indexOf_4cfef : C_J1_indexOf_4cfef l) (g : CX) (i0 : Nat) (p0 : Int32) (p1 : Int32) (Post : Int32 → Prop) (hv : vc_J0_indexOf_7cf53 i0 p0 p1 Post) : Met l yJ0_indexOf_7cf53 wsJ0_indexOf_7cf53 { frames := 2, cells := 0, slots := 0, locals := 63 } (va_Pc [.ref (gK g i0), .int p0, .int p1] (RO g [])) (va_Qi (fun r (_ : Unit) => Post r) (fun _ _ => True) A0) 0 0 A0 := by
  unfold vc_J0_indexOf_7cf53 at hv
  refine Met.ofW (cc := cJ0_indexOf_7cf53) (maxL := 3) (ret := (some .int)) (by decide) rfl ?_
  intro p e s m args below meth c s₁ B hml hv0
  obtain ⟨rfl, hP, hK, hE⟩ := hv0
  have hx := B.exec
  have hb := B.bytes
  have hr := B.returns
  have hts := atoms_spec (ws := wsJ0_indexOf_7cf53) B.pre
  have hown : s.vm.findClass RJ0 = some m.cls := findClass_of_methodNamed B.named
  have hlocks := B.notSynchronized
  have k0 := hts (.fieldLink RJ0 9 "java/lang/String" "value" "[B") (by decide +kernel)
  have hS : va_S A0 s.heap s.heap [] := va_S.rf
  have hP : va_P (gD g) vwCl ([]) s.heap := hP
  have hl := lv_entry ([.ref (gK g i0), .int p0, .int p1]) (n := 3) (Nat.le_of_ble_eq_true rfl)
  rw [lg_entry_eq]
  generalize (lg_sl ([.ref (gK g i0), .int p0, .int p1]) ++ List.replicate (3 - (lg_sl ([.ref (gK g i0), .int p0, .int p1])).length) Slot.unset).toArray = ls at hl ⊢
  have hl : lv_has ls 3 [(0, .ref (gK g i0)), (1, .int p0), (2, .int p1)] := hl
  obtain ⟨H, hH⟩ : ∃ z, z = s.heap := ⟨_, rfl⟩
  obtain ⟨locs, hL⟩ : ∃ z : List Loc, z = [] := ⟨_, rfl⟩
  rw [← hL] at hS ⊢
  have hS : va_S A0 s.heap H locs := by rw [hH]; exact hS
  rw [← hH] at hP ⊢
  clear hH hL
  refine lv_aload_n hx hb dJ0_indexOf_7cf53_0 rfl (lv_at hl 0 rfl) ?_
  have h8 := hv.1
  have hv := hv.2
  have hPc : va_P (gD g) vwCl [] H := fun k q h => by simp at h
  have hi := hv.1
  have hv := hv.2
  refine ro_int (va_runV (As := []) (rest := []) ⟨hx, hb, hml, hown, hts⟩ (h_J0_isLatin1_aae02 g i0 h8) (cwV 0 hts gJ0_indexOf_7cf53_J0_isLatin1_aae02 rfl rfl rfl (by decide +kernel) ⟨Nat.le_of_ble_eq_true rfl, Nat.le_of_ble_eq_true rfl⟩) ⟨RO_blind, vk_recv hE.2.2.1.1 hi hS, fun U hU hW => ⟨rfl, by rw [hU]; exact hPc, va_K.moved hW.alike hK, hE.call hW hU hS (fun _ h => h.elim)⟩⟩ rfl rfl hl.1 rfl (lv_room (Nat.le_of_ble_eq_true rfl)) dJ0_indexOf_7cf53_1 ⟨Nat.le_of_ble_eq_true rfl, Nat.le_of_ble_eq_true rfl⟩) hS hP (fun r H locs hw hP hS => ?_)
  subst r
  refine lv_if_eq (tgt := 23) hx hb dJ0_indexOf_7cf53_4 (by decide) (fun c4 => ?_) (fun c4 => ?_)
  · have hv := hv.1 c4
    refine lv_aload_n hx hb dJ0_indexOf_7cf53_23 rfl (lv_at hl 0 rfl) ?_
    have hi := hv.1
    have hv := hv.2
    refine vk_getf hx hb (hE.2.2.1.1.1 _ hi).2.2.1 hS hown k0 (fun _ h9 => h9) dJ0_indexOf_7cf53_24 ?_
    refine lv_iload_n hx hb dJ0_indexOf_7cf53_27 rfl (lv_at hl 1 rfl) ?_
    refine lv_iload_n hx hb dJ0_indexOf_7cf53_28 rfl (lv_at hl 2 rfl) ?_
    refine lv_aload_n hx hb dJ0_indexOf_7cf53_29 rfl (lv_at hl 0 rfl) ?_
    have h8 := hv.1
    have hv := hv.2
    have hPc : va_P (gD g) vwCl [] H := fun k q h => by simp at h
    have hi := hv.1
    have hv := hv.2
    refine ro_int (va_runV (As := []) (rest := [.int p1, .int p0, .ref (gV g i0)]) ⟨hx, hb, hml, hown, hts⟩ (h_J0_length_8abf5 g i0 h8) (cwV 0 hts gJ0_indexOf_7cf53_J0_length_8abf5 rfl rfl rfl (by decide +kernel) ⟨Nat.le_of_ble_eq_true rfl, Nat.le_of_ble_eq_true rfl⟩) ⟨RO_blind, vk_recv hE.2.2.1.1 hi hS, fun U hU hW => ⟨rfl, by rw [hU]; exact hPc, va_K.moved hW.alike hK, hE.call hW hU hS (fun _ h => h.elim)⟩⟩ rfl rfl hl.1 rfl (lv_room (Nat.le_of_ble_eq_true rfl)) dJ0_indexOf_7cf53_30 ⟨Nat.le_of_ble_eq_true rfl, Nat.le_of_ble_eq_true rfl⟩) hS hP (fun r H locs hw hP hS => ?_)
    subst r
    exact hv.elim
  · have hv := hv.2 c4
    refine lv_aload_n hx hb dJ0_indexOf_7cf53_7 rfl (lv_at hl 0 rfl) ?_
    have hi := hv.1
    have hv := hv.2
    refine vk_getf hx hb (hE.2.2.1.1.1 _ hi).2.2.1 hS hown k0 (fun _ h9 => h9) dJ0_indexOf_7cf53_8 ?_
    refine lv_iload_n hx hb dJ0_indexOf_7cf53_11 rfl (lv_at hl 1 rfl) ?_
    refine lv_iload_n hx hb dJ0_indexOf_7cf53_12 rfl (lv_at hl 2 rfl) ?_
    refine lv_aload_n hx hb dJ0_indexOf_7cf53_13 rfl (lv_at hl 0 rfl) ?_
    have h8 := hv.1
    have hv := hv.2
    have hPc : va_P (gD g) vwCl [] H := fun k q h => by simp at h
    have hi := hv.1
    have hv := hv.2
    refine ro_int (va_runV (As := []) (rest := [.int p1, .int p0, .ref (gV g i0)]) ⟨hx, hb, hml, hown, hts⟩ (h_J0_length_8abf5 g i0 h8) (cwV 0 hts gJ0_indexOf_7cf53_J0_length_8abf5 rfl rfl rfl (by decide +kernel) ⟨Nat.le_of_ble_eq_true rfl, Nat.le_of_ble_eq_true rfl⟩) ⟨RO_blind, vk_recv hE.2.2.1.1 hi hS, fun U hU hW => ⟨rfl, by rw [hU]; exact hPc, va_K.moved hW.alike hK, hE.call hW hU hS (fun _ h => h.elim)⟩⟩ rfl rfl hl.1 rfl (lv_room (Nat.le_of_ble_eq_true rfl)) dJ0_indexOf_7cf53_14 ⟨Nat.le_of_ble_eq_true rfl, Nat.le_of_ble_eq_true rfl⟩) hS hP (fun r H locs hw hP hS => ?_)
    subst r
    have h8 := hv.1
    have hv := hv.2
    have hPc : va_P (gD g) vwCl [] H := fun k q h => by simp at h
    refine ro_int (va_runS (As := [.ref (gV g i0), .int p0, .int p1, .int (lenI i0)]) (rest := []) ⟨hx, hb, hml, hown, hts⟩ (h_J1_indexOf_4cfef g i0 p0 p1 (lenI i0) h8) (va_cwS 4 hts gJ0_indexOf_7cf53_J1_indexOf_4cfef rfl rfl rfl (by decide +kernel) ⟨Nat.le_of_ble_eq_true rfl, Nat.le_of_ble_eq_true rfl⟩) ⟨RO_blind, fun U hU hW => ⟨rfl, by rw [hU]; exact hPc, va_K.moved hW.alike hK, hE.call hW hU hS (fun _ h => h.elim)⟩⟩ rfl rfl hl.1 rfl (lv_room (Nat.le_of_ble_eq_true rfl)) dJ0_indexOf_7cf53_17 ⟨Nat.le_of_ble_eq_true rfl, Nat.le_of_ble_eq_true rfl⟩) hS hP (fun r H locs hw hP hS => ?_)
    subst r
    refine lv_goto (tgt := 36) hx hb dJ0_indexOf_7cf53_20 (by decide) ?_
    exact W.iret (v := (ixS i0 p0)) hx hb hr (fun t ht hW => ⟨⟨(ixS i0 p0), (), rfl, hv, trivial⟩, hS.F ht⟩) hS.2.2 dJ0_indexOf_7cf53_36

set_option maxHeartbeats 4000000 in
set_option maxRecDepth 100000 in
theorem m_J0_indexOf_0f7a4 (l : Launch) (h_J0_indexOf_7cf53 : C_J0_indexOf_7cf53 l) (g : CX) (i0 : Nat) (p0 : Int32) (Post : Int32 → Prop) (hv : vc_J0_indexOf_0f7a4 i0 p0 Post) : Met l yJ0_indexOf_0f7a4 wsJ0_indexOf_0f7a4 { frames := 3, cells := 0, slots := 0, locals := 85 } (va_Pc [.ref (gK g i0), .int p0] (RO g [])) (va_Qi (fun r (_ : Unit) => Post r) (fun _ _ => True) A0) 0 0 A0 := by
  unfold vc_J0_indexOf_0f7a4 at hv
  refine Met.ofW (cc := cJ0_indexOf_0f7a4) (maxL := 2) (ret := (some .int)) (by decide) rfl ?_
  intro p e s m args below meth c s₁ B hml hv0
  obtain ⟨rfl, hP, hK, hE⟩ := hv0
  have hx := B.exec
  have hb := B.bytes
  have hr := B.returns
  have hts := atoms_spec (ws := wsJ0_indexOf_0f7a4) B.pre
  have hown : s.vm.findClass RJ0 = some m.cls := findClass_of_methodNamed B.named
  have hlocks := B.notSynchronized
  have hS : va_S A0 s.heap s.heap [] := va_S.rf
  have hP : va_P (gD g) vwCl ([]) s.heap := hP
  have hl := lv_entry ([.ref (gK g i0), .int p0]) (n := 2) (Nat.le_of_ble_eq_true rfl)
  rw [lg_entry_eq]
  generalize (lg_sl ([.ref (gK g i0), .int p0]) ++ List.replicate (2 - (lg_sl ([.ref (gK g i0), .int p0])).length) Slot.unset).toArray = ls at hl ⊢
  have hl : lv_has ls 2 [(0, .ref (gK g i0)), (1, .int p0)] := hl
  obtain ⟨H, hH⟩ : ∃ z, z = s.heap := ⟨_, rfl⟩
  obtain ⟨locs, hL⟩ : ∃ z : List Loc, z = [] := ⟨_, rfl⟩
  rw [← hL] at hS ⊢
  have hS : va_S A0 s.heap H locs := by rw [hH]; exact hS
  rw [← hH] at hP ⊢
  clear hH hL
  refine lv_aload_n hx hb dJ0_indexOf_0f7a4_0 rfl (lv_at hl 0 rfl) ?_
  refine lv_iload_n hx hb dJ0_indexOf_0f7a4_1 rfl (lv_at hl 1 rfl) ?_
  refine lv_iconst (v := 0) hx hb dJ0_indexOf_0f7a4_2 (by decide) ?_
  have h8 := hv.1
  have hv := hv.2
  have hPc : va_P (gD g) vwCl [] H := fun k q h => by simp at h
  have hi := hv.1
  have hv := hv.2
  refine ro_int (va_runV (As := [.int p0, .int 0]) (rest := []) ⟨hx, hb, hml, hown, hts⟩ (h_J0_indexOf_7cf53 g i0 p0 0 h8) (cwV 2 hts gJ0_indexOf_0f7a4_J0_indexOf_7cf53 rfl rfl rfl (by decide +kernel) ⟨Nat.le_of_ble_eq_true rfl, Nat.le_of_ble_eq_true rfl⟩) ⟨RO_blind, vk_recv hE.2.2.1.1 hi hS, fun U hU hW => ⟨rfl, by rw [hU]; exact hPc, va_K.moved hW.alike hK, hE.call hW hU hS (fun _ h => h.elim)⟩⟩ rfl rfl hl.1 rfl (lv_room (Nat.le_of_ble_eq_true rfl)) dJ0_indexOf_0f7a4_3 ⟨Nat.le_of_ble_eq_true rfl, Nat.le_of_ble_eq_true rfl⟩) hS hP (fun r H locs hw hP hS => ?_)
  subst r
  exact W.iret (v := (ixS i0 p0)) hx hb hr (fun t ht hW => ⟨⟨(ixS i0 p0), (), rfl, hv, trivial⟩, hS.F ht⟩) hS.2.2 dJ0_indexOf_0f7a4_6

set_option maxHeartbeats 4000000 in
set_option maxRecDepth 100000 in
theorem m_X1_shape (l : Launch)  (g : CX) (p0 : Int32) (Post : Nat → Prop) (hv : vc_X1_shape p0 Post) : Met l yX1_shape wsX1_shape { frames := 0, cells := 0, slots := 0, locals := 0 } (va_Pc [.int p0] (RO g [])) (va_Qr (fun (r : Nat) => Post r) (fun r a _ => a = gK g r) A0) 0 0 A0 := by
  unfold vc_X1_shape at hv
  refine Met.ofW (cc := cX1_shape) (maxL := 1) (ret := (some (.object "java/lang/String"))) (by decide) rfl ?_
  intro p e s m args below meth c s₁ B hml hv0
  obtain ⟨rfl, hP, hK, hE⟩ := hv0
  have hx := B.exec
  have hb := B.bytes
  have hr := B.returns
  have hts := atoms_spec (ws := wsX1_shape) B.pre
  have hown : s.vm.findClass RX1 = some m.cls := findClass_of_methodNamed B.named
  have hlocks := B.notSynchronized
  have hS : va_S A0 s.heap s.heap [] := va_S.rf
  have hP : va_P (gD g) vwCl ([]) s.heap := hP
  have hl := lv_entry ([.int p0]) (n := 1) (Nat.le_of_ble_eq_true rfl)
  rw [lg_entry_eq]
  generalize (lg_sl ([.int p0]) ++ List.replicate (1 - (lg_sl ([.int p0])).length) Slot.unset).toArray = ls at hl ⊢
  have hl : lv_has ls 1 [(0, .int p0)] := hl
  obtain ⟨H, hH⟩ : ∃ z, z = s.heap := ⟨_, rfl⟩
  obtain ⟨locs, hL⟩ : ∃ z : List Loc, z = [] := ⟨_, rfl⟩
  rw [← hL] at hS ⊢
  have hS : va_S A0 s.heap H locs := by rw [hH]; exact hS
  rw [← hH] at hP ⊢
  clear hH hL
  refine lv_iload_n hx hb dX1_shape_0 rfl (lv_at hl 0 rfl) ?_
  by_cases d1_97 : p0 = 97
  · have hv := hv.1 d1_97
    refine lv_lookup (off := 71) (tgt := 72) hx hb dX1_shape_1 (by decide +kernel) (by rw [d1_97]; decide +kernel) (by decide) ?_
    refine va_ldcS hx hb hown hE.2.2.1.2.2.2.2.1 dX1_shape_72 ?_
    exact W.aret (v := .ref (gK g 3)) hx hb hr (Or.inl ⟨_, rfl⟩) (Or.inr ⟨_, rfl⟩) (fun t ht hW => ⟨⟨3, gK g 3, rfl, hv, rfl⟩, hS.F ht⟩) hS.2.2 dX1_shape_74
  · have hv := hv.2 d1_97
    by_cases d1_102 : p0 = 102
    · have hv := hv.1 d1_102
      refine lv_lookup (off := 59) (tgt := 60) hx hb dX1_shape_1 (by decide +kernel) (by rw [d1_102]; decide +kernel) (by decide) ?_
      refine va_ldcS hx hb hown hE.2.2.1.2.1 dX1_shape_60 ?_
      exact W.aret (v := .ref (gK g 0)) hx hb hr (Or.inl ⟨_, rfl⟩) (Or.inr ⟨_, rfl⟩) (fun t ht hW => ⟨⟨0, gK g 0, rfl, hv, rfl⟩, hS.F ht⟩) hS.2.2 dX1_shape_62
    · have hv := hv.2 d1_102
      by_cases d1_107 : p0 = 107
      · have hv := hv.1 d1_107
        refine lv_lookup (off := 68) (tgt := 69) hx hb dX1_shape_1 (by decide +kernel) (by rw [d1_107]; decide +kernel) (by decide) ?_
        refine va_ldcS hx hb hown hE.2.2.1.2.2.2.2.1 dX1_shape_69 ?_
        exact W.aret (v := .ref (gK g 3)) hx hb hr (Or.inl ⟨_, rfl⟩) (Or.inr ⟨_, rfl⟩) (fun t ht hW => ⟨⟨3, gK g 3, rfl, hv, rfl⟩, hS.F ht⟩) hS.2.2 dX1_shape_71
      · have hv := hv.2 d1_107
        by_cases d1_110 : p0 = 110
        · have hv := hv.1 d1_110
          refine lv_lookup (off := 74) (tgt := 75) hx hb dX1_shape_1 (by decide +kernel) (by rw [d1_110]; decide +kernel) (by decide) ?_
          refine va_ldcS hx hb hown hE.2.2.1.2.2.2.2.2.1 dX1_shape_75 ?_
          exact W.aret (v := .ref (gK g 4)) hx hb hr (Or.inl ⟨_, rfl⟩) (Or.inr ⟨_, rfl⟩) (fun t ht hW => ⟨⟨4, gK g 4, rfl, hv, rfl⟩, hS.F ht⟩) hS.2.2 dX1_shape_77
        · have hv := hv.2 d1_110
          by_cases d1_113 : p0 = 113
          · have hv := hv.1 d1_113
            refine lv_lookup (off := 62) (tgt := 63) hx hb dX1_shape_1 (by decide +kernel) (by rw [d1_113]; decide +kernel) (by decide) ?_
            refine va_ldcS hx hb hown hE.2.2.1.2.2.1 dX1_shape_63 ?_
            exact W.aret (v := .ref (gK g 1)) hx hb hr (Or.inl ⟨_, rfl⟩) (Or.inr ⟨_, rfl⟩) (fun t ht hW => ⟨⟨1, gK g 1, rfl, hv, rfl⟩, hS.F ht⟩) hS.2.2 dX1_shape_65
          · have hv := hv.2 d1_113
            by_cases d1_119 : p0 = 119
            · have hv := hv.1 d1_119
              refine lv_lookup (off := 65) (tgt := 66) hx hb dX1_shape_1 (by decide +kernel) (by rw [d1_119]; decide +kernel) (by decide) ?_
              refine va_ldcS hx hb hown hE.2.2.1.2.2.2.1 dX1_shape_66 ?_
              exact W.aret (v := .ref (gK g 2)) hx hb hr (Or.inl ⟨_, rfl⟩) (Or.inr ⟨_, rfl⟩) (fun t ht hW => ⟨⟨2, gK g 2, rfl, hv, rfl⟩, hS.F ht⟩) hS.2.2 dX1_shape_68
            · have hv := hv.2 d1_119
              refine lv_lookup (off := 77) (tgt := 78) hx hb dX1_shape_1 (by decide +kernel) (by first | (rw [lv_osw d1_97 (by decide), lv_osw d1_102 (by decide), lv_osw d1_107 (by decide), lv_osw d1_110 (by decide), lv_osw d1_113 (by decide), lv_osw d1_119 (by decide)]; rfl) | (show Op.lookupswitch.offset [(97, 71), (102, 59), (107, 68), (110, 74), (113, 62), (119, 65)] 77 _ = _; rw [lv_osw d1_97 (by decide), lv_osw d1_102 (by decide), lv_osw d1_107 (by decide), lv_osw d1_110 (by decide), lv_osw d1_113 (by decide), lv_osw d1_119 (by decide)]; rfl)) (by decide) ?_
              refine va_ldcS hx hb hown hE.2.2.1.2.2.2.2.2.2.1 dX1_shape_78 ?_
              exact W.aret (v := .ref (gK g 5)) hx hb hr (Or.inl ⟨_, rfl⟩) (Or.inr ⟨_, rfl⟩) (fun t ht hW => ⟨⟨5, gK g 5, rfl, hv, rfl⟩, hS.F ht⟩) hS.2.2 dX1_shape_80

set_option maxHeartbeats 4000000 in
set_option maxRecDepth 100000 in
theorem m_X1_isOfShape (l : Launch) (h_J0_indexOf_0f7a4 : C_J0_indexOf_0f7a4 l) (g : CX) (p0 : Int32) (p1 : Int32) (Post : Int32 → Prop) (hv : vc_X1_isOfShape p0 p1 Post) : Met l yX1_isOfShape wsX1_isOfShape { frames := 4, cells := 0, slots := 0, locals := 106 } (va_Pc [.int p0, .int p1] (RO g [])) (va_Qi (fun r (_ : Unit) => Post r) (fun _ _ => True) A0) 0 0 A0 := by
  unfold vc_X1_isOfShape at hv
  refine Met.ofW (cc := cX1_isOfShape) (maxL := 2) (ret := (some .boolean)) (by decide) rfl ?_
  intro p e s m args below meth c s₁ B hml hv0
  obtain ⟨rfl, hP, hK, hE⟩ := hv0
  have hx := B.exec
  have hb := B.bytes
  have hr := B.returns
  have hts := atoms_spec (ws := wsX1_isOfShape) B.pre
  have hown : s.vm.findClass RX1 = some m.cls := findClass_of_methodNamed B.named
  have hlocks := B.notSynchronized
  have hS : va_S A0 s.heap s.heap [] := va_S.rf
  have hP : va_P (gD g) vwCl ([]) s.heap := hP
  have hl := lv_entry ([.int p0, .int p1]) (n := 2) (Nat.le_of_ble_eq_true rfl)
  rw [lg_entry_eq]
  generalize (lg_sl ([.int p0, .int p1]) ++ List.replicate (2 - (lg_sl ([.int p0, .int p1])).length) Slot.unset).toArray = ls at hl ⊢
  have hl : lv_has ls 2 [(0, .int p0), (1, .int p1)] := hl
  obtain ⟨H, hH⟩ : ∃ z, z = s.heap := ⟨_, rfl⟩
  obtain ⟨locs, hL⟩ : ∃ z : List Loc, z = [] := ⟨_, rfl⟩
  rw [← hL] at hS ⊢
  have hS : va_S A0 s.heap H locs := by rw [hH]; exact hS
  rw [← hH] at hP ⊢
  clear hH hL
  refine lv_iload_n hx hb dX1_isOfShape_0 rfl (lv_at hl 1 rfl) ?_
  by_cases d1_57 : p1 = 57
  · have hv := hv.1 d1_57
    refine lv_lookup (off := 27) (tgt := 28) hx hb dX1_isOfShape_1 (by decide +kernel) (by rw [d1_57]; decide +kernel) (by decide) ?_
    refine lv_iload_n hx hb dX1_isOfShape_28 rfl (lv_at hl 0 rfl) ?_
    refine lv_bipush (v := 48) hx hb dX1_isOfShape_29 (by decide) ?_
    refine lv_icmp_lt (tgt := 44) hx hb dX1_isOfShape_31 (by decide) (fun c31 => ?_) (fun c31 => ?_)
    · have hv := hv.1 c31
      refine lv_iconst (v := 0) hx hb dX1_isOfShape_44 (by decide) ?_
      exact W.zret (v := 0) hx hb hr rfl (fun t ht hW => ⟨⟨0, (), rfl, hv, trivial⟩, hS.F ht⟩) hS.2.2 dX1_isOfShape_45
    · have hv := hv.2 c31
      refine lv_iload_n hx hb dX1_isOfShape_34 rfl (lv_at hl 0 rfl) ?_
      refine lv_bipush (v := 57) hx hb dX1_isOfShape_35 (by decide) ?_
      refine lv_icmp_gt (tgt := 44) hx hb dX1_isOfShape_37 (by decide) (fun c37 => ?_) (fun c37 => ?_)
      · have hv := hv.1 c37
        refine lv_iconst (v := 0) hx hb dX1_isOfShape_44 (by decide) ?_
        exact W.zret (v := 0) hx hb hr rfl (fun t ht hW => ⟨⟨0, (), rfl, hv, trivial⟩, hS.F ht⟩) hS.2.2 dX1_isOfShape_45
      · have hv := hv.2 c37
        refine lv_iconst (v := 1) hx hb dX1_isOfShape_40 (by decide) ?_
        refine lv_goto (tgt := 45) hx hb dX1_isOfShape_41 (by decide) ?_
        exact W.zret (v := 1) hx hb hr rfl (fun t ht hW => ⟨⟨1, (), rfl, hv, trivial⟩, hS.F ht⟩) hS.2.2 dX1_isOfShape_45
  · have hv := hv.2 d1_57
    by_cases d1_119 : p1 = 119
    · have hv := hv.1 d1_119
      refine lv_lookup (off := 45) (tgt := 46) hx hb dX1_isOfShape_1 (by decide +kernel) (by rw [d1_119]; decide +kernel) (by decide) ?_
      refine va_ldcS hx hb hown hE.2.2.1.2.2.2.2.2.2.2 dX1_isOfShape_46 ?_
      refine lv_iload_n hx hb dX1_isOfShape_48 rfl (lv_at hl 0 rfl) ?_
      have h8 := hv.1
      have hv := hv.2
      have hPc : va_P (gD g) vwCl [] H := fun k q h => by simp at h
      have hi := hv.1
      have hv := hv.2
      refine ro_int (va_runV (As := [.int p0]) (rest := []) ⟨hx, hb, hml, hown, hts⟩ (h_J0_indexOf_0f7a4 g 6 p0 h8) (cwV 1 hts gX1_isOfShape_J0_indexOf_0f7a4 rfl rfl rfl (by decide +kernel) ⟨Nat.le_of_ble_eq_true rfl, Nat.le_of_ble_eq_true rfl⟩) ⟨RO_blind, vk_recv hE.2.2.1.1 hi hS, fun U hU hW => ⟨rfl, by rw [hU]; exact hPc, va_K.moved hW.alike hK, hE.call hW hU hS (fun _ h => h.elim)⟩⟩ rfl rfl hl.1 rfl (lv_room (Nat.le_of_ble_eq_true rfl)) dX1_isOfShape_49 ⟨Nat.le_of_ble_eq_true rfl, Nat.le_of_ble_eq_true rfl⟩) hS hP (fun r H locs hw hP hS => ?_)
      subst r
      refine lv_if_lt (tgt := 59) hx hb dX1_isOfShape_52 (by decide) (fun c52 => ?_) (fun c52 => ?_)
      · have hv := hv.1 c52
        refine lv_iconst (v := 0) hx hb dX1_isOfShape_59 (by decide) ?_
        exact W.zret (v := 0) hx hb hr rfl (fun t ht hW => ⟨⟨0, (), rfl, hv, trivial⟩, hS.F ht⟩) hS.2.2 dX1_isOfShape_60
      · have hv := hv.2 c52
        refine lv_iconst (v := 1) hx hb dX1_isOfShape_55 (by decide) ?_
        refine lv_goto (tgt := 60) hx hb dX1_isOfShape_56 (by decide) ?_
        exact W.zret (v := 1) hx hb hr rfl (fun t ht hW => ⟨⟨1, (), rfl, hv, trivial⟩, hS.F ht⟩) hS.2.2 dX1_isOfShape_60
    · have hv := hv.2 d1_119
      refine lv_lookup (off := 60) (tgt := 61) hx hb dX1_isOfShape_1 (by decide +kernel) (by first | (rw [lv_osw d1_57 (by decide), lv_osw d1_119 (by decide)]; rfl) | (show Op.lookupswitch.offset [(57, 27), (119, 45)] 60 _ = _; rw [lv_osw d1_57 (by decide), lv_osw d1_119 (by decide)]; rfl)) (by decide) ?_
      refine lv_iload_n hx hb dX1_isOfShape_61 rfl (lv_at hl 0 rfl) ?_
      refine lv_iload_n hx hb dX1_isOfShape_62 rfl (lv_at hl 1 rfl) ?_
      refine lv_icmp_ne (tgt := 70) hx hb dX1_isOfShape_63 (by decide) (fun c63 => ?_) (fun c63 => ?_)
      · have hv := hv.1 c63
        refine lv_iconst (v := 0) hx hb dX1_isOfShape_70 (by decide) ?_
        exact W.zret (v := 0) hx hb hr rfl (fun t ht hW => ⟨⟨0, (), rfl, hv, trivial⟩, hS.F ht⟩) hS.2.2 dX1_isOfShape_71
      · have hv := hv.2 c63
        refine lv_iconst (v := 1) hx hb dX1_isOfShape_66 (by decide) ?_
        refine lv_goto (tgt := 71) hx hb dX1_isOfShape_67 (by decide) ?_
        exact W.zret (v := 1) hx hb hr rfl (fun t ht hW => ⟨⟨1, (), rfl, hv, trivial⟩, hS.F ht⟩) hS.2.2 dX1_isOfShape_71

set_option maxHeartbeats 4000000 in
set_option maxRecDepth 100000 in
theorem m_X1_sign (l : Launch)  (g : CX) (ad : Nat → Nat) (o : Nat) (σ : KZ) (p0 : Int32) (Post : Int32 → Prop) (hv : vc_X1_sign σ p0 Post) : Met l yX1_sign wsX1_sign { frames := 0, cells := 0, slots := 0, locals := 0 } (va_Pc [.ref (ad o), .int p0] (RO g (wZ g ad o σ))) (va_Qi (fun r (_ : Unit) => Post r) (fun _ _ => True) A0) 0 0 A0 := by
  unfold vc_X1_sign at hv
  refine Met.ofW (cc := cX1_sign) (maxL := 2) (ret := (some .char)) (by decide) rfl ?_
  intro p e s m args below meth c s₁ B hml hv0
  obtain ⟨rfl, hP, hK, hE⟩ := hv0
  have hx := B.exec
  have hb := B.bytes
  have hr := B.returns
  have hts := atoms_spec (ws := wsX1_sign) B.pre
  have hown : s.vm.findClass RX1 = some m.cls := findClass_of_methodNamed B.named
  have hlocks := B.notSynchronized
  have hi1 : ∀ w ∈ wsX10, w ∈ wsX1_sign := by decide +kernel
  have k0 := hts (.fieldLink RX1 15 "JuryHearsAnswers$Script" "length" "I") (by decide +kernel)
  have k1 := hts (.fieldLink RX1 9 "JuryHearsAnswers$Script" "text" "[C") (by decide +kernel)
  have hS : va_S A0 s.heap s.heap [] := va_S.rf
  have hP : va_P (gD g) vwCl (wZ g ad o σ) s.heap := hP
  have hl := lv_entry ([.ref (ad o), .int p0]) (n := 2) (Nat.le_of_ble_eq_true rfl)
  rw [lg_entry_eq]
  generalize (lg_sl ([.ref (ad o), .int p0]) ++ List.replicate (2 - (lg_sl ([.ref (ad o), .int p0])).length) Slot.unset).toArray = ls at hl ⊢
  have hl : lv_has ls 2 [(0, .ref (ad o)), (1, .int p0)] := hl
  obtain ⟨H, hH⟩ : ∃ z, z = s.heap := ⟨_, rfl⟩
  obtain ⟨locs, hL⟩ : ∃ z : List Loc, z = [] := ⟨_, rfl⟩
  rw [← hL] at hS ⊢
  have hS : va_S A0 s.heap H locs := by rw [hH]; exact hS
  rw [← hH] at hP ⊢
  clear hH hL
  refine lv_iload_n hx hb dX1_sign_0 rfl (lv_at hl 1 rfl) ?_
  refine lv_if_lt (tgt := 27) hx hb dX1_sign_1 (by decide) (fun c1 => ?_) (fun c1 => ?_)
  · have hv := hv.1 c1
    refine lv_iconst (v := 0) hx hb dX1_sign_27 (by decide) ?_
    exact W.zret (v := 0) hx hb hr rfl (fun t ht hW => ⟨⟨0, (), rfl, hv, trivial⟩, hS.F ht⟩) hS.2.2 dX1_sign_28
  · have hv := hv.2 c1
    refine lv_iload_n hx hb dX1_sign_4 rfl (lv_at hl 1 rfl) ?_
    refine lv_aload_n hx hb dX1_sign_5 rfl (lv_at hl 0 rfl) ?_
    refine va_get (D := gD g) (ci := 1) (v := .int (zLen σ)) (C := RX1) (T := TX1) (N := 2) hx hb hts hi1 hown hK hP 0 rfl rfl 0 (by decide) k0 (fun _ h9 => h9) rfl dX1_sign_6 ?_
    refine lv_icmp_ge (tgt := 27) hx hb dX1_sign_9 (by decide) (fun c9 => ?_) (fun c9 => ?_)
    · have hv := hv.1 c9
      refine lv_iconst (v := 0) hx hb dX1_sign_27 (by decide) ?_
      exact W.zret (v := 0) hx hb hr rfl (fun t ht hW => ⟨⟨0, (), rfl, hv, trivial⟩, hS.F ht⟩) hS.2.2 dX1_sign_28
    · have hv := hv.2 c9
      refine lv_iload_n hx hb dX1_sign_12 rfl (lv_at hl 1 rfl) ?_
      refine lv_bipush (v := 96) hx hb dX1_sign_13 (by decide) ?_
      refine lv_icmp_ge (tgt := 27) hx hb dX1_sign_15 (by decide) (fun c15 => ?_) (fun c15 => ?_)
      · have hv := hv.1 c15
        refine lv_iconst (v := 0) hx hb dX1_sign_27 (by decide) ?_
        exact W.zret (v := 0) hx hb hr rfl (fun t ht hW => ⟨⟨0, (), rfl, hv, trivial⟩, hS.F ht⟩) hS.2.2 dX1_sign_28
      · have hv := hv.2 c15
        refine lv_aload_n hx hb dX1_sign_18 rfl (lv_at hl 0 rfl) ?_
        refine va_get (D := gD g) (ci := 1) (v := .ref (ad (o + 1))) (C := RX1) (T := TX1) (N := 2) hx hb hts hi1 hown hK hP 0 rfl rfl 1 (by decide) k1 (fun _ h9 => h9) rfl dX1_sign_19 ?_
        refine lv_iload_n hx hb dX1_sign_22 rfl (lv_at hl 1 rfl) ?_
        have h9 := hv.1
        have hv := hv.2
        refine va_cald (f := (zText σ)) (n := 96) hx hb hK hP 1 2 rfl rfl h9 dX1_sign_23 ?_
        refine lv_goto (tgt := 28) hx hb dX1_sign_24 (by decide) ?_
        have hn := hv.1
        have hv := hv.2
        exact W.zret (v := ((zText σ) (p0).toNatClampNeg)) hx hb hr hn (fun t ht hW => ⟨⟨((zText σ) (p0).toNatClampNeg), (), rfl, hv, trivial⟩, hS.F ht⟩) hS.2.2 dX1_sign_28

set_option maxHeartbeats 4000000 in
set_option maxRecDepth 100000 in
theorem m_X1_digit (l : Launch) (h_X1_sign : C_X1_sign l) (g : CX) (ad : Nat → Nat) (o : Nat) (σ : KZ) (p0 : Int32) (Post : Int32 → Prop) (hv : vc_X1_digit σ p0 Post) : Met l yX1_digit wsX1_digit { frames := 1, cells := 0, slots := 0, locals := 21 } (va_Pc [.ref (ad o), .int p0] (RO g (wZ g ad o σ))) (va_Qi (fun r (_ : Unit) => Post r) (fun _ _ => True) A0) 0 0 A0 := by
  unfold vc_X1_digit at hv
  refine Met.ofW (cc := cX1_digit) (maxL := 2) (ret := (some .int)) (by decide) rfl ?_
  intro p e s m args below meth c s₁ B hml hv0
  obtain ⟨rfl, hP, hK, hE⟩ := hv0
  have hx := B.exec
  have hb := B.bytes
  have hr := B.returns
  have hts := atoms_spec (ws := wsX1_digit) B.pre
  have hown : s.vm.findClass RX1 = some m.cls := findClass_of_methodNamed B.named
  have hlocks := B.notSynchronized
  have hS : va_S A0 s.heap s.heap [] := va_S.rf
  have hP : va_P (gD g) vwCl (wZ g ad o σ) s.heap := hP
  have hl := lv_entry ([.ref (ad o), .int p0]) (n := 2) (Nat.le_of_ble_eq_true rfl)
  rw [lg_entry_eq]
  generalize (lg_sl ([.ref (ad o), .int p0]) ++ List.replicate (2 - (lg_sl ([.ref (ad o), .int p0])).length) Slot.unset).toArray = ls at hl ⊢
  have hl : lv_has ls 2 [(0, .ref (ad o)), (1, .int p0)] := hl
  obtain ⟨H, hH⟩ : ∃ z, z = s.heap := ⟨_, rfl⟩
  obtain ⟨locs, hL⟩ : ∃ z : List Loc, z = [] := ⟨_, rfl⟩
  rw [← hL] at hS ⊢
  have hS : va_S A0 s.heap H locs := by rw [hH]; exact hS
  rw [← hH] at hP ⊢
  clear hH hL
  refine lv_aload_n hx hb dX1_digit_0 rfl (lv_at hl 0 rfl) ?_
  refine lv_iload_n hx hb dX1_digit_1 rfl (lv_at hl 1 rfl) ?_
  have h8 := hv.1
  have hv := hv.2
  have hPc := hP
  refine ro_int (va_runV (As := [.int p0]) (rest := []) ⟨hx, hb, hml, hown, hts⟩ (h_X1_sign g ad o σ p0 h8) (cwV 1 hts gX1_digit_X1_sign rfl rfl rfl (by decide +kernel) ⟨Nat.le_of_ble_eq_true rfl, Nat.le_of_ble_eq_true rfl⟩) ⟨RO_blind, va_recv hK hP (ci := 1) (q0 := 0) rfl rfl, fun U hU hW => ⟨rfl, by rw [hU]; exact hPc, va_K.moved hW.alike hK, hE.call hW hU hS (fun _ h => h.elim)⟩⟩ rfl rfl hl.1 rfl (lv_room (Nat.le_of_ble_eq_true rfl)) dX1_digit_2 ⟨Nat.le_of_ble_eq_true rfl, Nat.le_of_ble_eq_true rfl⟩) hS hP (fun r H locs hw hP hS => ?_)
  subst r
  refine lv_bipush (v := 48) hx hb dX1_digit_5 (by decide) ?_
  refine lv_isub hx hb dX1_digit_7 ?_
  exact W.iret (v := ((signI σ p0) - 48)) hx hb hr (fun t ht hW => ⟨⟨((signI σ p0) - 48), (), rfl, hv, trivial⟩, hS.F ht⟩) hS.2.2 dX1_digit_8

set_option maxHeartbeats 4000000 in
set_option maxRecDepth 100000 in
theorem m_X1_statementLength (l : Launch) (h_J0_length_8abf5 : C_J0_length_8abf5 l) (h_X1_shape : C_X1_shape l) (h_X1_sign : C_X1_sign l) (g : CX) (ad : Nat → Nat) (o : Nat) (σ : KZ) (p0 : Int32) (Post : Int32 → Prop) (hv : vc_X1_statementLength σ p0 Post) : Met l yX1_statementLength wsX1_statementLength { frames := 2, cells := 0, slots := 0, locals := 40 } (va_Pc [.ref (ad o), .int p0] (RO g (wZ g ad o σ))) (va_Qi (fun r (_ : Unit) => Post r) (fun _ _ => True) A0) 0 0 A0 := by
  unfold vc_X1_statementLength at hv
  refine Met.ofW (cc := cX1_statementLength) (maxL := 2) (ret := (some .int)) (by decide) rfl ?_
  intro p e s m args below meth c s₁ B hml hv0
  obtain ⟨rfl, hP, hK, hE⟩ := hv0
  have hx := B.exec
  have hb := B.bytes
  have hr := B.returns
  have hts := atoms_spec (ws := wsX1_statementLength) B.pre
  have hown : s.vm.findClass RX1 = some m.cls := findClass_of_methodNamed B.named
  have hlocks := B.notSynchronized
  have hS : va_S A0 s.heap s.heap [] := va_S.rf
  have hP : va_P (gD g) vwCl (wZ g ad o σ) s.heap := hP
  have hl := lv_entry ([.ref (ad o), .int p0]) (n := 2) (Nat.le_of_ble_eq_true rfl)
  rw [lg_entry_eq]
  generalize (lg_sl ([.ref (ad o), .int p0]) ++ List.replicate (2 - (lg_sl ([.ref (ad o), .int p0])).length) Slot.unset).toArray = ls at hl ⊢
  have hl : lv_has ls 2 [(0, .ref (ad o)), (1, .int p0)] := hl
  obtain ⟨H, hH⟩ : ∃ z, z = s.heap := ⟨_, rfl⟩
  obtain ⟨locs, hL⟩ : ∃ z : List Loc, z = [] := ⟨_, rfl⟩
  rw [← hL] at hS ⊢
  have hS : va_S A0 s.heap H locs := by rw [hH]; exact hS
  rw [← hH] at hP ⊢
  clear hH hL
  refine lv_iconst (v := 1) hx hb dX1_statementLength_0 (by decide) ?_
  refine lv_aload_n hx hb dX1_statementLength_1 rfl (lv_at hl 0 rfl) ?_
  refine lv_iload_n hx hb dX1_statementLength_2 rfl (lv_at hl 1 rfl) ?_
  have h8 := hv.1
  have hv := hv.2
  have hPc := hP
  refine ro_int (va_runV (As := [.int p0]) (rest := [.int 1]) ⟨hx, hb, hml, hown, hts⟩ (h_X1_sign g ad o σ p0 h8) (cwV 1 hts gX1_statementLength_X1_sign rfl rfl rfl (by decide +kernel) ⟨Nat.le_of_ble_eq_true rfl, Nat.le_of_ble_eq_true rfl⟩) ⟨RO_blind, va_recv hK hP (ci := 1) (q0 := 0) rfl rfl, fun U hU hW => ⟨rfl, by rw [hU]; exact hPc, va_K.moved hW.alike hK, hE.call hW hU hS (fun _ h => h.elim)⟩⟩ rfl rfl hl.1 rfl (lv_room (Nat.le_of_ble_eq_true rfl)) dX1_statementLength_3 ⟨Nat.le_of_ble_eq_true rfl, Nat.le_of_ble_eq_true rfl⟩) hS hP (fun r H locs hw hP hS => ?_)
  subst r
  have hPc : va_P (gD g) vwCl [] H := fun k q h => by simp at h
  refine ro_str (va_runS (As := [.int (signI σ p0)]) (rest := [.int 1]) ⟨hx, hb, hml, hown, hts⟩ (h_X1_shape g (signI σ p0)) (va_cwS 1 hts gX1_statementLength_X1_shape rfl rfl rfl (by decide +kernel) ⟨Nat.le_of_ble_eq_true rfl, Nat.le_of_ble_eq_true rfl⟩) ⟨RO_blind, fun U hU hW => ⟨rfl, by rw [hU]; exact hPc, va_K.moved hW.alike hK, hE.call hW hU hS (fun _ h => h.elim)⟩⟩ rfl rfl hl.1 rfl (lv_room (Nat.le_of_ble_eq_true rfl)) dX1_statementLength_6 ⟨Nat.le_of_ble_eq_true rfl, Nat.le_of_ble_eq_true rfl⟩) hS hP (fun r H locs hw hP hS => ?_)
  subst r
  have h8 := hv.1
  have hv := hv.2
  have hPc : va_P (gD g) vwCl [] H := fun k q h => by simp at h
  have hi := hv.1
  have hv := hv.2
  refine ro_int (va_runV (As := []) (rest := [.int 1]) ⟨hx, hb, hml, hown, hts⟩ (h_J0_length_8abf5 g (shapeN (signI σ p0)) h8) (cwV 0 hts gX1_statementLength_J0_length_8abf5 rfl rfl rfl (by decide +kernel) ⟨Nat.le_of_ble_eq_true rfl, Nat.le_of_ble_eq_true rfl⟩) ⟨RO_blind, vk_recv hE.2.2.1.1 hi hS, fun U hU hW => ⟨rfl, by rw [hU]; exact hPc, va_K.moved hW.alike hK, hE.call hW hU hS (fun _ h => h.elim)⟩⟩ rfl rfl hl.1 rfl (lv_room (Nat.le_of_ble_eq_true rfl)) dX1_statementLength_9 ⟨Nat.le_of_ble_eq_true rfl, Nat.le_of_ble_eq_true rfl⟩) hS hP (fun r H locs hw hP hS => ?_)
  subst r
  refine lv_iadd hx hb dX1_statementLength_12 ?_
  exact W.iret (v := (1 + (lenI (shapeN (signI σ p0))))) hx hb hr (fun t ht hW => ⟨⟨(1 + (lenI (shapeN (signI σ p0)))), (), rfl, hv, trivial⟩, hS.F ht⟩) hS.2.2 dX1_statementLength_13

set_option maxHeartbeats 4000000 in
set_option maxRecDepth 100000 in
theorem m_X1_brokenPlace (l : Launch) (h_J0_charAt_5068e : C_J0_charAt_5068e l) (h_J0_isEmpty_aae02 : C_J0_isEmpty_aae02 l) (h_J0_length_8abf5 : C_J0_length_8abf5 l) (h_X1_isOfShape : C_X1_isOfShape l) (h_X1_shape : C_X1_shape l) (g : CX) (ad : Nat → Nat) (o : Nat) (σ : KZ)  (Post : Int32 → Prop) (hv : vc_X1_brokenPlace σ Post) : Met l yX1_brokenPlace wsX1_brokenPlace { frames := 5, cells := 0, slots := 0, locals := 127 } (va_Pc [.ref (ad o)] (RO g (wZ g ad o σ))) (va_Qi (fun r (_ : Unit) => Post r) (fun _ _ => True) A0) 0 0 A0 := by
  unfold vc_X1_brokenPlace at hv
  refine Met.ofW (cc := cX1_brokenPlace) (maxL := 4) (ret := (some .int)) (by decide) rfl ?_
  intro p e s m args below meth c s₁ B hml hv0
  obtain ⟨rfl, hP, hK, hE⟩ := hv0
  have hx := B.exec
  have hb := B.bytes
  have hr := B.returns
  have hts := atoms_spec (ws := wsX1_brokenPlace) B.pre
  have hown : s.vm.findClass RX1 = some m.cls := findClass_of_methodNamed B.named
  have hlocks := B.notSynchronized
  have hi1 : ∀ w ∈ wsX10, w ∈ wsX1_brokenPlace := by decide +kernel
  have k0 := hts (.fieldLink RX1 15 "JuryHearsAnswers$Script" "length" "I") (by decide +kernel)
  have k1 := hts (.fieldLink RX1 9 "JuryHearsAnswers$Script" "text" "[C") (by decide +kernel)
  have hS : va_S A0 s.heap s.heap [] := va_S.rf
  have hP : va_P (gD g) vwCl (wZ g ad o σ) s.heap := hP
  have hl := lv_entry ([.ref (ad o)]) (n := 4) (Nat.le_of_ble_eq_true rfl)
  rw [lg_entry_eq]
  generalize (lg_sl ([.ref (ad o)]) ++ List.replicate (4 - (lg_sl ([.ref (ad o)])).length) Slot.unset).toArray = ls at hl ⊢
  have hl : lv_has ls 4 [(0, .ref (ad o))] := hl
  have hv := hv (fun (x1 : Nat) (x2 : Int32) (x3 : Int32) => ∀ (H : Heap) (locs : List Loc) (ls : Array Slot), va_P (gD g) vwCl (wZ g ad o σ) H → va_S A0 s.heap H locs → lv_has ls 4 [(0, .ref (ad o)), (1, .ref (gK g x1)), (2, .int x2), (3, .int x3)] → W p l e { frames := 5, cells := 0, slots := 0, locals := 127 } s m ([.ref (ad o)] : List Value).toArray below meth c H locs 0 0 (MQ below (va_Qi (fun r (_ : Unit) => Post r) (fun _ _ => True) A0) ([.ref (ad o)] : List Value).toArray s 0 0 A0) (F0 m 7 ls []))
  have hv := hv (by
    intro x1 x2 x3 hv H locs ls hP hS hl
    refine lv_iload_n hx hb dX1_brokenPlace_7 rfl (lv_at hl 3 rfl) ?_
    refine lv_aload_n hx hb dX1_brokenPlace_8 rfl (lv_at hl 0 rfl) ?_
    refine va_get (D := gD g) (ci := 1) (v := .int (zLen σ)) (C := RX1) (T := TX1) (N := 2) hx hb hts hi1 hown hK hP 0 rfl rfl 0 (by decide) k0 (fun _ h9 => h9) rfl dX1_brokenPlace_9 ?_
    refine lv_icmp_ge (tgt := 75) hx hb dX1_brokenPlace_12 (by decide) (fun c12 => ?_) (fun c12 => ?_)
    · have hv := hv.1 c12
      refine lv_aload_n hx hb dX1_brokenPlace_75 rfl (lv_at hl 0 rfl) ?_
      refine va_get (D := gD g) (ci := 1) (v := .int (zLen σ)) (C := RX1) (T := TX1) (N := 2) hx hb hts hi1 hown hK hP 0 rfl rfl 0 (by decide) k0 (fun _ h9 => h9) rfl dX1_brokenPlace_76 ?_
      refine lv_if_eq (tgt := 90) hx hb dX1_brokenPlace_79 (by decide) (fun c79 => ?_) (fun c79 => ?_)
      · have hv := hv.1 c79
        refine lv_aload_n hx hb dX1_brokenPlace_90 rfl (lv_at hl 0 rfl) ?_
        refine va_get (D := gD g) (ci := 1) (v := .int (zLen σ)) (C := RX1) (T := TX1) (N := 2) hx hb hts hi1 hown hK hP 0 rfl rfl 0 (by decide) k0 (fun _ h9 => h9) rfl dX1_brokenPlace_91 ?_
        refine lv_goto (tgt := 98) hx hb dX1_brokenPlace_94 (by decide) ?_
        exact W.iret (v := (zLen σ)) hx hb hr (fun t ht hW => ⟨⟨(zLen σ), (), rfl, hv, trivial⟩, hS.F ht⟩) hS.2.2 dX1_brokenPlace_98
      · have hv := hv.2 c79
        refine lv_iload_n hx hb dX1_brokenPlace_82 rfl (lv_at hl 2 rfl) ?_
        refine lv_aload_n hx hb dX1_brokenPlace_83 rfl (lv_at hl 1 rfl) ?_
        have h8 := hv.1
        have hv := hv.2
        have hPc : va_P (gD g) vwCl [] H := fun k q h => by simp at h
        have hi := hv.1
        have hv := hv.2
        refine ro_int (va_runV (As := []) (rest := [.int x2]) ⟨hx, hb, hml, hown, hts⟩ (h_J0_length_8abf5 g x1 h8) (cwV 0 hts gX1_brokenPlace_J0_length_8abf5 rfl rfl rfl (by decide +kernel) ⟨Nat.le_of_ble_eq_true rfl, Nat.le_of_ble_eq_true rfl⟩) ⟨RO_blind, vk_recv hE.2.2.1.1 hi hS, fun U hU hW => ⟨rfl, by rw [hU]; exact hPc, va_K.moved hW.alike hK, hE.call hW hU hS (fun _ h => h.elim)⟩⟩ rfl rfl hl.1 rfl (lv_room (Nat.le_of_ble_eq_true rfl)) dX1_brokenPlace_84 ⟨Nat.le_of_ble_eq_true rfl, Nat.le_of_ble_eq_true rfl⟩) hS hP (fun r H locs hw hP hS => ?_)
        subst r
        refine lv_icmp_ge (tgt := 97) hx hb dX1_brokenPlace_87 (by decide) (fun c87 => ?_) (fun c87 => ?_)
        · have hv := hv.1 c87
          refine lv_iconst (v := (-1)) hx hb dX1_brokenPlace_97 (by decide) ?_
          exact W.iret (v := (-1)) hx hb hr (fun t ht hW => ⟨⟨(-1), (), rfl, hv, trivial⟩, hS.F ht⟩) hS.2.2 dX1_brokenPlace_98
        · have hv := hv.2 c87
          refine lv_aload_n hx hb dX1_brokenPlace_90 rfl (lv_at hl 0 rfl) ?_
          refine va_get (D := gD g) (ci := 1) (v := .int (zLen σ)) (C := RX1) (T := TX1) (N := 2) hx hb hts hi1 hown hK hP 0 rfl rfl 0 (by decide) k0 (fun _ h9 => h9) rfl dX1_brokenPlace_91 ?_
          refine lv_goto (tgt := 98) hx hb dX1_brokenPlace_94 (by decide) ?_
          exact W.iret (v := (zLen σ)) hx hb hr (fun t ht hW => ⟨⟨(zLen σ), (), rfl, hv, trivial⟩, hS.F ht⟩) hS.2.2 dX1_brokenPlace_98
    · have hv := hv.2 c12
      refine lv_iload_n hx hb dX1_brokenPlace_15 rfl (lv_at hl 2 rfl) ?_
      refine lv_aload_n hx hb dX1_brokenPlace_16 rfl (lv_at hl 1 rfl) ?_
      have h8 := hv.1
      have hv := hv.2
      have hPc : va_P (gD g) vwCl [] H := fun k q h => by simp at h
      have hi := hv.1
      have hv := hv.2
      refine ro_int (va_runV (As := []) (rest := [.int x2]) ⟨hx, hb, hml, hown, hts⟩ (h_J0_length_8abf5 g x1 h8) (cwV 0 hts gX1_brokenPlace_J0_length_8abf5 rfl rfl rfl (by decide +kernel) ⟨Nat.le_of_ble_eq_true rfl, Nat.le_of_ble_eq_true rfl⟩) ⟨RO_blind, vk_recv hE.2.2.1.1 hi hS, fun U hU hW => ⟨rfl, by rw [hU]; exact hPc, va_K.moved hW.alike hK, hE.call hW hU hS (fun _ h => h.elim)⟩⟩ rfl rfl hl.1 rfl (lv_room (Nat.le_of_ble_eq_true rfl)) dX1_brokenPlace_17 ⟨Nat.le_of_ble_eq_true rfl, Nat.le_of_ble_eq_true rfl⟩) hS hP (fun r H locs hw hP hS => ?_)
      subst r
      refine lv_icmp_lt (tgt := 44) hx hb dX1_brokenPlace_20 (by decide) (fun c20 => ?_) (fun c20 => ?_)
      · have hv := hv.1 c20
        refine lv_aload_n hx hb dX1_brokenPlace_44 rfl (lv_at hl 0 rfl) ?_
        refine va_get (D := gD g) (ci := 1) (v := .ref (ad (o + 1))) (C := RX1) (T := TX1) (N := 2) hx hb hts hi1 hown hK hP 0 rfl rfl 1 (by decide) k1 (fun _ h9 => h9) rfl dX1_brokenPlace_45 ?_
        refine lv_iload_n hx hb dX1_brokenPlace_48 rfl (lv_at hl 3 rfl) ?_
        have h9 := hv.1
        have hv := hv.2
        refine va_cald (f := (zText σ)) (n := 96) hx hb hK hP 1 2 rfl rfl h9 dX1_brokenPlace_49 ?_
        refine lv_aload_n hx hb dX1_brokenPlace_50 rfl (lv_at hl 1 rfl) ?_
        refine lv_iload_n hx hb dX1_brokenPlace_51 rfl (lv_at hl 2 rfl) ?_
        have h8 := hv.1
        have hv := hv.2
        have hPc : va_P (gD g) vwCl [] H := fun k q h => by simp at h
        have hi := hv.1
        have hv := hv.2
        refine ro_int (va_runV (As := [.int x2]) (rest := [.int ((zText σ) (x3).toNatClampNeg)]) ⟨hx, hb, hml, hown, hts⟩ (h_J0_charAt_5068e g x1 x2 h8) (cwV 1 hts gX1_brokenPlace_J0_charAt_5068e rfl rfl rfl (by decide +kernel) ⟨Nat.le_of_ble_eq_true rfl, Nat.le_of_ble_eq_true rfl⟩) ⟨RO_blind, vk_recv hE.2.2.1.1 hi hS, fun U hU hW => ⟨rfl, by rw [hU]; exact hPc, va_K.moved hW.alike hK, hE.call hW hU hS (fun _ h => h.elim)⟩⟩ rfl rfl hl.1 rfl (lv_room (Nat.le_of_ble_eq_true rfl)) dX1_brokenPlace_52 ⟨Nat.le_of_ble_eq_true rfl, Nat.le_of_ble_eq_true rfl⟩) hS hP (fun r H locs hw hP hS => ?_)
        subst r
        have h8 := hv.1
        have hv := hv.2
        have hPc : va_P (gD g) vwCl [] H := fun k q h => by simp at h
        refine ro_int (va_runS (As := [.int ((zText σ) (x3).toNatClampNeg), .int (chS x1 x2)]) (rest := []) ⟨hx, hb, hml, hown, hts⟩ (h_X1_isOfShape g ((zText σ) (x3).toNatClampNeg) (chS x1 x2) h8) (va_cwS 2 hts gX1_brokenPlace_X1_isOfShape rfl rfl rfl (by decide +kernel) ⟨Nat.le_of_ble_eq_true rfl, Nat.le_of_ble_eq_true rfl⟩) ⟨RO_blind, fun U hU hW => ⟨rfl, by rw [hU]; exact hPc, va_K.moved hW.alike hK, hE.call hW hU hS (fun _ h => h.elim)⟩⟩ rfl rfl hl.1 rfl (lv_room (Nat.le_of_ble_eq_true rfl)) dX1_brokenPlace_55 ⟨Nat.le_of_ble_eq_true rfl, Nat.le_of_ble_eq_true rfl⟩) hS hP (fun r H locs hw hP hS => ?_)
        subst r
        refine lv_if_eq (tgt := 67) hx hb dX1_brokenPlace_58 (by decide) (fun c58 => ?_) (fun c58 => ?_)
        · have hv := hv.1 c58
          refine lv_iload_n hx hb dX1_brokenPlace_67 rfl (lv_at hl 3 rfl) ?_
          exact W.iret (v := x3) hx hb hr (fun t ht hW => ⟨⟨x3, (), rfl, hv, trivial⟩, hS.F ht⟩) hS.2.2 dX1_brokenPlace_68
        · have hv := hv.2 c58
          refine lv_iinc (v := (x2 + 1)) (lv' := [(2, .int (x2 + 1)), (0, .ref (ad o)), (1, .ref (gK g x1)), (3, .int x3)]) hx hb dX1_brokenPlace_61 hl (k := 2) rfl (by first | rfl | exact congrArg _ (by decide)) (by decide) rfl (fun ls hl => ?_)
          refine lv_goto (tgt := 69) hx hb dX1_brokenPlace_64 (by decide) ?_
          refine lv_iinc (v := (x3 + 1)) (lv' := [(3, .int (x3 + 1)), (2, .int (x2 + 1)), (0, .ref (ad o)), (1, .ref (gK g x1))]) hx hb dX1_brokenPlace_69 hl (k := 3) rfl (by first | rfl | exact congrArg _ (by decide)) (by decide) rfl (fun ls hl => ?_)
          refine lv_goto (tgt := 7) hx hb dX1_brokenPlace_72 (by decide) ?_
          exact hv H locs ls hP hS (lv_sub hl [2, 3, 1, 0] rfl)
      · have hv := hv.2 c20
        refine lv_aload_n hx hb dX1_brokenPlace_23 rfl (lv_at hl 0 rfl) ?_
        refine va_get (D := gD g) (ci := 1) (v := .ref (ad (o + 1))) (C := RX1) (T := TX1) (N := 2) hx hb hts hi1 hown hK hP 0 rfl rfl 1 (by decide) k1 (fun _ h9 => h9) rfl dX1_brokenPlace_24 ?_
        refine lv_iload_n hx hb dX1_brokenPlace_27 rfl (lv_at hl 3 rfl) ?_
        have h9 := hv.1
        have hv := hv.2
        refine va_cald (f := (zText σ)) (n := 96) hx hb hK hP 1 2 rfl rfl h9 dX1_brokenPlace_28 ?_
        have hPc : va_P (gD g) vwCl [] H := fun k q h => by simp at h
        refine ro_str (va_runS (As := [.int ((zText σ) (x3).toNatClampNeg)]) (rest := []) ⟨hx, hb, hml, hown, hts⟩ (h_X1_shape g ((zText σ) (x3).toNatClampNeg)) (va_cwS 1 hts gX1_brokenPlace_X1_shape rfl rfl rfl (by decide +kernel) ⟨Nat.le_of_ble_eq_true rfl, Nat.le_of_ble_eq_true rfl⟩) ⟨RO_blind, fun U hU hW => ⟨rfl, by rw [hU]; exact hPc, va_K.moved hW.alike hK, hE.call hW hU hS (fun _ h => h.elim)⟩⟩ rfl rfl hl.1 rfl (lv_room (Nat.le_of_ble_eq_true rfl)) dX1_brokenPlace_29 ⟨Nat.le_of_ble_eq_true rfl, Nat.le_of_ble_eq_true rfl⟩) hS hP (fun r H locs hw hP hS => ?_)
        subst r
        refine lv_astore_n (lv' := [(1, .ref (gK g (shapeN ((zText σ) (x3).toNatClampNeg)))), (0, .ref (ad o)), (2, .int x2), (3, .int x3)]) hx hb dX1_brokenPlace_32 rfl hl (by decide) rfl (fun ls hl => ?_)
        refine lv_iconst (v := 0) hx hb dX1_brokenPlace_33 (by decide) ?_
        refine lv_istore_n (lv' := [(2, .int 0), (1, .ref (gK g (shapeN ((zText σ) (x3).toNatClampNeg)))), (0, .ref (ad o)), (3, .int x3)]) hx hb dX1_brokenPlace_34 rfl hl (by decide) rfl (fun ls hl => ?_)
        refine lv_aload_n hx hb dX1_brokenPlace_35 rfl (lv_at hl 1 rfl) ?_
        have h8 := hv.1
        have hv := hv.2
        have hPc : va_P (gD g) vwCl [] H := fun k q h => by simp at h
        have hi := hv.1
        have hv := hv.2
        refine ro_int (va_runV (As := []) (rest := []) ⟨hx, hb, hml, hown, hts⟩ (h_J0_isEmpty_aae02 g (shapeN ((zText σ) (x3).toNatClampNeg)) h8) (cwV 0 hts gX1_brokenPlace_J0_isEmpty_aae02 rfl rfl rfl (by decide +kernel) ⟨Nat.le_of_ble_eq_true rfl, Nat.le_of_ble_eq_true rfl⟩) ⟨RO_blind, vk_recv hE.2.2.1.1 hi hS, fun U hU hW => ⟨rfl, by rw [hU]; exact hPc, va_K.moved hW.alike hK, hE.call hW hU hS (fun _ h => h.elim)⟩⟩ rfl rfl hl.1 rfl (lv_room (Nat.le_of_ble_eq_true rfl)) dX1_brokenPlace_36 ⟨Nat.le_of_ble_eq_true rfl, Nat.le_of_ble_eq_true rfl⟩) hS hP (fun r H locs hw hP hS => ?_)
        subst r
        refine lv_if_eq (tgt := 69) hx hb dX1_brokenPlace_39 (by decide) (fun c39 => ?_) (fun c39 => ?_)
        · have hv := hv.1 c39
          refine lv_iinc (v := (x3 + 1)) (lv' := [(3, .int (x3 + 1)), (2, .int 0), (1, .ref (gK g (shapeN ((zText σ) (x3).toNatClampNeg)))), (0, .ref (ad o))]) hx hb dX1_brokenPlace_69 hl (k := 3) rfl (by first | rfl | exact congrArg _ (by decide)) (by decide) rfl (fun ls hl => ?_)
          refine lv_goto (tgt := 7) hx hb dX1_brokenPlace_72 (by decide) ?_
          exact hv H locs ls hP hS (lv_sub hl [3, 2, 1, 0] rfl)
        · have hv := hv.2 c39
          refine lv_iload_n hx hb dX1_brokenPlace_42 rfl (lv_at hl 3 rfl) ?_
          exact W.iret (v := x3) hx hb hr (fun t ht hW => ⟨⟨x3, (), rfl, hv, trivial⟩, hS.F ht⟩) hS.2.2 dX1_brokenPlace_43)
  obtain ⟨H, hH⟩ : ∃ z, z = s.heap := ⟨_, rfl⟩
  obtain ⟨locs, hL⟩ : ∃ z : List Loc, z = [] := ⟨_, rfl⟩
  rw [← hL] at hS ⊢
  have hS : va_S A0 s.heap H locs := by rw [hH]; exact hS
  rw [← hH] at hP ⊢
  clear hH hL
  refine va_ldcS hx hb hown hE.2.2.1.2.2.2.2.2.2.1 dX1_brokenPlace_0 ?_
  refine lv_astore_n (lv' := [(1, .ref (gK g 5)), (0, .ref (ad o))]) hx hb dX1_brokenPlace_2 rfl hl (by decide) rfl (fun ls hl => ?_)
  refine lv_iconst (v := 0) hx hb dX1_brokenPlace_3 (by decide) ?_
  refine lv_istore_n (lv' := [(2, .int 0), (1, .ref (gK g 5)), (0, .ref (ad o))]) hx hb dX1_brokenPlace_4 rfl hl (by decide) rfl (fun ls hl => ?_)
  refine lv_iconst (v := 0) hx hb dX1_brokenPlace_5 (by decide) ?_
  refine lv_istore_n (lv' := [(3, .int 0), (2, .int 0), (1, .ref (gK g 5)), (0, .ref (ad o))]) hx hb dX1_brokenPlace_6 rfl hl (by decide) rfl (fun ls hl => ?_)
  exact hv H locs ls hP hS (lv_sub hl [3, 2, 1, 0] rfl)

set_option maxHeartbeats 4000000 in
set_option maxRecDepth 100000 in
theorem m_X1_playWitness (l : Launch) (h_J0_indexOf_0f7a4 : C_J0_indexOf_0f7a4 l) (h_X0_addWitness : C_X0_addWitness l) (h_X1_digit : C_X1_digit l) (h_X1_sign : C_X1_sign l) (g : CX) (ad : Nat → Nat) (σ : KP) (p0 : Int32) (Post : Int32 → KP → Prop) (hv : vc_X1_playWitness σ p0 Post) : Met l yX1_playWitness wsX1_playWitness { frames := 4, cells := 0, slots := 0, locals := 106 } (va_Pc [.ref (ad 43), .int p0, .ref (ad 30)] (RW g (AD ad 30 15) (wP g ad σ))) (va_Qi (fun (r : Int32) (u : KP) => Post r u) (fun u t => va_P (gD g) vwCl (wP g ad u) t.heap) (AD ad 30 15)) 0 0 (AD ad 30 15) := by
  unfold vc_X1_playWitness at hv
  refine Met.ofW (cc := cX1_playWitness) (maxL := 4) (ret := (some .boolean)) (by decide) rfl ?_
  intro p e s m args below meth c s₁ B hml hv0
  obtain ⟨rfl, hP, hK, hE, hD⟩ := hv0
  have hx := B.exec
  have hb := B.bytes
  have hr := B.returns
  have hts := atoms_spec (ws := wsX1_playWitness) B.pre
  have hown : s.vm.findClass RX1 = some m.cls := findClass_of_methodNamed B.named
  have hlocks := B.notSynchronized
  have hS : va_S (AD ad 30 15) s.heap s.heap [] := va_S.rf
  have hP : va_P (gD g) vwCl (wP g ad σ) s.heap := hP
  have hl := lv_entry ([.ref (ad 43), .int p0, .ref (ad 30)]) (n := 4) (Nat.le_of_ble_eq_true rfl)
  rw [lg_entry_eq]
  generalize (lg_sl ([.ref (ad 43), .int p0, .ref (ad 30)]) ++ List.replicate (4 - (lg_sl ([.ref (ad 43), .int p0, .ref (ad 30)])).length) Slot.unset).toArray = ls at hl ⊢
  have hl : lv_has ls 4 [(0, .ref (ad 43)), (1, .int p0), (2, .ref (ad 30))] := hl
  obtain ⟨H, hH⟩ : ∃ z, z = s.heap := ⟨_, rfl⟩
  obtain ⟨locs, hL⟩ : ∃ z : List Loc, z = [] := ⟨_, rfl⟩
  rw [← hL] at hS ⊢
  have hS : va_S (AD ad 30 15) s.heap H locs := by rw [hH]; exact hS
  rw [← hH] at hP ⊢
  clear hH hL
  refine lv_bipush (v := 10) hx hb dX1_playWitness_0 (by decide) ?_
  refine lv_aload_n hx hb dX1_playWitness_2 rfl (lv_at hl 0 rfl) ?_
  refine lv_iload_n hx hb dX1_playWitness_3 rfl (lv_at hl 1 rfl) ?_
  refine lv_iconst (v := 3) hx hb dX1_playWitness_4 (by decide) ?_
  refine lv_iadd hx hb dX1_playWitness_5 ?_
  have h8 := hv.1
  have hv := hv.2
  have hPc : va_P (gD g) vwCl (wZ g ad 43 (qScr σ)) H := hP.sub [13, 14] rfl
  refine ro_int (va_runV (As := [.int (p0 + 3)]) (rest := [.int 10]) ⟨hx, hb, hml, hown, hts⟩ (h_X1_digit g ad 43 (qScr σ) (p0 + 3) h8) (cwV 1 hts gX1_playWitness_X1_digit rfl rfl rfl (by decide +kernel) ⟨Nat.le_of_ble_eq_true rfl, Nat.le_of_ble_eq_true rfl⟩) ⟨RO_blind, va_recv hK hP (ci := 1) (q0 := 13) rfl rfl, fun U hU hW => ⟨rfl, by rw [hU]; exact hPc, va_K.moved hW.alike hK, hE.call hW hU hS (fun _ h => h.elim)⟩⟩ rfl rfl hl.1 rfl (lv_room (Nat.le_of_ble_eq_true rfl)) dX1_playWitness_6 ⟨Nat.le_of_ble_eq_true rfl, Nat.le_of_ble_eq_true rfl⟩) hS hP (fun r H locs hw hP hS => ?_)
  subst r
  refine lv_imul hx hb dX1_playWitness_9 ?_
  refine lv_aload_n hx hb dX1_playWitness_10 rfl (lv_at hl 0 rfl) ?_
  refine lv_iload_n hx hb dX1_playWitness_11 rfl (lv_at hl 1 rfl) ?_
  refine lv_iconst (v := 4) hx hb dX1_playWitness_12 (by decide) ?_
  refine lv_iadd hx hb dX1_playWitness_13 ?_
  have h8 := hv.1
  have hv := hv.2
  have hPc : va_P (gD g) vwCl (wZ g ad 43 (qScr σ)) H := hP.sub [13, 14] rfl
  refine ro_int (va_runV (As := [.int (p0 + 4)]) (rest := [.int (10 * (digV (qScr σ) (p0 + 3)))]) ⟨hx, hb, hml, hown, hts⟩ (h_X1_digit g ad 43 (qScr σ) (p0 + 4) h8) (cwV 1 hts gX1_playWitness_X1_digit rfl rfl rfl (by decide +kernel) ⟨Nat.le_of_ble_eq_true rfl, Nat.le_of_ble_eq_true rfl⟩) ⟨RO_blind, va_recv hK hP (ci := 1) (q0 := 13) rfl rfl, fun U hU hW => ⟨rfl, by rw [hU]; exact hPc, va_K.moved hW.alike hK, hE.call hW hU hS (fun _ h => h.elim)⟩⟩ rfl rfl hl.1 rfl (lv_room (Nat.le_of_ble_eq_true rfl)) dX1_playWitness_14 ⟨Nat.le_of_ble_eq_true rfl, Nat.le_of_ble_eq_true rfl⟩) hS hP (fun r H locs hw hP hS => ?_)
  subst r
  refine lv_iadd hx hb dX1_playWitness_17 ?_
  refine lv_istore_n (lv' := [(3, .int ((10 * (digV (qScr σ) (p0 + 3))) + (digV (qScr σ) (p0 + 4)))), (0, .ref (ad 43)), (1, .int p0), (2, .ref (ad 30))]) hx hb dX1_playWitness_18 rfl hl (by decide) rfl (fun ls hl => ?_)
  refine lv_aload_n hx hb dX1_playWitness_19 rfl (lv_at hl 3 rfl) ?_
  refine va_ldcS hx hb hown hE.2.2.1.2.2.2.2.2.2.2 dX1_playWitness_20 ?_
  refine lv_aload_n hx hb dX1_playWitness_22 rfl (lv_at hl 1 rfl) ?_
  refine lv_iload_n hx hb dX1_playWitness_23 rfl (lv_at hl 2 rfl) ?_
  refine lv_iconst (v := 1) hx hb dX1_playWitness_24 (by decide) ?_
  refine lv_iadd hx hb dX1_playWitness_25 ?_
  have h8 := hv.1
  have hv := hv.2
  have hPc : va_P (gD g) vwCl (wZ g ad 43 (qScr σ)) H := hP.sub [13, 14] rfl
  refine ro_int (va_runV (As := [.int (p0 + 1)]) (rest := [.ref (gK g 6), .ref (ad 30)]) ⟨hx, hb, hml, hown, hts⟩ (h_X1_sign g ad 43 (qScr σ) (p0 + 1) h8) (cwV 1 hts gX1_playWitness_X1_sign rfl rfl rfl (by decide +kernel) ⟨Nat.le_of_ble_eq_true rfl, Nat.le_of_ble_eq_true rfl⟩) ⟨RO_blind, va_recv hK hP (ci := 1) (q0 := 13) rfl rfl, fun U hU hW => ⟨rfl, by rw [hU]; exact hPc, va_K.moved hW.alike hK, hE.call hW hU hS (fun _ h => h.elim)⟩⟩ rfl rfl hl.1 rfl (lv_room (Nat.le_of_ble_eq_true rfl)) dX1_playWitness_26 ⟨Nat.le_of_ble_eq_true rfl, Nat.le_of_ble_eq_true rfl⟩) hS hP (fun r H locs hw hP hS => ?_)
  subst r
  have h8 := hv.1
  have hv := hv.2
  have hPc : va_P (gD g) vwCl [] H := fun k q h => by simp at h
  have hi := hv.1
  have hv := hv.2
  refine ro_int (va_runV (As := [.int (signI (qScr σ) (p0 + 1))]) (rest := [.ref (ad 30)]) ⟨hx, hb, hml, hown, hts⟩ (h_J0_indexOf_0f7a4 g 6 (signI (qScr σ) (p0 + 1)) h8) (cwV 1 hts gX1_playWitness_J0_indexOf_0f7a4 rfl rfl rfl (by decide +kernel) ⟨Nat.le_of_ble_eq_true rfl, Nat.le_of_ble_eq_true rfl⟩) ⟨RO_blind, vk_recv hE.2.2.1.1 hi hS, fun U hU hW => ⟨rfl, by rw [hU]; exact hPc, va_K.moved hW.alike hK, hE.call hW hU hS (fun _ h => h.elim)⟩⟩ rfl rfl hl.1 rfl (lv_room (Nat.le_of_ble_eq_true rfl)) dX1_playWitness_29 ⟨Nat.le_of_ble_eq_true rfl, Nat.le_of_ble_eq_true rfl⟩) hS hP (fun r H locs hw hP hS => ?_)
  subst r
  refine lv_aload_n hx hb dX1_playWitness_32 rfl (lv_at hl 1 rfl) ?_
  refine lv_iload_n hx hb dX1_playWitness_33 rfl (lv_at hl 2 rfl) ?_
  refine lv_iconst (v := 2) hx hb dX1_playWitness_34 (by decide) ?_
  refine lv_iadd hx hb dX1_playWitness_35 ?_
  have h8 := hv.1
  have hv := hv.2
  have hPc : va_P (gD g) vwCl (wZ g ad 43 (qScr σ)) H := hP.sub [13, 14] rfl
  refine ro_int (va_runV (As := [.int (p0 + 2)]) (rest := [.int (ixS 6 (signI (qScr σ) (p0 + 1))), .ref (ad 30)]) ⟨hx, hb, hml, hown, hts⟩ (h_X1_digit g ad 43 (qScr σ) (p0 + 2) h8) (cwV 1 hts gX1_playWitness_X1_digit rfl rfl rfl (by decide +kernel) ⟨Nat.le_of_ble_eq_true rfl, Nat.le_of_ble_eq_true rfl⟩) ⟨RO_blind, va_recv hK hP (ci := 1) (q0 := 13) rfl rfl, fun U hU hW => ⟨rfl, by rw [hU]; exact hPc, va_K.moved hW.alike hK, hE.call hW hU hS (fun _ h => h.elim)⟩⟩ rfl rfl hl.1 rfl (lv_room (Nat.le_of_ble_eq_true rfl)) dX1_playWitness_36 ⟨Nat.le_of_ble_eq_true rfl, Nat.le_of_ble_eq_true rfl⟩) hS hP (fun r H locs hw hP hS => ?_)
  subst r
  refine lv_iload_n hx hb dX1_playWitness_39 rfl (lv_at hl 0 rfl) ?_
  have h8 := hv.1
  have hv := hv.2
  have hPc : va_P (gD g) vwCl (wC g ad 30 (qCourt σ)) H := hP.sub [0, 1, 2, 3, 4, 5, 6, 7, 8, 9, 10, 11, 12] rfl
  have hDc : va_D (AD ad 30 13) (wC g ad 30 (qCourt σ)) := ⟨(hD.sub [0, 1, 2, 3, 4, 5, 6, 7, 8, 9, 10, 11, 12] (by decide) rfl).1, AD_of rfl⟩
  have hAc : ∀ q, (AD ad 30 13) q → (AD ad 30 15) q := AD_sub (by decide) (by decide)
  refine rw_int (va_runV (As := [.int (ixS 6 (signI (qScr σ) (p0 + 1))), .int (digV (qScr σ) (p0 + 2)), .int ((10 * (digV (qScr σ) (p0 + 3))) + (digV (qScr σ) (p0 + 4)))]) (rest := []) ⟨hx, hb, hml, hown, hts⟩ (h_X0_addWitness g ad 30 (qCourt σ) (ixS 6 (signI (qScr σ) (p0 + 1))) (digV (qScr σ) (p0 + 2)) ((10 * (digV (qScr σ) (p0 + 3))) + (digV (qScr σ) (p0 + 4))) h8) (cwV 3 hts gX1_playWitness_X0_addWitness rfl rfl rfl (by decide +kernel) ⟨Nat.le_of_ble_eq_true rfl, Nat.le_of_ble_eq_true rfl⟩) ⟨RW_blind, va_recv hK hP (ci := 0) (q0 := 0) rfl rfl, fun U hU hW => ⟨rfl, by rw [hU]; exact hPc, va_K.moved hW.alike hK, hE.call hW hU hS hAc, hDc⟩⟩ rfl rfl hl.1 rfl (lv_room (Nat.le_of_ble_eq_true rfl)) dX1_playWitness_40 ⟨Nat.le_of_ble_eq_true rfl, Nat.le_of_ble_eq_true rfl⟩) hS hAc (fun r u H1 locs hw hP1 hk hS => ?_)
  obtain ⟨hw1, hw⟩ := hw; subst r; subst u
  have hP := mid_at hP hD 0 13 (b := wC g ad 30 (qCourt σ)) rfl (AD_at rfl) hk hP1 rfl
  generalize H1 = H at hP hS ⊢
  have hP : va_P (gD g) vwCl (wP g ad (((if wOkB (cS (qCourt σ)) (ixS 6 (signI (qScr σ) (p0 + 1))) (digV (qScr σ) (p0 + 2)) ((10 * (digV (qScr σ) (p0 + 3))) + (digV (qScr σ) (p0 + 4))) then addW (cS (qCourt σ)) (ixS 6 (signI (qScr σ) (p0 + 1))) (digV (qScr σ) (p0 + 2)) ((10 * (digV (qScr σ) (p0 + 3))) + (digV (qScr σ) (p0 + 4))) else cS (qCourt σ)), (cNeeded (qCourt σ)), (cTruth (qCourt σ))), (qScr σ))) H := hP
  have hD : va_D (AD ad 30 15) (wP g ad (((if wOkB (cS (qCourt σ)) (ixS 6 (signI (qScr σ) (p0 + 1))) (digV (qScr σ) (p0 + 2)) ((10 * (digV (qScr σ) (p0 + 3))) + (digV (qScr σ) (p0 + 4))) then addW (cS (qCourt σ)) (ixS 6 (signI (qScr σ) (p0 + 1))) (digV (qScr σ) (p0 + 2)) ((10 * (digV (qScr σ) (p0 + 3))) + (digV (qScr σ) (p0 + 4))) else cS (qCourt σ)), (cNeeded (qCourt σ)), (cTruth (qCourt σ))), (qScr σ))) := hD.addr (by rfl)
  have hn := hv.1
  have hv := hv.2
  exact W.zret (v := (b2i (wOkB (cS (qCourt σ)) (ixS 6 (signI (qScr σ) (p0 + 1))) (digV (qScr σ) (p0 + 2)) ((10 * (digV (qScr σ) (p0 + 3))) + (digV (qScr σ) (p0 + 4)))))) hx hb hr hn (fun t ht hW => ⟨⟨(b2i (wOkB (cS (qCourt σ)) (ixS 6 (signI (qScr σ) (p0 + 1))) (digV (qScr σ) (p0 + 2)) ((10 * (digV (qScr σ) (p0 + 3))) + (digV (qScr σ) (p0 + 4))))), (((if wOkB (cS (qCourt σ)) (ixS 6 (signI (qScr σ) (p0 + 1))) (digV (qScr σ) (p0 + 2)) ((10 * (digV (qScr σ) (p0 + 3))) + (digV (qScr σ) (p0 + 4))) then addW (cS (qCourt σ)) (ixS 6 (signI (qScr σ) (p0 + 1))) (digV (qScr σ) (p0 + 2)) ((10 * (digV (qScr σ) (p0 + 3))) + (digV (qScr σ) (p0 + 4))) else cS (qCourt σ)), (cNeeded (qCourt σ)), (cTruth (qCourt σ))), (qScr σ)), rfl, hv, P_at ht hP⟩, hS.F ht⟩) hS.2.2 dX1_playWitness_43

set_option maxHeartbeats 60000000 in
set_option maxRecDepth 100000 in
theorem m_X1_play (l : Launch) (h_X0_addQuestion : C_X0_addQuestion l) (h_X0_ask : C_X0_ask l) (h_X0_canAsk : C_X0_canAsk l) (h_X0_flipFact : C_X0_flipFact l) (h_X0_flipKnown : C_X0_flipKnown l) (h_X1_digit : C_X1_digit l) (h_X1_playWitness : C_X1_playWitness l) (h_X1_sign : C_X1_sign l) (g : CX) (ad : Nat → Nat) (σ : KP) (p0 : Int32) (Post : Int32 → KP → Prop) (hv : vc_X1_play σ p0 Post) : Met l yX1_play wsX1_play { frames := 5, cells := 0, slots := 0, locals := 129 } (va_Pc [.ref (ad 43), .int p0, .ref (ad 30)] (RW g (AD ad 30 15) (wP g ad σ))) (va_Qi (fun (r : Int32) (u : KP) => Post r u) (fun u t => va_P (gD g) vwCl (wP g ad u) t.heap) (AD ad 30 15)) 0 0 (AD ad 30 15) := by
  unfold vc_X1_play at hv
  refine Met.ofW (cc := cX1_play) (maxL := 5) (ret := (some .boolean)) (by decide) rfl ?_
  intro p e s m args below meth c s₁ B hml hv0
  obtain ⟨rfl, hP, hK, hE, hD⟩ := hv0
  have hx := B.exec
  have hb := B.bytes
  have hr := B.returns
  have hts := atoms_spec (ws := wsX1_play) B.pre
  have hown : s.vm.findClass RX1 = some m.cls := findClass_of_methodNamed B.named
  have hlocks := B.notSynchronized
  have hi0 : ∀ w ∈ wsX00, w ∈ wsX1_play := by decide +kernel
  have k0 := hts (.fieldLink RX1 89 "JuryHearsAnswers$Court" "heardLength" "I") (by decide +kernel)
  have hS : va_S (AD ad 30 15) s.heap s.heap [] := va_S.rf
  have hP : va_P (gD g) vwCl (wP g ad σ) s.heap := hP
  have hl := lv_entry ([.ref (ad 43), .int p0, .ref (ad 30)]) (n := 5) (Nat.le_of_ble_eq_true rfl)
  rw [lg_entry_eq]
  generalize (lg_sl ([.ref (ad 43), .int p0, .ref (ad 30)]) ++ List.replicate (5 - (lg_sl ([.ref (ad 43), .int p0, .ref (ad 30)])).length) Slot.unset).toArray = ls at hl ⊢
  have hl : lv_has ls 5 [(0, .ref (ad 43)), (1, .int p0), (2, .ref (ad 30))] := hl
  obtain ⟨H, hH⟩ : ∃ z, z = s.heap := ⟨_, rfl⟩
  obtain ⟨locs, hL⟩ : ∃ z : List Loc, z = [] := ⟨_, rfl⟩
  rw [← hL] at hS ⊢
  have hS : va_S (AD ad 30 15) s.heap H locs := by rw [hH]; exact hS
  rw [← hH] at hP ⊢
  clear hH hL
  refine lv_aload_n hx hb dX1_play_0 rfl (lv_at hl 0 rfl) ?_
  refine lv_iload_n hx hb dX1_play_1 rfl (lv_at hl 1 rfl) ?_
  refine lv_iconst (v := 1) hx hb dX1_play_2 (by decide) ?_
  refine lv_iadd hx hb dX1_play_3 ?_
  have h8 := hv.1
  have hv := hv.2
  have hPc : va_P (gD g) vwCl (wZ g ad 43 (qScr σ)) H := hP.sub [13, 14] rfl
  refine ro_int (va_runV (As := [.int (p0 + 1)]) (rest := []) ⟨hx, hb, hml, hown, hts⟩ (h_X1_digit g ad 43 (qScr σ) (p0 + 1) h8) (cwV 1 hts gX1_play_X1_digit rfl rfl rfl (by decide +kernel) ⟨Nat.le_of_ble_eq_true rfl, Nat.le_of_ble_eq_true rfl⟩) ⟨RO_blind, va_recv hK hP (ci := 1) (q0 := 13) rfl rfl, fun U hU hW => ⟨rfl, by rw [hU]; exact hPc, va_K.moved hW.alike hK, hE.call hW hU hS (fun _ h => h.elim)⟩⟩ rfl rfl hl.1 rfl (lv_room (Nat.le_of_ble_eq_true rfl)) dX1_play_4 ⟨Nat.le_of_ble_eq_true rfl, Nat.le_of_ble_eq_true rfl⟩) hS hP (fun r H locs hw hP hS => ?_)
  subst r
  refine lv_istore_n (lv' := [(3, .int (digV (qScr σ) (p0 + 1))), (0, .ref (ad 43)), (1, .int p0), (2, .ref (ad 30))]) hx hb dX1_play_7 rfl hl (by decide) rfl (fun ls hl => ?_)
  refine lv_aload_n hx hb dX1_play_8 rfl (lv_at hl 1 rfl) ?_
  refine lv_iload_n hx hb dX1_play_9 rfl (lv_at hl 2 rfl) ?_
  refine lv_iconst (v := 2) hx hb dX1_play_10 (by decide) ?_
  refine lv_iadd hx hb dX1_play_11 ?_
  have h8 := hv.1
  have hv := hv.2
  have hPc : va_P (gD g) vwCl (wZ g ad 43 (qScr σ)) H := hP.sub [13, 14] rfl
  refine ro_int (va_runV (As := [.int (p0 + 2)]) (rest := []) ⟨hx, hb, hml, hown, hts⟩ (h_X1_digit g ad 43 (qScr σ) (p0 + 2) h8) (cwV 1 hts gX1_play_X1_digit rfl rfl rfl (by decide +kernel) ⟨Nat.le_of_ble_eq_true rfl, Nat.le_of_ble_eq_true rfl⟩) ⟨RO_blind, va_recv hK hP (ci := 1) (q0 := 13) rfl rfl, fun U hU hW => ⟨rfl, by rw [hU]; exact hPc, va_K.moved hW.alike hK, hE.call hW hU hS (fun _ h => h.elim)⟩⟩ rfl rfl hl.1 rfl (lv_room (Nat.le_of_ble_eq_true rfl)) dX1_play_12 ⟨Nat.le_of_ble_eq_true rfl, Nat.le_of_ble_eq_true rfl⟩) hS hP (fun r H locs hw hP hS => ?_)
  subst r
  refine lv_istore (lv' := [(4, .int (digV (qScr σ) (p0 + 2))), (3, .int (digV (qScr σ) (p0 + 1))), (0, .ref (ad 43)), (1, .int p0), (2, .ref (ad 30))]) hx hb dX1_play_15 hl (by decide) rfl (fun ls hl => ?_)
  refine lv_aload_n hx hb dX1_play_17 rfl (lv_at hl 2 rfl) ?_
  refine lv_iload_n hx hb dX1_play_18 rfl (lv_at hl 3 rfl) ?_
  have h8 := hv.1
  have hv := hv.2
  have hPc : va_P (gD g) vwCl (wZ g ad 43 (qScr σ)) H := hP.sub [13, 14] rfl
  refine ro_int (va_runV (As := [.int p0]) (rest := []) ⟨hx, hb, hml, hown, hts⟩ (h_X1_sign g ad 43 (qScr σ) p0 h8) (cwV 1 hts gX1_play_X1_sign rfl rfl rfl (by decide +kernel) ⟨Nat.le_of_ble_eq_true rfl, Nat.le_of_ble_eq_true rfl⟩) ⟨RO_blind, va_recv hK hP (ci := 1) (q0 := 13) rfl rfl, fun U hU hW => ⟨rfl, by rw [hU]; exact hPc, va_K.moved hW.alike hK, hE.call hW hU hS (fun _ h => h.elim)⟩⟩ rfl rfl hl.1 rfl (lv_room (Nat.le_of_ble_eq_true rfl)) dX1_play_19 ⟨Nat.le_of_ble_eq_true rfl, Nat.le_of_ble_eq_true rfl⟩) hS hP (fun r H locs hw hP hS => ?_)
  subst r
  by_cases d22_97 : (signI (qScr σ) p0) = 97
  · have hv := hv.1 d22_97
    refine lv_lookup (off := 94) (tgt := 116) hx hb dX1_play_22 (by decide +kernel) (by rw [d22_97]; decide +kernel) (by decide) ?_
    refine lv_aload_n hx hb dX1_play_116 rfl (lv_at hl 4 rfl) ?_
    refine lv_iload_n hx hb dX1_play_117 rfl (lv_at hl 1 rfl) ?_
    refine lv_iload hx hb dX1_play_118 (lv_at hl 0 rfl) ?_
    have hPc : va_P (gD g) vwCl (wC g ad 30 (qCourt σ)) H := hP.sub [0, 1, 2, 3, 4, 5, 6, 7, 8, 9, 10, 11, 12] rfl
    refine ro_int (va_runV (As := [.int (digV (qScr σ) (p0 + 1)), .int (digV (qScr σ) (p0 + 2))]) (rest := []) ⟨hx, hb, hml, hown, hts⟩ (h_X0_canAsk g ad 30 (qCourt σ) (digV (qScr σ) (p0 + 1)) (digV (qScr σ) (p0 + 2))) (cwV 2 hts gX1_play_X0_canAsk rfl rfl rfl (by decide +kernel) ⟨Nat.le_of_ble_eq_true rfl, Nat.le_of_ble_eq_true rfl⟩) ⟨RO_blind, va_recv hK hP (ci := 0) (q0 := 0) rfl rfl, fun U hU hW => ⟨rfl, by rw [hU]; exact hPc, va_K.moved hW.alike hK, hE.call hW hU hS (fun _ h => h.elim)⟩⟩ rfl rfl hl.1 rfl (lv_room (Nat.le_of_ble_eq_true rfl)) dX1_play_120 ⟨Nat.le_of_ble_eq_true rfl, Nat.le_of_ble_eq_true rfl⟩) hS hP (fun r H locs hw hP hS => ?_)
    subst r
    refine lv_if_ne (tgt := 128) hx hb dX1_play_123 (by decide) (fun c123 => ?_) (fun c123 => ?_)
    · have hv := hv.1 c123
      refine lv_aload_n hx hb dX1_play_128 rfl (lv_at hl 4 rfl) ?_
      refine lv_iload_n hx hb dX1_play_129 rfl (lv_at hl 1 rfl) ?_
      refine lv_iload hx hb dX1_play_130 (lv_at hl 0 rfl) ?_
      have h8 := hv.1
      have hv := hv.2
      have hPc : va_P (gD g) vwCl (wC g ad 30 (qCourt σ)) H := hP.sub [0, 1, 2, 3, 4, 5, 6, 7, 8, 9, 10, 11, 12] rfl
      have hDc : va_D (AD ad 30 13) (wC g ad 30 (qCourt σ)) := ⟨(hD.sub [0, 1, 2, 3, 4, 5, 6, 7, 8, 9, 10, 11, 12] (by decide) rfl).1, AD_of rfl⟩
      have hAc : ∀ q, (AD ad 30 13) q → (AD ad 30 15) q := AD_sub (by decide) (by decide)
      refine rw_int (va_runV (As := [.int (digV (qScr σ) (p0 + 1)), .int (digV (qScr σ) (p0 + 2))]) (rest := []) ⟨hx, hb, hml, hown, hts⟩ (h_X0_ask g ad 30 (qCourt σ) (digV (qScr σ) (p0 + 1)) (digV (qScr σ) (p0 + 2)) h8) (cwV 2 hts gX1_play_X0_ask rfl rfl rfl (by decide +kernel) ⟨Nat.le_of_ble_eq_true rfl, Nat.le_of_ble_eq_true rfl⟩) ⟨RW_blind, va_recv hK hP (ci := 0) (q0 := 0) rfl rfl, fun U hU hW => ⟨rfl, by rw [hU]; exact hPc, va_K.moved hW.alike hK, hE.call hW hU hS hAc, hDc⟩⟩ rfl rfl hl.1 rfl (lv_room (Nat.le_of_ble_eq_true rfl)) dX1_play_132 ⟨Nat.le_of_ble_eq_true rfl, Nat.le_of_ble_eq_true rfl⟩) hS hAc (fun r u H1 locs hw hP1 hk hS => ?_)
      obtain ⟨hw1, hw⟩ := hw; subst r; subst u
      have hP := mid_at hP hD 0 13 (b := wC g ad 30 (qCourt σ)) rfl (AD_at rfl) hk hP1 rfl
      generalize H1 = H at hP hS ⊢
      have hP : va_P (gD g) vwCl (wP g ad (((askS (cS (qCourt σ)) (digV (qScr σ) (p0 + 1)) (digV (qScr σ) (p0 + 2))), (cNeeded (qCourt σ)), (cTruth (qCourt σ))), (qScr σ))) H := hP
      have hD : va_D (AD ad 30 15) (wP g ad (((askS (cS (qCourt σ)) (digV (qScr σ) (p0 + 1)) (digV (qScr σ) (p0 + 2))), (cNeeded (qCourt σ)), (cTruth (qCourt σ))), (qScr σ))) := hD.addr (by rfl)
      refine lv_pop hx hb dX1_play_135 rfl ?_
      refine lv_iconst (v := 1) hx hb dX1_play_136 (by decide) ?_
      exact W.zret (v := 1) hx hb hr rfl (fun t ht hW => ⟨⟨1, (((askS (cS (qCourt σ)) (digV (qScr σ) (p0 + 1)) (digV (qScr σ) (p0 + 2))), (cNeeded (qCourt σ)), (cTruth (qCourt σ))), (qScr σ)), rfl, hv, P_at ht hP⟩, hS.F ht⟩) hS.2.2 dX1_play_137
    · have hv := hv.2 c123
      refine lv_iconst (v := 0) hx hb dX1_play_126 (by decide) ?_
      exact W.zret (v := 0) hx hb hr rfl (fun t ht hW => ⟨⟨0, σ, rfl, hv, P_at ht hP⟩, hS.F ht⟩) hS.2.2 dX1_play_127
  · have hv := hv.2 d22_97
    by_cases d22_102 : (signI (qScr σ) p0) = 102
    · have hv := hv.1 d22_102
      refine lv_lookup (off := 58) (tgt := 80) hx hb dX1_play_22 (by decide +kernel) (by rw [d22_102]; decide +kernel) (by decide) ?_
      refine lv_aload_n hx hb dX1_play_80 rfl (lv_at hl 4 rfl) ?_
      refine lv_iload_n hx hb dX1_play_81 rfl (lv_at hl 1 rfl) ?_
      have hPc : va_P (gD g) vwCl (wC g ad 30 (qCourt σ)) H := hP.sub [0, 1, 2, 3, 4, 5, 6, 7, 8, 9, 10, 11, 12] rfl
      have hDc : va_D (AD ad 30 13) (wC g ad 30 (qCourt σ)) := ⟨(hD.sub [0, 1, 2, 3, 4, 5, 6, 7, 8, 9, 10, 11, 12] (by decide) rfl).1, AD_of rfl⟩
      have hAc : ∀ q, (AD ad 30 13) q → (AD ad 30 15) q := AD_sub (by decide) (by decide)
      refine rw_int (va_runV (As := [.int (digV (qScr σ) (p0 + 1))]) (rest := []) ⟨hx, hb, hml, hown, hts⟩ (h_X0_flipFact g ad 30 (qCourt σ) (digV (qScr σ) (p0 + 1))) (cwV 1 hts gX1_play_X0_flipFact rfl rfl rfl (by decide +kernel) ⟨Nat.le_of_ble_eq_true rfl, Nat.le_of_ble_eq_true rfl⟩) ⟨RW_blind, va_recv hK hP (ci := 0) (q0 := 0) rfl rfl, fun U hU hW => ⟨rfl, by rw [hU]; exact hPc, va_K.moved hW.alike hK, hE.call hW hU hS hAc, hDc⟩⟩ rfl rfl hl.1 rfl (lv_room (Nat.le_of_ble_eq_true rfl)) dX1_play_82 ⟨Nat.le_of_ble_eq_true rfl, Nat.le_of_ble_eq_true rfl⟩) hS hAc (fun r u H1 locs hw hP1 hk hS => ?_)
      obtain ⟨hw1, hw⟩ := hw; subst r; subst u
      have hP := mid_at hP hD 0 13 (b := wC g ad 30 (qCourt σ)) rfl (AD_at rfl) hk hP1 rfl
      generalize H1 = H at hP hS ⊢
      have hP : va_P (gD g) vwCl (wP g ad (((if isFactI (digV (qScr σ) (p0 + 1)) = 0 then cS (qCourt σ) else sSetCase (cS (qCourt σ)) (sCase (cS (qCourt σ)) ^^^ (1 <<< ((digV (qScr σ) (p0 + 1)) &&& 31)))), (cNeeded (qCourt σ)), (cTruth (qCourt σ))), (qScr σ))) H := hP
      have hD : va_D (AD ad 30 15) (wP g ad (((if isFactI (digV (qScr σ) (p0 + 1)) = 0 then cS (qCourt σ) else sSetCase (cS (qCourt σ)) (sCase (cS (qCourt σ)) ^^^ (1 <<< ((digV (qScr σ) (p0 + 1)) &&& 31)))), (cNeeded (qCourt σ)), (cTruth (qCourt σ))), (qScr σ))) := hD.addr (by rfl)
      have hn := hv.1
      have hv := hv.2
      exact W.zret (v := (isFactI (digV (qScr σ) (p0 + 1)))) hx hb hr hn (fun t ht hW => ⟨⟨(isFactI (digV (qScr σ) (p0 + 1))), (((if isFactI (digV (qScr σ) (p0 + 1)) = 0 then cS (qCourt σ) else sSetCase (cS (qCourt σ)) (sCase (cS (qCourt σ)) ^^^ (1 <<< ((digV (qScr σ) (p0 + 1)) &&& 31)))), (cNeeded (qCourt σ)), (cTruth (qCourt σ))), (qScr σ)), rfl, hv, P_at ht hP⟩, hS.F ht⟩) hS.2.2 dX1_play_85
    · have hv := hv.2 d22_102
      by_cases d22_107 : (signI (qScr σ) p0) = 107
      · have hv := hv.1 d22_107
        refine lv_lookup (off := 86) (tgt := 108) hx hb dX1_play_22 (by decide +kernel) (by rw [d22_107]; decide +kernel) (by decide) ?_
        refine lv_aload_n hx hb dX1_play_108 rfl (lv_at hl 4 rfl) ?_
        refine lv_iload_n hx hb dX1_play_109 rfl (lv_at hl 1 rfl) ?_
        refine lv_iload hx hb dX1_play_110 (lv_at hl 0 rfl) ?_
        have hPc : va_P (gD g) vwCl (wC g ad 30 (qCourt σ)) H := hP.sub [0, 1, 2, 3, 4, 5, 6, 7, 8, 9, 10, 11, 12] rfl
        have hDc : va_D (AD ad 30 13) (wC g ad 30 (qCourt σ)) := ⟨(hD.sub [0, 1, 2, 3, 4, 5, 6, 7, 8, 9, 10, 11, 12] (by decide) rfl).1, AD_of rfl⟩
        have hAc : ∀ q, (AD ad 30 13) q → (AD ad 30 15) q := AD_sub (by decide) (by decide)
        refine rw_int (va_runV (As := [.int (digV (qScr σ) (p0 + 1)), .int (digV (qScr σ) (p0 + 2))]) (rest := []) ⟨hx, hb, hml, hown, hts⟩ (h_X0_flipKnown g ad 30 (qCourt σ) (digV (qScr σ) (p0 + 1)) (digV (qScr σ) (p0 + 2))) (cwV 2 hts gX1_play_X0_flipKnown rfl rfl rfl (by decide +kernel) ⟨Nat.le_of_ble_eq_true rfl, Nat.le_of_ble_eq_true rfl⟩) ⟨RW_blind, va_recv hK hP (ci := 0) (q0 := 0) rfl rfl, fun U hU hW => ⟨rfl, by rw [hU]; exact hPc, va_K.moved hW.alike hK, hE.call hW hU hS hAc, hDc⟩⟩ rfl rfl hl.1 rfl (lv_room (Nat.le_of_ble_eq_true rfl)) dX1_play_112 ⟨Nat.le_of_ble_eq_true rfl, Nat.le_of_ble_eq_true rfl⟩) hS hAc (fun r u H1 locs hw hP1 hk hS => ?_)
        obtain ⟨hw1, hw⟩ := hw; subst r; subst u
        have hP := mid_at hP hD 0 13 (b := wC g ad 30 (qCourt σ)) rfl (AD_at rfl) hk hP1 rfl
        generalize H1 = H at hP hS ⊢
        have hP : va_P (gD g) vwCl (wP g ad (((if flipKI (cS (qCourt σ)) (digV (qScr σ) (p0 + 1)) (digV (qScr σ) (p0 + 2)) = 0 then cS (qCourt σ) else sSetKnows (cS (qCourt σ)) (upd (sKnows (cS (qCourt σ))) (digV (qScr σ) (p0 + 1)).toNatClampNeg (sKnows (cS (qCourt σ)) (digV (qScr σ) (p0 + 1)).toNatClampNeg ^^^ (1 <<< ((digV (qScr σ) (p0 + 2)) &&& 31))))), (cNeeded (qCourt σ)), (cTruth (qCourt σ))), (qScr σ))) H := hP
        have hD : va_D (AD ad 30 15) (wP g ad (((if flipKI (cS (qCourt σ)) (digV (qScr σ) (p0 + 1)) (digV (qScr σ) (p0 + 2)) = 0 then cS (qCourt σ) else sSetKnows (cS (qCourt σ)) (upd (sKnows (cS (qCourt σ))) (digV (qScr σ) (p0 + 1)).toNatClampNeg (sKnows (cS (qCourt σ)) (digV (qScr σ) (p0 + 1)).toNatClampNeg ^^^ (1 <<< ((digV (qScr σ) (p0 + 2)) &&& 31))))), (cNeeded (qCourt σ)), (cTruth (qCourt σ))), (qScr σ))) := hD.addr (by rfl)
        have hn := hv.1
        have hv := hv.2
        exact W.zret (v := (flipKI (cS (qCourt σ)) (digV (qScr σ) (p0 + 1)) (digV (qScr σ) (p0 + 2)))) hx hb hr hn (fun t ht hW => ⟨⟨(flipKI (cS (qCourt σ)) (digV (qScr σ) (p0 + 1)) (digV (qScr σ) (p0 + 2))), (((if flipKI (cS (qCourt σ)) (digV (qScr σ) (p0 + 1)) (digV (qScr σ) (p0 + 2)) = 0 then cS (qCourt σ) else sSetKnows (cS (qCourt σ)) (upd (sKnows (cS (qCourt σ))) (digV (qScr σ) (p0 + 1)).toNatClampNeg (sKnows (cS (qCourt σ)) (digV (qScr σ) (p0 + 1)).toNatClampNeg ^^^ (1 <<< ((digV (qScr σ) (p0 + 2)) &&& 31))))), (cNeeded (qCourt σ)), (cTruth (qCourt σ))), (qScr σ)), rfl, hv, P_at ht hP⟩, hS.F ht⟩) hS.2.2 dX1_play_115
      · have hv := hv.2 d22_107
        by_cases d22_110 : (signI (qScr σ) p0) = 110
        · have hv := hv.1 d22_110
          refine lv_lookup (off := 116) (tgt := 138) hx hb dX1_play_22 (by decide +kernel) (by rw [d22_110]; decide +kernel) (by decide) ?_
          refine lv_aload_n hx hb dX1_play_138 rfl (lv_at hl 4 rfl) ?_
          refine lv_iconst (v := 0) hx hb dX1_play_139 (by decide) ?_
          refine va_put (D := gD g) (ci := 0) (v := .int 0) (ty := .int) (C := RX0) (T := TX0) (N := 17) hx hb hts hi0 tyX0 tyX0_ok nmX0 hown hK hP hD hS 0 rfl rfl 4 (by decide) k0 (fun _ h9 => h9) rfl (by decide +kernel) rfl rfl (Nat.le_of_ble_eq_true rfl) dX1_play_140 (fun H locs hP hD hS => ?_)
          have hP : va_P (gD g) vwCl (wP g ad ((((sCase (cS (qCourt σ))), (sAsked (cS (qCourt σ))), (sNq (cS (qCourt σ))), (sNw (cS (qCourt σ))), 0, (sForm (cS (qCourt σ))), (sFirst (cS (qCourt σ))), (sSecond (cS (qCourt σ))), (sKind (cS (qCourt σ))), (sFigure (cS (qCourt σ))), (sKnows (cS (qCourt σ))), (sWhom (cS (qCourt σ))), (sWhat (cS (qCourt σ))), (sSaid (cS (qCourt σ))), (sWhen (cS (qCourt σ)))), (cNeeded (qCourt σ)), (cTruth (qCourt σ))), (qScr σ))) H := hP
          have hD : va_D (AD ad 30 15) (wP g ad ((((sCase (cS (qCourt σ))), (sAsked (cS (qCourt σ))), (sNq (cS (qCourt σ))), (sNw (cS (qCourt σ))), 0, (sForm (cS (qCourt σ))), (sFirst (cS (qCourt σ))), (sSecond (cS (qCourt σ))), (sKind (cS (qCourt σ))), (sFigure (cS (qCourt σ))), (sKnows (cS (qCourt σ))), (sWhom (cS (qCourt σ))), (sWhat (cS (qCourt σ))), (sSaid (cS (qCourt σ))), (sWhen (cS (qCourt σ)))), (cNeeded (qCourt σ)), (cTruth (qCourt σ))), (qScr σ))) := hD
          refine lv_iconst (v := 1) hx hb dX1_play_143 (by decide) ?_
          exact W.zret (v := 1) hx hb hr rfl (fun t ht hW => ⟨⟨1, ((((sCase (cS (qCourt σ))), (sAsked (cS (qCourt σ))), (sNq (cS (qCourt σ))), (sNw (cS (qCourt σ))), 0, (sForm (cS (qCourt σ))), (sFirst (cS (qCourt σ))), (sSecond (cS (qCourt σ))), (sKind (cS (qCourt σ))), (sFigure (cS (qCourt σ))), (sKnows (cS (qCourt σ))), (sWhom (cS (qCourt σ))), (sWhat (cS (qCourt σ))), (sSaid (cS (qCourt σ))), (sWhen (cS (qCourt σ)))), (cNeeded (qCourt σ)), (cTruth (qCourt σ))), (qScr σ)), rfl, hv, P_at ht hP⟩, hS.F ht⟩) hS.2.2 dX1_play_144
        · have hv := hv.2 d22_110
          by_cases d22_113 : (signI (qScr σ) p0) = 113
          · have hv := hv.1 d22_113
            refine lv_lookup (off := 64) (tgt := 86) hx hb dX1_play_22 (by decide +kernel) (by rw [d22_113]; decide +kernel) (by decide) ?_
            refine lv_aload_n hx hb dX1_play_86 rfl (lv_at hl 4 rfl) ?_
            refine lv_iload_n hx hb dX1_play_87 rfl (lv_at hl 1 rfl) ?_
            refine lv_iload hx hb dX1_play_88 (lv_at hl 0 rfl) ?_
            refine lv_aload_n hx hb dX1_play_90 rfl (lv_at hl 2 rfl) ?_
            refine lv_iload_n hx hb dX1_play_91 rfl (lv_at hl 3 rfl) ?_
            refine lv_iconst (v := 3) hx hb dX1_play_92 (by decide) ?_
            refine lv_iadd hx hb dX1_play_93 ?_
            have h8 := hv.1
            have hv := hv.2
            have hPc : va_P (gD g) vwCl (wZ g ad 43 (qScr σ)) H := hP.sub [13, 14] rfl
            refine ro_int (va_runV (As := [.int (p0 + 3)]) (rest := [.int (digV (qScr σ) (p0 + 2)), .int (digV (qScr σ) (p0 + 1)), .ref (ad 30)]) ⟨hx, hb, hml, hown, hts⟩ (h_X1_digit g ad 43 (qScr σ) (p0 + 3) h8) (cwV 1 hts gX1_play_X1_digit rfl rfl rfl (by decide +kernel) ⟨Nat.le_of_ble_eq_true rfl, Nat.le_of_ble_eq_true rfl⟩) ⟨RO_blind, va_recv hK hP (ci := 1) (q0 := 13) rfl rfl, fun U hU hW => ⟨rfl, by rw [hU]; exact hPc, va_K.moved hW.alike hK, hE.call hW hU hS (fun _ h => h.elim)⟩⟩ rfl rfl hl.1 rfl (lv_room (Nat.le_of_ble_eq_true rfl)) dX1_play_94 ⟨Nat.le_of_ble_eq_true rfl, Nat.le_of_ble_eq_true rfl⟩) hS hP (fun r H locs hw hP hS => ?_)
            subst r
            have h8 := hv.1
            have hv := hv.2
            have hPc : va_P (gD g) vwCl (wC g ad 30 (qCourt σ)) H := hP.sub [0, 1, 2, 3, 4, 5, 6, 7, 8, 9, 10, 11, 12] rfl
            have hDc : va_D (AD ad 30 13) (wC g ad 30 (qCourt σ)) := ⟨(hD.sub [0, 1, 2, 3, 4, 5, 6, 7, 8, 9, 10, 11, 12] (by decide) rfl).1, AD_of rfl⟩
            have hAc : ∀ q, (AD ad 30 13) q → (AD ad 30 15) q := AD_sub (by decide) (by decide)
            refine rw_int (va_runV (As := [.int (digV (qScr σ) (p0 + 1)), .int (digV (qScr σ) (p0 + 2)), .int (digV (qScr σ) (p0 + 3))]) (rest := []) ⟨hx, hb, hml, hown, hts⟩ (h_X0_addQuestion g ad 30 (qCourt σ) (digV (qScr σ) (p0 + 1)) (digV (qScr σ) (p0 + 2)) (digV (qScr σ) (p0 + 3)) h8) (cwV 3 hts gX1_play_X0_addQuestion rfl rfl rfl (by decide +kernel) ⟨Nat.le_of_ble_eq_true rfl, Nat.le_of_ble_eq_true rfl⟩) ⟨RW_blind, va_recv hK hP (ci := 0) (q0 := 0) rfl rfl, fun U hU hW => ⟨rfl, by rw [hU]; exact hPc, va_K.moved hW.alike hK, hE.call hW hU hS hAc, hDc⟩⟩ rfl rfl hl.1 rfl (lv_room (Nat.le_of_ble_eq_true rfl)) dX1_play_97 ⟨Nat.le_of_ble_eq_true rfl, Nat.le_of_ble_eq_true rfl⟩) hS hAc (fun r u H1 locs hw hP1 hk hS => ?_)
            obtain ⟨hw1, hw⟩ := hw; subst r; subst u
            have hP := mid_at hP hD 0 13 (b := wC g ad 30 (qCourt σ)) rfl (AD_at rfl) hk hP1 rfl
            generalize H1 = H at hP hS ⊢
            have hP : va_P (gD g) vwCl (wP g ad ((if qOkB (cS (qCourt σ)) (digV (qScr σ) (p0 + 1)) (digV (qScr σ) (p0 + 2)) (digV (qScr σ) (p0 + 3)) then addQC (qCourt σ) (digV (qScr σ) (p0 + 1)) (digV (qScr σ) (p0 + 2)) (digV (qScr σ) (p0 + 3)) else (qCourt σ)), (qScr σ))) H := hP
            have hD : va_D (AD ad 30 15) (wP g ad ((if qOkB (cS (qCourt σ)) (digV (qScr σ) (p0 + 1)) (digV (qScr σ) (p0 + 2)) (digV (qScr σ) (p0 + 3)) then addQC (qCourt σ) (digV (qScr σ) (p0 + 1)) (digV (qScr σ) (p0 + 2)) (digV (qScr σ) (p0 + 3)) else (qCourt σ)), (qScr σ))) := hD.addr (by rfl)
            have hn := hv.1
            have hv := hv.2
            exact W.zret (v := (b2i (qOkB (cS (qCourt σ)) (digV (qScr σ) (p0 + 1)) (digV (qScr σ) (p0 + 2)) (digV (qScr σ) (p0 + 3))))) hx hb hr hn (fun t ht hW => ⟨⟨(b2i (qOkB (cS (qCourt σ)) (digV (qScr σ) (p0 + 1)) (digV (qScr σ) (p0 + 2)) (digV (qScr σ) (p0 + 3)))), ((if qOkB (cS (qCourt σ)) (digV (qScr σ) (p0 + 1)) (digV (qScr σ) (p0 + 2)) (digV (qScr σ) (p0 + 3)) then addQC (qCourt σ) (digV (qScr σ) (p0 + 1)) (digV (qScr σ) (p0 + 2)) (digV (qScr σ) (p0 + 3)) else (qCourt σ)), (qScr σ)), rfl, hv, P_at ht hP⟩, hS.F ht⟩) hS.2.2 dX1_play_100
          · have hv := hv.2 d22_113
            by_cases d22_119 : (signI (qScr σ) p0) = 119
            · have hv := hv.1 d22_119
              refine lv_lookup (off := 79) (tgt := 101) hx hb dX1_play_22 (by decide +kernel) (by rw [d22_119]; decide +kernel) (by decide) ?_
              refine lv_aload_n hx hb dX1_play_101 rfl (lv_at hl 2 rfl) ?_
              refine lv_iload_n hx hb dX1_play_102 rfl (lv_at hl 3 rfl) ?_
              refine lv_aload_n hx hb dX1_play_103 rfl (lv_at hl 4 rfl) ?_
              have h8 := hv.1
              have hv := hv.2
              have hPc := hP
              have hDc := hD
              refine rw_int (va_runV (As := [.int p0, .ref (ad 30)]) (rest := []) ⟨hx, hb, hml, hown, hts⟩ (h_X1_playWitness g ad σ p0 h8) (cwV 2 hts gX1_play_X1_playWitness rfl rfl rfl (by decide +kernel) ⟨Nat.le_of_ble_eq_true rfl, Nat.le_of_ble_eq_true rfl⟩) ⟨RW_blind, va_recv hK hP (ci := 1) (q0 := 13) rfl rfl, fun U hU hW => ⟨rfl, by rw [hU]; exact hPc, va_K.moved hW.alike hK, hE.call hW hU hS (fun _ h => h), hDc⟩⟩ rfl rfl hl.1 rfl (lv_room (Nat.le_of_ble_eq_true rfl)) dX1_play_104 ⟨Nat.le_of_ble_eq_true rfl, Nat.le_of_ble_eq_true rfl⟩) hS (fun _ h => h) (fun r u H1 locs hw hP1 hk hS => ?_)
              obtain ⟨hw1, hw⟩ := hw; subst r; subst u
              have hP := hP1
              generalize H1 = H at hP hS ⊢
              have hP : va_P (gD g) vwCl (wP g ad (((playWC (qScr σ) (qCourt σ) p0).2), (qScr σ))) H := hP
              have hD : va_D (AD ad 30 15) (wP g ad (((playWC (qScr σ) (qCourt σ) p0).2), (qScr σ))) := hD.addr (by rfl)
              have hn := hv.1
              have hv := hv.2
              exact W.zret (v := ((playWC (qScr σ) (qCourt σ) p0).1)) hx hb hr hn (fun t ht hW => ⟨⟨((playWC (qScr σ) (qCourt σ) p0).1), (((playWC (qScr σ) (qCourt σ) p0).2), (qScr σ)), rfl, hv, P_at ht hP⟩, hS.F ht⟩) hS.2.2 dX1_play_107
            · have hv := hv.2 d22_119
              refine lv_lookup (off := 123) (tgt := 145) hx hb dX1_play_22 (by decide +kernel) (by first | (rw [lv_osw d22_97 (by decide), lv_osw d22_102 (by decide), lv_osw d22_107 (by decide), lv_osw d22_110 (by decide), lv_osw d22_113 (by decide), lv_osw d22_119 (by decide)]; rfl) | (show Op.lookupswitch.offset [(97, 94), (102, 58), (107, 86), (110, 116), (113, 64), (119, 79)] 123 _ = _; rw [lv_osw d22_97 (by decide), lv_osw d22_102 (by decide), lv_osw d22_107 (by decide), lv_osw d22_110 (by decide), lv_osw d22_113 (by decide), lv_osw d22_119 (by decide)]; rfl)) (by decide) ?_
              refine lv_iconst (v := 0) hx hb dX1_play_145 (by decide) ?_
              exact W.zret (v := 0) hx hb hr rfl (fun t ht hW => ⟨⟨0, σ, rfl, hv, P_at ht hP⟩, hS.F ht⟩) hS.2.2 dX1_play_146

set_option maxHeartbeats 4000000 in
set_option maxRecDepth 100000 in
theorem m_X2_playScript (l : Launch) (h_X0_becomes_30_4 : C_X0_becomes_30_4 l) (h_X0_becomes_4_30 : C_X0_becomes_4_30 l) (h_X1_brokenPlace : C_X1_brokenPlace l) (h_X1_play : C_X1_play l) (h_X1_statementLength : C_X1_statementLength l) (g : CX) (ad : Nat → Nat) (σ : KX)  (Post : Int32 → KX → Prop) (hv : vc_X2_playScript σ Post) : Met l yX2_playScript wsX2_playScript { frames := 6, cells := 0, slots := 0, locals := 153 } (va_Pc [.ref (ad 0)] (RW g (AD ad 0 45) (wX g ad σ))) (va_Qi (fun (r : Int32) (u : KX) => Post r u) (fun u t => va_P (gD g) vwCl (wX g ad u) t.heap) (AD ad 0 45)) 0 0 (AD ad 0 45) := by
  unfold vc_X2_playScript at hv
  refine Met.ofW (cc := cX2_playScript) (maxL := 4) (ret := (some .int)) (by decide) rfl ?_
  intro p e s m args below meth c s₁ B hml hv0
  obtain ⟨rfl, hP, hK, hE, hD⟩ := hv0
  have hx := B.exec
  have hb := B.bytes
  have hr := B.returns
  have hts := atoms_spec (ws := wsX2_playScript) B.pre
  have hown : s.vm.findClass RX2 = some m.cls := findClass_of_methodNamed B.named
  have hlocks := B.notSynchronized
  have hi1 : ∀ w ∈ wsX10, w ∈ wsX2_playScript := by decide +kernel
  have hi2 : ∀ w ∈ wsX20, w ∈ wsX2_playScript := by decide +kernel
  have k0 := hts (.fieldLink RX2 25 "JuryHearsAnswers" "script" "LJuryHearsAnswers$Script;") (by decide +kernel)
  have k1 := hts (.fieldLink RX2 19 "JuryHearsAnswers" "trial" "LJuryHearsAnswers$Court;") (by decide +kernel)
  have k2 := hts (.fieldLink RX2 10 "JuryHearsAnswers" "now" "LJuryHearsAnswers$Court;") (by decide +kernel)
  have k3 := hts (.fieldLink RX2 44 "JuryHearsAnswers$Script" "length" "I") (by decide +kernel)
  have hS : va_S (AD ad 0 45) s.heap s.heap [] := va_S.rf
  have hP : va_P (gD g) vwCl (wX g ad σ) s.heap := hP
  have hl := lv_entry ([.ref (ad 0)]) (n := 4) (Nat.le_of_ble_eq_true rfl)
  rw [lg_entry_eq]
  generalize (lg_sl ([.ref (ad 0)]) ++ List.replicate (4 - (lg_sl ([.ref (ad 0)])).length) Slot.unset).toArray = ls at hl ⊢
  have hl : lv_has ls 4 [(0, .ref (ad 0))] := hl
  have hv := hv (fun (x2 : Int32) (x3 : Int32) (s_now : KC) (s_trial : KC) => ∀ (H : Heap) (locs : List Loc) (ls : Array Slot), va_P (gD g) vwCl (wX g ad (s_now, (xTaken σ), s_trial, (xScr σ), (xRow σ), (xRefus σ), (xKept σ), (xRowLen σ), (xIsTaken σ))) H → va_D (AD ad 0 45) (wX g ad (s_now, (xTaken σ), s_trial, (xScr σ), (xRow σ), (xRefus σ), (xKept σ), (xRowLen σ), (xIsTaken σ))) → va_S (AD ad 0 45) s.heap H locs → lv_has ls 4 [(0, .ref (ad 0)), (2, .int x2), (3, .int x3)] → W p l e { frames := 6, cells := 0, slots := 0, locals := 153 } s m ([.ref (ad 0)] : List Value).toArray below meth c H locs 0 0 (MQ below (va_Qi (fun (r : Int32) (u : KX) => Post r u) (fun u t => va_P (gD g) vwCl (wX g ad u) t.heap) (AD ad 0 45)) ([.ref (ad 0)] : List Value).toArray s 0 0 (AD ad 0 45)) (F0 m 33 ls []))
  have hv := hv (by
    intro x2 x3 s_now s_trial hv H locs ls hP hD hS hl
    refine lv_iload_n hx hb dX2_playScript_33 rfl (lv_at hl 1 rfl) ?_
    refine lv_aload_n hx hb dX2_playScript_34 rfl (lv_at hl 0 rfl) ?_
    refine va_get (D := gD g) (ci := 2) (v := .ref (ad 43)) (C := RX2) (T := TX2) (N := 9) hx hb hts hi2 hown hK hP 0 rfl rfl 3 (by decide) k0 (fun _ h9 => h9) rfl dX2_playScript_35 ?_
    refine va_get (D := gD g) (ci := 1) (v := .int (zLen (xScr σ))) (C := RX1) (T := TX1) (N := 2) hx hb hts hi1 hown hK hP 43 rfl rfl 0 (by decide) k3 (fun _ h9 => h9) rfl dX2_playScript_38 ?_
    refine lv_icmp_ge (tgt := 88) hx hb dX2_playScript_41 (by decide) (fun c41 => ?_) (fun c41 => ?_)
    · have hv := hv.1 c41
      refine lv_aload_n hx hb dX2_playScript_88 rfl (lv_at hl 0 rfl) ?_
      refine va_get (D := gD g) (ci := 2) (v := .ref (ad 4)) (C := RX2) (T := TX2) (N := 9) hx hb hts hi2 hown hK hP 0 rfl rfl 0 (by decide) k2 (fun _ h9 => h9) rfl dX2_playScript_89 ?_
      refine lv_aload_n hx hb dX2_playScript_92 rfl (lv_at hl 0 rfl) ?_
      refine va_get (D := gD g) (ci := 2) (v := .ref (ad 30)) (C := RX2) (T := TX2) (N := 9) hx hb hts hi2 hown hK hP 0 rfl rfl 2 (by decide) k1 (fun _ h9 => h9) rfl dX2_playScript_93 ?_
      have h8 := hv.1
      have hv := hv.2
      have hPc : va_P (gD g) vwCl (wT g ad (s_now, (xTaken σ), s_trial)) H := hP.sub [4, 5, 6, 7, 8, 9, 10, 11, 12, 13, 14, 15, 16, 17, 18, 19, 20, 21, 22, 23, 24, 25, 26, 27, 28, 29, 30, 31, 32, 33, 34, 35, 36, 37, 38, 39, 40, 41, 42] rfl
      have hDc : va_D (AD ad 4 39) (wT g ad (s_now, (xTaken σ), s_trial)) := ⟨(hD.sub [4, 5, 6, 7, 8, 9, 10, 11, 12, 13, 14, 15, 16, 17, 18, 19, 20, 21, 22, 23, 24, 25, 26, 27, 28, 29, 30, 31, 32, 33, 34, 35, 36, 37, 38, 39, 40, 41, 42] (by decide) rfl).1, AD_of rfl⟩
      have hAc : ∀ q, (AD ad 4 39) q → (AD ad 0 45) q := AD_sub (by decide) (by decide)
      refine rw_void (va_runV (As := [.ref (ad 30)]) (rest := []) ⟨hx, hb, hml, hown, hts⟩ (h_X0_becomes_4_30 g ad (s_now, (xTaken σ), s_trial) h8) (cwV 1 hts gX2_playScript_X0_becomes rfl rfl rfl (by decide +kernel) ⟨Nat.le_of_ble_eq_true rfl, Nat.le_of_ble_eq_true rfl⟩) ⟨RW_blind, va_recv hK hP (ci := 0) (q0 := 4) rfl rfl, fun U hU hW => ⟨rfl, by rw [hU]; exact hPc, va_K.moved hW.alike hK, hE.call hW hU hS hAc, hDc⟩⟩ rfl rfl hl.1 rfl (lv_room (Nat.le_of_ble_eq_true rfl)) dX2_playScript_96 ⟨Nat.le_of_ble_eq_true rfl, Nat.le_of_ble_eq_true rfl⟩) hS hAc (fun u H1 locs hw hP1 hk hS => ?_)
      subst u
      have hP := mid_at hP hD 4 39 (b := wT g ad (s_now, (xTaken σ), s_trial)) rfl (AD_at rfl) hk hP1 rfl
      generalize H1 = H at hP hS ⊢
      have hP : va_P (gD g) vwCl (wX g ad ((s_trial), (xTaken σ), s_trial, (xScr σ), (xRow σ), (xRefus σ), (xKept σ), (xRowLen σ), (xIsTaken σ))) H := hP
      have hD : va_D (AD ad 0 45) (wX g ad ((s_trial), (xTaken σ), s_trial, (xScr σ), (xRow σ), (xRefus σ), (xKept σ), (xRowLen σ), (xIsTaken σ))) := hD.addr (by rfl)
      refine lv_iload_n hx hb dX2_playScript_99 rfl (lv_at hl 2 rfl) ?_
      exact W.iret (v := x3) hx hb hr (fun t ht hW => ⟨⟨x3, ((s_trial), (xTaken σ), s_trial, (xScr σ), (xRow σ), (xRefus σ), (xKept σ), (xRowLen σ), (xIsTaken σ)), rfl, hv, P_at ht hP⟩, hS.F ht⟩) hS.2.2 dX2_playScript_100
    · have hv := hv.2 c41
      refine lv_iload_n hx hb dX2_playScript_44 rfl (lv_at hl 2 rfl) ?_
      refine lv_bipush (v := 96) hx hb dX2_playScript_45 (by decide) ?_
      refine lv_icmp_ge (tgt := 88) hx hb dX2_playScript_47 (by decide) (fun c47 => ?_) (fun c47 => ?_)
      · have hv := hv.1 c47
        refine lv_aload_n hx hb dX2_playScript_88 rfl (lv_at hl 0 rfl) ?_
        refine va_get (D := gD g) (ci := 2) (v := .ref (ad 4)) (C := RX2) (T := TX2) (N := 9) hx hb hts hi2 hown hK hP 0 rfl rfl 0 (by decide) k2 (fun _ h9 => h9) rfl dX2_playScript_89 ?_
        refine lv_aload_n hx hb dX2_playScript_92 rfl (lv_at hl 0 rfl) ?_
        refine va_get (D := gD g) (ci := 2) (v := .ref (ad 30)) (C := RX2) (T := TX2) (N := 9) hx hb hts hi2 hown hK hP 0 rfl rfl 2 (by decide) k1 (fun _ h9 => h9) rfl dX2_playScript_93 ?_
        have h8 := hv.1
        have hv := hv.2
        have hPc : va_P (gD g) vwCl (wT g ad (s_now, (xTaken σ), s_trial)) H := hP.sub [4, 5, 6, 7, 8, 9, 10, 11, 12, 13, 14, 15, 16, 17, 18, 19, 20, 21, 22, 23, 24, 25, 26, 27, 28, 29, 30, 31, 32, 33, 34, 35, 36, 37, 38, 39, 40, 41, 42] rfl
        have hDc : va_D (AD ad 4 39) (wT g ad (s_now, (xTaken σ), s_trial)) := ⟨(hD.sub [4, 5, 6, 7, 8, 9, 10, 11, 12, 13, 14, 15, 16, 17, 18, 19, 20, 21, 22, 23, 24, 25, 26, 27, 28, 29, 30, 31, 32, 33, 34, 35, 36, 37, 38, 39, 40, 41, 42] (by decide) rfl).1, AD_of rfl⟩
        have hAc : ∀ q, (AD ad 4 39) q → (AD ad 0 45) q := AD_sub (by decide) (by decide)
        refine rw_void (va_runV (As := [.ref (ad 30)]) (rest := []) ⟨hx, hb, hml, hown, hts⟩ (h_X0_becomes_4_30 g ad (s_now, (xTaken σ), s_trial) h8) (cwV 1 hts gX2_playScript_X0_becomes rfl rfl rfl (by decide +kernel) ⟨Nat.le_of_ble_eq_true rfl, Nat.le_of_ble_eq_true rfl⟩) ⟨RW_blind, va_recv hK hP (ci := 0) (q0 := 4) rfl rfl, fun U hU hW => ⟨rfl, by rw [hU]; exact hPc, va_K.moved hW.alike hK, hE.call hW hU hS hAc, hDc⟩⟩ rfl rfl hl.1 rfl (lv_room (Nat.le_of_ble_eq_true rfl)) dX2_playScript_96 ⟨Nat.le_of_ble_eq_true rfl, Nat.le_of_ble_eq_true rfl⟩) hS hAc (fun u H1 locs hw hP1 hk hS => ?_)
        subst u
        have hP := mid_at hP hD 4 39 (b := wT g ad (s_now, (xTaken σ), s_trial)) rfl (AD_at rfl) hk hP1 rfl
        generalize H1 = H at hP hS ⊢
        have hP : va_P (gD g) vwCl (wX g ad ((s_trial), (xTaken σ), s_trial, (xScr σ), (xRow σ), (xRefus σ), (xKept σ), (xRowLen σ), (xIsTaken σ))) H := hP
        have hD : va_D (AD ad 0 45) (wX g ad ((s_trial), (xTaken σ), s_trial, (xScr σ), (xRow σ), (xRefus σ), (xKept σ), (xRowLen σ), (xIsTaken σ))) := hD.addr (by rfl)
        refine lv_iload_n hx hb dX2_playScript_99 rfl (lv_at hl 2 rfl) ?_
        exact W.iret (v := x3) hx hb hr (fun t ht hW => ⟨⟨x3, ((s_trial), (xTaken σ), s_trial, (xScr σ), (xRow σ), (xRefus σ), (xKept σ), (xRowLen σ), (xIsTaken σ)), rfl, hv, P_at ht hP⟩, hS.F ht⟩) hS.2.2 dX2_playScript_100
      · have hv := hv.2 c47
        refine lv_aload_n hx hb dX2_playScript_50 rfl (lv_at hl 0 rfl) ?_
        refine va_get (D := gD g) (ci := 2) (v := .ref (ad 43)) (C := RX2) (T := TX2) (N := 9) hx hb hts hi2 hown hK hP 0 rfl rfl 3 (by decide) k0 (fun _ h9 => h9) rfl dX2_playScript_51 ?_
        refine lv_iload_n hx hb dX2_playScript_54 rfl (lv_at hl 1 rfl) ?_
        refine lv_aload_n hx hb dX2_playScript_55 rfl (lv_at hl 0 rfl) ?_
        refine va_get (D := gD g) (ci := 2) (v := .ref (ad 30)) (C := RX2) (T := TX2) (N := 9) hx hb hts hi2 hown hK hP 0 rfl rfl 2 (by decide) k1 (fun _ h9 => h9) rfl dX2_playScript_56 ?_
        have h8 := hv.1
        have hv := hv.2
        have hPc : va_P (gD g) vwCl (wP g ad (s_trial, (xScr σ))) H := hP.sub [30, 31, 32, 33, 34, 35, 36, 37, 38, 39, 40, 41, 42, 43, 44] rfl
        have hDc : va_D (AD ad 30 15) (wP g ad (s_trial, (xScr σ))) := ⟨(hD.sub [30, 31, 32, 33, 34, 35, 36, 37, 38, 39, 40, 41, 42, 43, 44] (by decide) rfl).1, AD_of rfl⟩
        have hAc : ∀ q, (AD ad 30 15) q → (AD ad 0 45) q := AD_sub (by decide) (by decide)
        refine rw_int (va_runV (As := [.int x2, .ref (ad 30)]) (rest := []) ⟨hx, hb, hml, hown, hts⟩ (h_X1_play g ad (s_trial, (xScr σ)) x2 h8) (cwV 2 hts gX2_playScript_X1_play rfl rfl rfl (by decide +kernel) ⟨Nat.le_of_ble_eq_true rfl, Nat.le_of_ble_eq_true rfl⟩) ⟨RW_blind, va_recv hK hP (ci := 1) (q0 := 43) rfl rfl, fun U hU hW => ⟨rfl, by rw [hU]; exact hPc, va_K.moved hW.alike hK, hE.call hW hU hS hAc, hDc⟩⟩ rfl rfl hl.1 rfl (lv_room (Nat.le_of_ble_eq_true rfl)) dX2_playScript_59 ⟨Nat.le_of_ble_eq_true rfl, Nat.le_of_ble_eq_true rfl⟩) hS hAc (fun r u H1 locs hw hP1 hk hS => ?_)
        obtain ⟨hw1, hw⟩ := hw; subst r; subst u
        have hP := mid_at hP hD 30 15 (b := wP g ad (s_trial, (xScr σ))) rfl (AD_at rfl) hk hP1 rfl
        generalize H1 = H at hP hS ⊢
        have hP : va_P (gD g) vwCl (wX g ad (s_now, (xTaken σ), ((playC (xScr σ) s_trial x2).2), (xScr σ), (xRow σ), (xRefus σ), (xKept σ), (xRowLen σ), (xIsTaken σ))) H := hP
        have hD : va_D (AD ad 0 45) (wX g ad (s_now, (xTaken σ), ((playC (xScr σ) s_trial x2).2), (xScr σ), (xRow σ), (xRefus σ), (xKept σ), (xRowLen σ), (xIsTaken σ))) := hD.addr (by rfl)
        refine lv_if_ne (tgt := 71) hx hb dX2_playScript_62 (by decide) (fun c62 => ?_) (fun c62 => ?_)
        · have hv := hv.1 c62
          refine lv_iload_n hx hb dX2_playScript_71 rfl (lv_at hl 1 rfl) ?_
          refine lv_aload_n hx hb dX2_playScript_72 rfl (lv_at hl 0 rfl) ?_
          refine va_get (D := gD g) (ci := 2) (v := .ref (ad 43)) (C := RX2) (T := TX2) (N := 9) hx hb hts hi2 hown hK hP 0 rfl rfl 3 (by decide) k0 (fun _ h9 => h9) rfl dX2_playScript_73 ?_
          refine lv_iload_n hx hb dX2_playScript_76 rfl (lv_at hl 1 rfl) ?_
          have h8 := hv.1
          have hv := hv.2
          have hPc : va_P (gD g) vwCl (wZ g ad 43 (xScr σ)) H := hP.sub [43, 44] rfl
          refine ro_int (va_runV (As := [.int x2]) (rest := [.int x2]) ⟨hx, hb, hml, hown, hts⟩ (h_X1_statementLength g ad 43 (xScr σ) x2 h8) (cwV 1 hts gX2_playScript_X1_statementLength rfl rfl rfl (by decide +kernel) ⟨Nat.le_of_ble_eq_true rfl, Nat.le_of_ble_eq_true rfl⟩) ⟨RO_blind, va_recv hK hP (ci := 1) (q0 := 43) rfl rfl, fun U hU hW => ⟨rfl, by rw [hU]; exact hPc, va_K.moved hW.alike hK, hE.call hW hU hS (fun _ h => h.elim)⟩⟩ rfl rfl hl.1 rfl (lv_room (Nat.le_of_ble_eq_true rfl)) dX2_playScript_77 ⟨Nat.le_of_ble_eq_true rfl, Nat.le_of_ble_eq_true rfl⟩) hS hP (fun r H locs hw hP hS => ?_)
          subst r
          refine lv_iadd hx hb dX2_playScript_80 ?_
          refine lv_istore_n (lv' := [(2, .int (x2 + (stLenV (xScr σ) x2))), (0, .ref (ad 0)), (3, .int x3)]) hx hb dX2_playScript_81 rfl hl (by decide) rfl (fun ls hl => ?_)
          refine lv_iinc (v := (x3 + 1)) (lv' := [(3, .int (x3 + 1)), (2, .int (x2 + (stLenV (xScr σ) x2))), (0, .ref (ad 0))]) hx hb dX2_playScript_82 hl (k := 2) rfl (by first | rfl | exact congrArg _ (by decide)) (by decide) rfl (fun ls hl => ?_)
          refine lv_goto (tgt := 33) hx hb dX2_playScript_85 (by decide) ?_
          exact hv H locs ls hP hD hS (lv_sub hl [2, 1, 0] rfl)
        · have hv := hv.2 c62
          refine lv_sipush (v := (-2000)) hx hb dX2_playScript_65 (by decide) ?_
          refine lv_iload_n hx hb dX2_playScript_68 rfl (lv_at hl 1 rfl) ?_
          refine lv_isub hx hb dX2_playScript_69 ?_
          exact W.iret (v := ((-2000) - x2)) hx hb hr (fun t ht hW => ⟨⟨((-2000) - x2), (s_now, (xTaken σ), ((playC (xScr σ) s_trial x2).2), (xScr σ), (xRow σ), (xRefus σ), (xKept σ), (xRowLen σ), (xIsTaken σ)), rfl, hv, P_at ht hP⟩, hS.F ht⟩) hS.2.2 dX2_playScript_70)
  obtain ⟨H, hH⟩ : ∃ z, z = s.heap := ⟨_, rfl⟩
  obtain ⟨locs, hL⟩ : ∃ z : List Loc, z = [] := ⟨_, rfl⟩
  rw [← hL] at hS ⊢
  have hS : va_S (AD ad 0 45) s.heap H locs := by rw [hH]; exact hS
  rw [← hH] at hP ⊢
  clear hH hL
  refine lv_aload_n hx hb dX2_playScript_0 rfl (lv_at hl 0 rfl) ?_
  refine va_get (D := gD g) (ci := 2) (v := .ref (ad 43)) (C := RX2) (T := TX2) (N := 9) hx hb hts hi2 hown hK hP 0 rfl rfl 3 (by decide) k0 (fun _ h9 => h9) rfl dX2_playScript_1 ?_
  have h8 := hv.1
  have hv := hv.2
  have hPc : va_P (gD g) vwCl (wZ g ad 43 (xScr σ)) H := hP.sub [43, 44] rfl
  refine ro_int (va_runV (As := []) (rest := []) ⟨hx, hb, hml, hown, hts⟩ (h_X1_brokenPlace g ad 43 (xScr σ) h8) (cwV 0 hts gX2_playScript_X1_brokenPlace rfl rfl rfl (by decide +kernel) ⟨Nat.le_of_ble_eq_true rfl, Nat.le_of_ble_eq_true rfl⟩) ⟨RO_blind, va_recv hK hP (ci := 1) (q0 := 43) rfl rfl, fun U hU hW => ⟨rfl, by rw [hU]; exact hPc, va_K.moved hW.alike hK, hE.call hW hU hS (fun _ h => h.elim)⟩⟩ rfl rfl hl.1 rfl (lv_room (Nat.le_of_ble_eq_true rfl)) dX2_playScript_4 ⟨Nat.le_of_ble_eq_true rfl, Nat.le_of_ble_eq_true rfl⟩) hS hP (fun r H locs hw hP hS => ?_)
  subst r
  refine lv_istore_n (lv' := [(1, .int (brokenV (xScr σ))), (0, .ref (ad 0))]) hx hb dX2_playScript_7 rfl hl (by decide) rfl (fun ls hl => ?_)
  refine lv_iload_n hx hb dX2_playScript_8 rfl (lv_at hl 0 rfl) ?_
  refine lv_if_lt (tgt := 18) hx hb dX2_playScript_9 (by decide) (fun c9 => ?_) (fun c9 => ?_)
  · have hv := hv.1 c9
    refine lv_aload_n hx hb dX2_playScript_18 rfl (lv_at hl 1 rfl) ?_
    refine va_get (D := gD g) (ci := 2) (v := .ref (ad 30)) (C := RX2) (T := TX2) (N := 9) hx hb hts hi2 hown hK hP 0 rfl rfl 2 (by decide) k1 (fun _ h9 => h9) rfl dX2_playScript_19 ?_
    refine lv_aload_n hx hb dX2_playScript_22 rfl (lv_at hl 1 rfl) ?_
    refine va_get (D := gD g) (ci := 2) (v := .ref (ad 4)) (C := RX2) (T := TX2) (N := 9) hx hb hts hi2 hown hK hP 0 rfl rfl 0 (by decide) k2 (fun _ h9 => h9) rfl dX2_playScript_23 ?_
    have h8 := hv.1
    have hv := hv.2
    have hPc : va_P (gD g) vwCl (wT g ad ((xNow σ), (xTaken σ), (xTrial σ))) H := hP.sub [4, 5, 6, 7, 8, 9, 10, 11, 12, 13, 14, 15, 16, 17, 18, 19, 20, 21, 22, 23, 24, 25, 26, 27, 28, 29, 30, 31, 32, 33, 34, 35, 36, 37, 38, 39, 40, 41, 42] rfl
    have hDc : va_D (AD ad 4 39) (wT g ad ((xNow σ), (xTaken σ), (xTrial σ))) := ⟨(hD.sub [4, 5, 6, 7, 8, 9, 10, 11, 12, 13, 14, 15, 16, 17, 18, 19, 20, 21, 22, 23, 24, 25, 26, 27, 28, 29, 30, 31, 32, 33, 34, 35, 36, 37, 38, 39, 40, 41, 42] (by decide) rfl).1, AD_of rfl⟩
    have hAc : ∀ q, (AD ad 4 39) q → (AD ad 0 45) q := AD_sub (by decide) (by decide)
    refine rw_void (va_runV (As := [.ref (ad 4)]) (rest := []) ⟨hx, hb, hml, hown, hts⟩ (h_X0_becomes_30_4 g ad ((xNow σ), (xTaken σ), (xTrial σ)) h8) (cwV 1 hts gX2_playScript_X0_becomes rfl rfl rfl (by decide +kernel) ⟨Nat.le_of_ble_eq_true rfl, Nat.le_of_ble_eq_true rfl⟩) ⟨RW_blind, va_recv hK hP (ci := 0) (q0 := 30) rfl rfl, fun U hU hW => ⟨rfl, by rw [hU]; exact hPc, va_K.moved hW.alike hK, hE.call hW hU hS hAc, hDc⟩⟩ rfl rfl hl.1 rfl (lv_room (Nat.le_of_ble_eq_true rfl)) dX2_playScript_26 ⟨Nat.le_of_ble_eq_true rfl, Nat.le_of_ble_eq_true rfl⟩) hS hAc (fun u H1 locs hw hP1 hk hS => ?_)
    subst u
    have hP := mid_at hP hD 4 39 (b := wT g ad ((xNow σ), (xTaken σ), (xTrial σ))) rfl (AD_at rfl) hk hP1 rfl
    generalize H1 = H at hP hS ⊢
    have hP : va_P (gD g) vwCl (wX g ad ((xNow σ), (xTaken σ), ((xNow σ)), (xScr σ), (xRow σ), (xRefus σ), (xKept σ), (xRowLen σ), (xIsTaken σ))) H := hP
    have hD : va_D (AD ad 0 45) (wX g ad ((xNow σ), (xTaken σ), ((xNow σ)), (xScr σ), (xRow σ), (xRefus σ), (xKept σ), (xRowLen σ), (xIsTaken σ))) := hD.addr (by rfl)
    refine lv_iconst (v := 0) hx hb dX2_playScript_29 (by decide) ?_
    refine lv_istore_n (lv' := [(2, .int 0), (1, .int (brokenV (xScr σ))), (0, .ref (ad 0))]) hx hb dX2_playScript_30 rfl hl (by decide) rfl (fun ls hl => ?_)
    refine lv_iconst (v := 0) hx hb dX2_playScript_31 (by decide) ?_
    refine lv_istore_n (lv' := [(3, .int 0), (2, .int 0), (1, .int (brokenV (xScr σ))), (0, .ref (ad 0))]) hx hb dX2_playScript_32 rfl hl (by decide) rfl (fun ls hl => ?_)
    exact hv H locs ls hP hD hS (lv_sub hl [3, 1, 0] rfl)
  · have hv := hv.2 c9
    refine lv_sipush (v := (-1000)) hx hb dX2_playScript_12 (by decide) ?_
    refine lv_iload_n hx hb dX2_playScript_15 rfl (lv_at hl 0 rfl) ?_
    refine lv_isub hx hb dX2_playScript_16 ?_
    exact W.iret (v := ((-1000) - (brokenV (xScr σ)))) hx hb hr (fun t ht hW => ⟨⟨((-1000) - (brokenV (xScr σ))), σ, rfl, hv, P_at ht hP⟩, hS.F ht⟩) hS.2.2 dX2_playScript_17

set_option maxHeartbeats 4000000 in
set_option maxRecDepth 100000 in
theorem m_X2_court (l : Launch) (h_X2_playScript : C_X2_playScript l) (g : CX) (ad : Nat → Nat) (σ : KX)  (Post : Int32 → KX → Prop) (hv : vc_X2_court σ Post) : Met l yX2_court wsX2_court { frames := 7, cells := 0, slots := 0, locals := 176 } (va_Pc [.ref (ad 0)] (RW g (AD ad 0 45) (wX g ad σ))) (va_Qi (fun (r : Int32) (u : KX) => Post r u) (fun u t => va_P (gD g) vwCl (wX g ad u) t.heap) (AD ad 0 45)) 0 0 (AD ad 0 45) := by
  unfold vc_X2_court at hv
  refine Met.ofW (cc := cX2_court) (maxL := 2) (ret := (some .int)) (by decide) rfl ?_
  intro p e s m args below meth c s₁ B hml hv0
  obtain ⟨rfl, hP, hK, hE, hD⟩ := hv0
  have hx := B.exec
  have hb := B.bytes
  have hr := B.returns
  have hts := atoms_spec (ws := wsX2_court) B.pre
  have hown : s.vm.findClass RX2 = some m.cls := findClass_of_methodNamed B.named
  have hlocks := B.notSynchronized
  have hi1 : ∀ w ∈ wsX10, w ∈ wsX2_court := by decide +kernel
  have hi2 : ∀ w ∈ wsX20, w ∈ wsX2_court := by decide +kernel
  have k0 := hts (.fieldLink RX2 25 "JuryHearsAnswers" "script" "LJuryHearsAnswers$Script;") (by decide +kernel)
  have k1 := hts (.fieldLink RX2 44 "JuryHearsAnswers$Script" "length" "I") (by decide +kernel)
  have hS : va_S (AD ad 0 45) s.heap s.heap [] := va_S.rf
  have hP : va_P (gD g) vwCl (wX g ad σ) s.heap := hP
  have hl := lv_entry ([.ref (ad 0)]) (n := 2) (Nat.le_of_ble_eq_true rfl)
  rw [lg_entry_eq]
  generalize (lg_sl ([.ref (ad 0)]) ++ List.replicate (2 - (lg_sl ([.ref (ad 0)])).length) Slot.unset).toArray = ls at hl ⊢
  have hl : lv_has ls 2 [(0, .ref (ad 0))] := hl
  obtain ⟨H, hH⟩ : ∃ z, z = s.heap := ⟨_, rfl⟩
  obtain ⟨locs, hL⟩ : ∃ z : List Loc, z = [] := ⟨_, rfl⟩
  rw [← hL] at hS ⊢
  have hS : va_S (AD ad 0 45) s.heap H locs := by rw [hH]; exact hS
  rw [← hH] at hP ⊢
  clear hH hL
  refine lv_aload_n hx hb dX2_court_0 rfl (lv_at hl 0 rfl) ?_
  have h8 := hv.1
  have hv := hv.2
  have hPc := hP
  have hDc := hD
  refine rw_int (va_runV (As := []) (rest := []) ⟨hx, hb, hml, hown, hts⟩ (h_X2_playScript g ad σ h8) (cwV 0 hts gX2_court_X2_playScript rfl rfl rfl (by decide +kernel) ⟨Nat.le_of_ble_eq_true rfl, Nat.le_of_ble_eq_true rfl⟩) ⟨RW_blind, va_recv hK hP (ci := 2) (q0 := 0) rfl rfl, fun U hU hW => ⟨rfl, by rw [hU]; exact hPc, va_K.moved hW.alike hK, hE.call hW hU hS (fun _ h => h), hDc⟩⟩ rfl rfl hl.1 rfl (lv_room (Nat.le_of_ble_eq_true rfl)) dX2_court_1 ⟨Nat.le_of_ble_eq_true rfl, Nat.le_of_ble_eq_true rfl⟩) hS (fun _ h => h) (fun r u H1 locs hw hP1 hk hS => ?_)
  obtain ⟨e1_trial, hex, hw1, hw⟩ := hw; subst r; subst u
  have hv := hv e1_trial hex
  have hP := hP1
  generalize H1 = H at hP hS ⊢
  have hP : va_P (gD g) vwCl (wX g ad ((courtXN (xScr σ) (xNow σ)), (xTaken σ), (e1_trial), (xScr σ), (xRow σ), (xRefus σ), (xKept σ), (xRowLen σ), (xIsTaken σ))) H := hP
  have hD : va_D (AD ad 0 45) (wX g ad ((courtXN (xScr σ) (xNow σ)), (xTaken σ), (e1_trial), (xScr σ), (xRow σ), (xRefus σ), (xKept σ), (xRowLen σ), (xIsTaken σ))) := hD.addr (by rfl)
  refine lv_istore_n (lv' := [(1, .int (courtXV (xScr σ) (xNow σ))), (0, .ref (ad 0))]) hx hb dX2_court_4 rfl hl (by decide) rfl (fun ls hl => ?_)
  refine lv_aload_n hx hb dX2_court_5 rfl (lv_at hl 1 rfl) ?_
  refine va_get (D := gD g) (ci := 2) (v := .ref (ad 43)) (C := RX2) (T := TX2) (N := 9) hx hb hts hi2 hown hK hP 0 rfl rfl 3 (by decide) k0 (fun _ h9 => h9) rfl dX2_court_6 ?_
  refine lv_iconst (v := 0) hx hb dX2_court_9 (by decide) ?_
  refine va_put (D := gD g) (ci := 1) (v := .int 0) (ty := .int) (C := RX1) (T := TX1) (N := 2) hx hb hts hi1 tyX1 tyX1_ok nmX1 hown hK hP hD hS 43 rfl rfl 0 (by decide) k1 (fun _ h9 => h9) rfl (by decide +kernel) rfl rfl (Nat.le_of_ble_eq_true rfl) dX2_court_10 (fun H locs hP hD hS => ?_)
  have hP : va_P (gD g) vwCl (wX g ad ((courtXN (xScr σ) (xNow σ)), (xTaken σ), (e1_trial), (0, (zText (xScr σ))), (xRow σ), (xRefus σ), (xKept σ), (xRowLen σ), (xIsTaken σ))) H := hP
  have hD : va_D (AD ad 0 45) (wX g ad ((courtXN (xScr σ) (xNow σ)), (xTaken σ), (e1_trial), (0, (zText (xScr σ))), (xRow σ), (xRefus σ), (xKept σ), (xRowLen σ), (xIsTaken σ))) := hD
  refine lv_iload_n hx hb dX2_court_13 rfl (lv_at hl 0 rfl) ?_
  exact W.iret (v := (courtXV (xScr σ) (xNow σ))) hx hb hr (fun t ht hW => ⟨⟨(courtXV (xScr σ) (xNow σ)), ((courtXN (xScr σ) (xNow σ)), (xTaken σ), (e1_trial), (0, (zText (xScr σ))), (xRow σ), (xRefus σ), (xKept σ), (xRowLen σ), (xIsTaken σ)), rfl, hv, P_at ht hP⟩, hS.F ht⟩) hS.2.2 dX2_court_14

set_option maxRecDepth 20000 in
set_option maxHeartbeats 2000000 in
theorem v_J0_coder_7d493 (i0 : Nat) (h : i0 < 7) : vc_J0_coder_7d493 i0 (fun r => r = (0)) := by
  exact ⟨h, rfl⟩
set_option maxRecDepth 20000 in
set_option maxHeartbeats 2000000 in
theorem v_J0_length_8abf5 (i0 : Nat) (h : i0 < 7) : vc_J0_length_8abf5 i0 (fun r => r = (lenI i0)) := by
  exact ⟨h, h, h, h, len_shr i0 h⟩
set_option maxRecDepth 20000 in
set_option maxHeartbeats 2000000 in
theorem v_J0_isLatin1_aae02 (i0 : Nat) (h : i0 < 7) : vc_J0_isLatin1_aae02 i0 (fun r => r = (1)) := by
  exact ⟨h, rfl⟩
set_option maxRecDepth 20000 in
set_option maxHeartbeats 2000000 in
theorem v_J0_isEmpty_aae02 (i0 : Nat) (h : i0 < 7) : vc_J0_isEmpty_aae02 i0 (fun r => r = (b2i (decide (lenI i0 = 0)))) := by
  refine ⟨h, h, fun c => ?_, fun c => ?_⟩
  · have c' : ¬ lenI i0 = 0 := c
    simp [c', b2i]
  · have c' : lenI i0 = 0 := c
    simp [c', b2i]
set_option maxRecDepth 20000 in
set_option maxHeartbeats 2000000 in
theorem v_J3_checkIndex_n (p0 : Int32) (p1 : Int32) (h : 0 ≤ p0 ∧ p0 < p1) : vc_J3_checkIndex_n p0 p1 (fun r => r = (p0)) := by
  exact ⟨fun c => absurd h.1 (Int32.not_le.mpr c), fun _ => ⟨fun _ => rfl, fun c => absurd h.2 c⟩⟩
set_option maxRecDepth 20000 in
set_option maxHeartbeats 2000000 in
theorem v_J3_checkIndex_r (p0 : Int32) (p1 : Int32) (p2 : Nat) (h : 0 ≤ p0 ∧ p0 < p1) : vc_J3_checkIndex_r p0 p1 p2 (fun r => r = (p0)) := by
  exact ⟨fun c => absurd h.1 (Int32.not_le.mpr c), fun _ => ⟨fun _ => rfl, fun c => absurd h.2 c⟩⟩
set_option maxRecDepth 20000 in
set_option maxHeartbeats 2000000 in
theorem v_J0_checkIndex_df160 (p0 : Int32) (p1 : Int32) (h : 0 ≤ p0 ∧ p0 < p1) : vc_J0_checkIndex_df160 p0 p1 (True) := by
  exact ⟨h, trivial⟩
set_option maxRecDepth 20000 in
set_option maxHeartbeats 2000000 in
theorem v_J1_charAt_3b067 (p0 : Nat) (p1 : Int32) (h : p0 < 7 ∧ vp_in p1 (lenS.getD p0 0)) : vc_J1_charAt_3b067 p0 p1 (fun r => r = (chS p0 p1)) := by
  obtain ⟨h0, h1⟩ := h
  have h7 := len_7 p0 h0
  obtain ⟨j, hj, rfl⟩ := vin_nat h1 (by omega)
  have e : chS p0 (nI j) = (bytS.getD p0 []).getD j 0 := by unfold chS; rw [nI_clamp (by omega)]
  unfold vc_J1_charAt_3b067
  rw [nI_clamp (show j < 2 ^ 31 by omega)]
  exact ⟨h0, ⟨nI_pos' (by omega), nI_lt hj (by omega)⟩, h0, h1, pk_nc _, (byt_ok p0 h0 j hj).trans e.symm⟩
set_option maxRecDepth 20000 in
set_option maxHeartbeats 2000000 in
theorem v_J0_charAt_5068e (i0 : Nat) (p0 : Int32) (h : i0 < 7 ∧ vp_in p0 (lenS.getD i0 0)) : vc_J0_charAt_5068e i0 p0 (fun r => r = (chS i0 p0)) := by
  exact ⟨h.1, h.1, fun c => absurd c (by decide), fun _ => ⟨h.1, h, chS_nar h.1 h.2, rfl⟩⟩
set_option maxRecDepth 20000 in
set_option maxHeartbeats 2000000 in
theorem v_J1_canEncode_9a6ad (p0 : Int32) : vc_J1_canEncode_9a6ad p0 (fun r => r = (b2i (decide ((p0.toUInt32 >>> ((8 : Int32).toUInt32 &&& Int32.toUInt32 31)).toInt32 = 0)))) := by
  have e := enc_iff p0
  unfold vc_J1_canEncode_9a6ad
  refine ⟨fun c => ?_, fun c => ⟨fun c2 => ?_, fun c2 => ?_⟩⟩
  · have : ¬ (p0.toUInt32 >>> ((8 : Int32).toUInt32 &&& Int32.toUInt32 31)).toInt32 = 0 := fun q => absurd (e.mp q).1 (Int32.not_le.mpr c)
    rw [decide_eq_false this]; rfl
  · have : ¬ (p0.toUInt32 >>> ((8 : Int32).toUInt32 &&& Int32.toUInt32 31)).toInt32 = 0 := fun q => absurd (e.mp q).2 (Int32.not_le.mpr c2)
    rw [decide_eq_false this]; rfl
  · rw [decide_eq_true (e.mpr ⟨Int32.not_lt.mp c, Int32.not_lt.mp c2⟩)]; rfl
set_option maxRecDepth 20000 in
set_option maxHeartbeats 2000000 in
theorem v_J1_indexOfChar_4cfef (p0 : Nat) (p1 : Int32) (p2 : Int32) (p3 : Int32) (h : p0 < 7 ∧ (0 ≤ p1 ∧ p1 ≤ 255) ∧ p2 = 0 ∧ p3 = lenI p0) : vc_J1_indexOfChar_4cfef p0 p1 p2 p3 (fun r => r = (ixS p0 p1)) := by
  obtain ⟨h0, h1, rfl, rfl⟩ := h
  have h7 := len_7 p0 h0
  unfold vc_J1_indexOfChar_4cfef
  intro T hT
  refine first_loop (n := lenS.getD p0 0) (fun k => decide ((bytS.getD p0 []).getD k 0 = p1)) (fun j => T (p1.toInt8.toInt32) (nI j)) (fun o => (match o with | some k => nI k | none => (-1 : Int32)) = ixS p0 p1) 0 (fun q => ?_) (fun j _ hj h1' h0' => ?_) rfl
  · rw [Nat.zero_add]
    exact hT _ _ ⟨fun _ => q, fun c => absurd (Int32.le_refl _) c⟩
  · have hj2 : j < lenS.getD p0 0 := by omega
    refine hT _ _ ⟨fun c => absurd c (nI_ge hj2 (by omega)), fun _ => ⟨h0, vin hj2 (by omega), ?_⟩⟩
    rw [nI_clamp (by omega), nI_1]
    have hb := byte_eq (byt_nat p0 h0 j hj2) h1
    exact ⟨fun c => h1' (by simpa using fun q => c (hb.mpr q)), fun c => h0' (by simpa using hb.mp c)⟩
set_option maxRecDepth 20000 in
set_option maxHeartbeats 2000000 in
theorem v_J1_indexOf_4cfef (p0 : Nat) (p1 : Int32) (p2 : Int32) (p3 : Int32) (h : p0 < 7 ∧ (0 ≤ p1 ∧ p1 ≤ 255) ∧ p2 = 0 ∧ p3 = lenI p0) : vc_J1_indexOf_4cfef p0 p1 p2 p3 (fun r => r = (ixS p0 p1)) := by
  obtain ⟨h0, h1, rfl, rfl⟩ := h
  have h7 := len_7 p0 h0
  have e1 : jmax 0 0 = 0 := by decide
  have e2 : jmin (lenI p0) (nI (lenS.getD p0 0)) = lenI p0 := by unfold jmin lenI; rw [if_neg (Int32.lt_irrefl)]
  unfold vc_J1_indexOf_4cfef
  rw [decide_eq_true ((enc_iff p1).mpr h1), e1, e2]
  refine ⟨fun _ => ⟨h0, fun c => ⟨⟨h0, h1, rfl, rfl⟩, rfl⟩, fun c => ?_⟩, fun c => absurd c (by decide)⟩
  have hz : lenS.getD p0 0 = 0 := Decidable.byContradiction fun q => c (by unfold lenI; exact nI_lt (a := 0) (by omega) (by omega))
  show (-1 : Int32) = ixS p0 p1
  unfold ixS
  rw [hz]; rfl
set_option maxRecDepth 20000 in
set_option maxHeartbeats 2000000 in
theorem v_J0_indexOf_7cf53 (i0 : Nat) (p0 : Int32) (p1 : Int32) (h : i0 < 7 ∧ (0 ≤ p0 ∧ p0 ≤ 255) ∧ p1 = 0) : vc_J0_indexOf_7cf53 i0 p0 p1 (fun r => r = (ixS i0 p0)) := by
  exact ⟨h.1, h.1, fun c => absurd c (by decide), fun _ => ⟨h.1, h.1, h.1, ⟨h.1, h.2.1, h.2.2, rfl⟩, rfl⟩⟩
set_option maxRecDepth 20000 in
set_option maxHeartbeats 2000000 in
theorem v_J0_indexOf_0f7a4 (i0 : Nat) (p0 : Int32) (h : i0 < 7 ∧ (0 ≤ p0 ∧ p0 ≤ 255)) : vc_J0_indexOf_0f7a4 i0 p0 (fun r => r = (ixS i0 p0)) := by
  exact ⟨⟨h.1, h.2, rfl⟩, h.1, rfl⟩
set_option maxRecDepth 20000 in
set_option maxHeartbeats 2000000 in
theorem v_X1_shape (p0 : Int32) : vc_X1_shape p0 (fun r => r = (shapeN p0)) := by
  unfold vc_X1_shape shapeN; grind
set_option maxRecDepth 20000 in
set_option maxHeartbeats 2000000 in
theorem v_X1_isOfShape (p0 : Int32) (p1 : Int32) (h : 0 ≤ p0 ∧ p0 ≤ 255) : vc_X1_isOfShape p0 p1 (fun r => r = (ofShapeI p0 p1)) := by
  have h6 : 6 < 7 := by decide
  generalize e : ixS 6 p0 = I
  unfold vc_X1_isOfShape ofShapeI
  rw [e]
  grind [b2i]
set_option maxRecDepth 20000 in
set_option maxHeartbeats 2000000 in
theorem v_X1_sign (σ : KZ) (p0 : Int32) (h : okZ σ) : vc_X1_sign σ p0 (fun r => r = (signI σ p0)) := by
  have h1 := h.2 p0.toNatClampNeg
  have hn : narrow .char (.int (zText σ p0.toNatClampNeg)) = .int (zText σ p0.toNatClampNeg) := by
    obtain ⟨k, hk, e⟩ := nI_up (M := 255) (n := 255) (by decide) h1
    rw [e]; exact (pk_charN (by omega)).1
  have hv : ¬ p0 < 0 → ¬ 96 ≤ p0 → vp_in p0 96 := fun a b => vin_lt (N := 96) (by decide) (Int32.not_lt.mp a) (Int32.not_le.mp b)
  clear h h1
  unfold vc_X1_sign signI; grind
set_option maxRecDepth 20000 in
set_option maxHeartbeats 2000000 in
theorem v_X1_digit (σ : KZ) (p0 : Int32) (h : okZ σ) : vc_X1_digit σ p0 (fun r => r = (digV σ p0)) := by
  exact ⟨h, rfl⟩
set_option maxRecDepth 20000 in
set_option maxHeartbeats 2000000 in
theorem v_X1_statementLength (σ : KZ) (p0 : Int32) (h : okZ σ) : vc_X1_statementLength σ p0 (fun r => r = (stLenV σ p0)) := by
  exact ⟨h, shape_7 _, shape_7 _, rfl⟩
set_option maxRecDepth 20000 in
set_option maxHeartbeats 2000000 in
theorem v_X1_brokenPlace (σ : KZ) (h : okZ σ) : vc_X1_brokenPlace σ (fun r => r = (brokenV σ)) := by
  obtain ⟨len, hl, hz⟩ := okZ_len h
  unfold vc_X1_brokenPlace
  intro T hT
  have key : ∀ (d k w : Nat) (c : Int32), k + d = len → w < 6 → 0 ≤ c → c ≤ 5 → brokenFrom σ d k w c = brokenV σ → T w c (nI k) := by
    intro d
    induction d with
    | zero =>
      intro k w c hk hw h0 h5 he
      rw [brokenFrom] at he
      refine hT _ _ _ ⟨fun _ => ⟨fun z => ?_, fun z => ⟨by omega, by omega, fun q => ?_, fun q => ?_⟩⟩, fun z => absurd (by rw [hz, show k = len by omega]; exact Int32.le_refl _) z⟩
      · rw [if_pos z] at he; exact he
      · rw [if_neg z, if_neg (Int32.not_lt.mpr q)] at he; exact he
      · rw [if_neg z, if_pos (Int32.not_le.mp q)] at he; exact he
    | succ d ih =>
      intro k w c hk hw h0 h5 he
      have hk96 : k < 96 := by omega
      have hkc : (nI k).toNatClampNeg = k := nI_clamp (by omega)
      rw [brokenFrom] at he
      refine hT _ _ _ ⟨fun z => absurd z (by rw [hz]; exact nI_ge (by omega) (by omega)), fun _ => ⟨by omega, by omega, fun q => ?_, fun q => ?_⟩⟩
      · have hlw : (lenI w).toInt = lenS.getD w 0 := nI_toInt (by have := len_7 w (by omega); omega)
        have hvc : vp_in c (lenS.getD w 0) := vin_lt hlw h0 q
        rw [if_neg (Int32.not_le.mpr q)] at he
        rw [hkc, nI_1]
        refine ⟨vin hk96, ⟨by omega, hvc⟩, by omega, h.2 k, fun e => ?_, fun e => ?_⟩
        · rw [if_pos e] at he; exact he
        · rw [if_neg e] at he
          obtain ⟨j, hj, ej⟩ := vin_nat hvc (by have := len_7 w (by omega); omega)
          have h6 := (len_5 w)
          refine ih (k + 1) w (c + 1) (by omega) hw ?_ ?_ he
          · rw [ej, nI_1]; exact nI_pos' (by have := len_7 w (by omega); omega)
          · have : lenS.getD w 0 ≤ 5 := by
              have : ∀ w, w < 6 → lenS.getD w 0 ≤ 5 := by decide
              exact this w hw
            rw [ej, nI_1]; exact nI_le (b := 5) (by omega) (by decide)
      · rw [if_pos (Int32.not_lt.mp q)] at he
        rw [hkc, nI_1]
        refine ⟨vin hk96, shape_7 _, shape_7 _, fun e => ?_, fun e => ?_⟩
        · have e' : ¬ lenI (shapeN (zText σ k)) = 0 := by
            have := b2i_z.mp e
            simpa using this
          rw [if_neg e'] at he
          exact ih (k + 1) _ 0 (by omega) (shape_6 _) (by decide) (by decide) he
        · have e' : lenI (shapeN (zText σ k)) = 0 := by
            have := b2i_ne.mp e
            simpa using this
          rw [if_pos e'] at he
          exact he
  refine key len 0 5 0 (by omega) (by decide) (by decide) (by decide) ?_
  unfold brokenV
  rw [hz, nI_clamp (by omega)]
set_option maxRecDepth 20000 in
set_option maxHeartbeats 2000000 in
theorem v_X1_playWitness (σ : KP) (p0 : Int32) (h : okZ (qScr σ) ∧ okC (qCourt σ) ∧ zC (qCourt σ) ∧ sAsked (cS (qCourt σ)) ≤ 999 ∧ 0 ≤ p0 ∧ p0 ≤ 96) : vc_X1_playWitness σ p0 (fun r u => (r = ((playWC (qScr σ) (qCourt σ) p0).1) ∧ u = ((((playWC (qScr σ) (qCourt σ) p0).2), (qScr σ))))) := by
  obtain ⟨hz, hC, hz2, ha, hp⟩ := h
  have h6 : 6 < 7 := by decide
  exact ⟨hz, hz, hz, ⟨h6, sign_r hz _⟩, h6, hz, hC.1, b2i_nar _, rfl, rfl⟩
set_option maxRecDepth 20000 in
set_option maxHeartbeats 2000000 in
theorem v_X1_play (σ : KP) (p0 : Int32) (h : okZ (qScr σ) ∧ okC (qCourt σ) ∧ zC (qCourt σ) ∧ sAsked (cS (qCourt σ)) ≤ 999 ∧ 0 ≤ p0 ∧ p0 ≤ 96) : vc_X1_play σ p0 (fun r u => (r = ((playC (qScr σ) (qCourt σ) p0).1) ∧ u = ((((playC (qScr σ) (qCourt σ) p0).2), (qScr σ))))) := by
  obtain ⟨hz, hC, hz2, ha, hp⟩ := h
  have hf := fun f : Int32 => b2i_nar (decide (0 ≤ f) && decide (f < 6))
  unfold vc_X1_play
  refine ⟨hz, hz, hz, fun c => ⟨fun d => ?_, fun d => ?_⟩, fun n1 => ⟨fun c => ⟨hf _, ?_⟩, fun n2 => ⟨fun c => ⟨?_, ?_⟩, fun n3 => ⟨fun c => ?_, fun n4 => ⟨fun c => ⟨hz, hC.1, b2i_nar _, ?_⟩, fun n5 => ⟨fun c => ⟨⟨hz, hC, hz2, ha, hp⟩, b2i_nar _, ?_⟩, fun n6 => ?_⟩⟩⟩⟩⟩⟩
  · obtain ⟨d1, d2, d3⟩ := can_b d
    refine ⟨⟨hC, d1, d2, Int32.lt_trans d3 (by decide)⟩, ?_⟩
    have e : playC (qScr σ) (qCourt σ) p0 = (1, setSC (qCourt σ) (askS (cS (qCourt σ)) (digV (qScr σ) (p0 + 1)) (digV (qScr σ) (p0 + 2)))) := by
      rw [playC_e, if_neg (by rw [c]; decide), if_neg (by rw [c]; decide), if_neg (by rw [c]; decide), if_neg (by rw [c]; decide), if_pos c, if_neg d]
    rw [e]; exact ⟨rfl, rfl⟩
  · have e : playC (qScr σ) (qCourt σ) p0 = (0, qCourt σ) := by
      rw [playC_e, if_neg (by rw [c]; decide), if_neg (by rw [c]; decide), if_neg (by rw [c]; decide), if_neg (by rw [c]; decide), if_pos c, if_pos d]
    rw [e]; exact ⟨rfl, rfl⟩
  · rw [playC_e, if_pos c]; exact ⟨rfl, rfl⟩
  · unfold flipKI
    by_cases q1 : hasWI (cS (qCourt σ)) (digV (qScr σ) (p0 + 1)) = 0
    · rw [if_pos q1]; rfl
    · rw [if_neg q1]
      by_cases q2 : isFactI (digV (qScr σ) (p0 + 2)) = 0
      · rw [if_pos q2]; rfl
      · rw [if_neg q2]; rfl
  · rw [playC_e, if_neg n2, if_neg (by rw [c]; decide), if_neg (by rw [c]; decide), if_pos c]; exact ⟨rfl, rfl⟩
  · rw [playC_e, if_neg n2, if_neg (by rw [c]; decide), if_neg (by rw [c]; decide), if_neg n3, if_neg n1, if_pos c]; exact ⟨rfl, rfl⟩
  · rw [playC_e, if_neg n2, if_pos c]; exact ⟨rfl, rfl⟩
  · rw [playC_e, if_neg n2, if_neg n5, if_pos c]; exact ⟨rfl, rfl⟩
  · have e : playC (qScr σ) (qCourt σ) p0 = (0, qCourt σ) := by
      rw [playC_e, if_neg n2, if_neg n5, if_neg n6, if_neg n3, if_neg n1, if_neg n4]
    rw [e]; exact ⟨rfl, rfl⟩
set_option maxRecDepth 20000 in
set_option maxHeartbeats 2000000 in
theorem v_X2_playScript (σ : KX) (h : okX σ ∧ okZ (xScr σ)) : vc_X2_playScript σ (fun r u => ∃ (ex_trial : KC), (zC ex_trial) ∧ (r = (courtXV (xScr σ) (xNow σ)) ∧ u = (((courtXN (xScr σ) (xNow σ)), (xTaken σ), (ex_trial), (xScr σ), (xRow σ), (xRefus σ), (xKept σ), (xRowLen σ), (xIsTaken σ))))) := by
  obtain ⟨hX, hz⟩ := h
  obtain ⟨len, hl, ez⟩ := okZ_len hz
  have hG : goodC (xNow σ) := ⟨hX.1, hX.2.1, hX.2.2.2.2.2.2⟩
  unfold vc_X2_playScript
  intro T hT
  refine ⟨hz, fun c => ⟨⟨hX.2.2.2.1, hX.2.1⟩, ?_⟩, fun c => ?_⟩
  · have hV : courtXV (xScr σ) (xNow σ) = (playFrom (xScr σ) 97 0 0 (xNow σ)).1 := by unfold courtXV; rw [if_neg (Int32.not_le.mpr c)]
    have hN : courtXN (xScr σ) (xNow σ) = match (playFrom (xScr σ) 97 0 0 (xNow σ)).2 with | some r => r | none => xNow σ := by unfold courtXN; rw [if_neg (Int32.not_le.mpr c)]
    have key : ∀ (d k p : Nat) (t : KC), k + d = 97 → k ≤ 96 → p ≤ 200 → goodC t → playFrom (xScr σ) d (nI p) (nI k) t = playFrom (xScr σ) 97 0 0 (xNow σ) → T (nI p) (nI k) (xNow σ) t := by
      intro d
      induction d with
      | zero => intro k p t hk h96; omega
      | succ d ih =>
        intro k p t hk h96 hp hg he
        rw [playFrom] at he
        have ends : ¬ (nI p < zLen (xScr σ) ∧ nI k < 96) → (zC (xNow σ) ∧ zC t) ∧ ∃ ex_trial : KC, zC ex_trial ∧ (nI k = courtXV (xScr σ) (xNow σ) ∧ ((t, xTaken σ, t, xScr σ, xRow σ, xRefus σ, xKept σ, xRowLen σ, xIsTaken σ) : KX) = (courtXN (xScr σ) (xNow σ), xTaken σ, ex_trial, xScr σ, xRow σ, xRefus σ, xKept σ, xRowLen σ, xIsTaken σ)) := by
          intro q
          rw [if_neg q] at he
          refine ⟨⟨hG.2.1, hg.2.1⟩, t, hg.2.1, ?_, ?_⟩
          · rw [hV, ← he]
          · rw [hN, ← he]
        refine hT _ _ _ _ ⟨fun q => ends (fun z => absurd q (Int32.not_le.mpr z.1)), fun q => ⟨fun q2 => ends (fun z => absurd q2 (Int32.not_le.mpr z.2)), fun q2 => ?_⟩⟩
        have hlt : p < len := by
          have := Int32.not_le.mp q
          rw [ez] at this
          exact (nI_ltI (by omega) (by omega)).mp this
        have hk96 : k < 96 := (nI_ltI (b := 96) (by omega) (by decide)).mp (Int32.not_le.mp q2)
        rw [if_pos ⟨Int32.not_le.mp q, Int32.not_le.mp q2⟩] at he
        refine ⟨⟨hz, hg.1, hg.2.1, hg.2.2, nI_pos' (by omega), nI_le (b := 96) (by omega) (by decide)⟩, fun e => ⟨hz, ?_⟩, fun e => ?_⟩
        · simp only [e, if_false] at he
          obtain ⟨j, hj, ej⟩ := stLen_nat (xScr σ) (nI p)
          rw [ej, nI_add, nI_1] at he ⊢
          exact ih (k + 1) (p + j) _ (by omega) (by omega) (by omega) (play_good hg (nI p)) he
        · simp only [e, if_true] at he
          refine ⟨(playC (xScr σ) t (nI p)).2, (play_good hg (nI p)).2.1, ?_, ?_⟩
          · rw [hV, ← he]
          · rw [hN, ← he]
    exact key 97 0 0 (xNow σ) rfl (by decide) (by decide) hG rfl
  · refine ⟨xTrial σ, hX.2.2.2.1, ?_, ?_⟩
    · unfold courtXV; rw [if_pos (Int32.not_lt.mp c)]
    · unfold courtXN; rw [if_pos (Int32.not_lt.mp c)]
set_option maxRecDepth 20000 in
set_option maxHeartbeats 2000000 in
theorem v_X2_court (σ : KX) (h : okX σ ∧ okZ (xScr σ)) : vc_X2_court σ (fun r u => ∃ (ex_trial : KC), (zC ex_trial) ∧ (r = (courtXV (xScr σ) (xNow σ)) ∧ u = (((courtXN (xScr σ) (xNow σ)), (xTaken σ), (ex_trial), ((0), (zText (xScr σ))), (xRow σ), (xRefus σ), (xKept σ), (xRowLen σ), (xIsTaken σ))))) := by
  exact ⟨h, fun t hz => ⟨t, hz, rfl, rfl⟩⟩
theorem c_J0_coder_7d493 (l : Launch) : C_J0_coder_7d493 l := fun g i0 h => m_J0_coder_7d493 l  g i0 _ (v_J0_coder_7d493 i0 h)
theorem c_J0_length_8abf5 (l : Launch) : C_J0_length_8abf5 l := fun g i0 h => m_J0_length_8abf5 l (c_J0_coder_7d493 l) g i0 _ (v_J0_length_8abf5 i0 h)
theorem c_J0_isLatin1_aae02 (l : Launch) : C_J0_isLatin1_aae02 l := fun g i0 h => m_J0_isLatin1_aae02 l  g i0 _ (v_J0_isLatin1_aae02 i0 h)
theorem c_J0_isEmpty_aae02 (l : Launch) : C_J0_isEmpty_aae02 l := fun g i0 h => m_J0_isEmpty_aae02 l  g i0 _ (v_J0_isEmpty_aae02 i0 h)
theorem c_J3_checkIndex_n (l : Launch) : C_J3_checkIndex_n l := fun g p0 p1 h => m_J3_checkIndex_n l  g p0 p1 _ (v_J3_checkIndex_n p0 p1 h)
theorem c_J3_checkIndex_r (l : Launch) : C_J3_checkIndex_r l := fun g p0 p1 p2 h => m_J3_checkIndex_r l  g p0 p1 p2 _ (v_J3_checkIndex_r p0 p1 p2 h)
theorem c_J0_checkIndex_df160 (l : Launch) : C_J0_checkIndex_df160 l := fun g p0 p1 h => m_J0_checkIndex_df160 l (c_J3_checkIndex_n l) (c_J3_checkIndex_r l) g p0 p1 _ (v_J0_checkIndex_df160 p0 p1 h)
theorem c_J1_charAt_3b067 (l : Launch) : C_J1_charAt_3b067 l := fun g p0 p1 h => m_J1_charAt_3b067 l (c_J0_checkIndex_df160 l) g p0 p1 _ (v_J1_charAt_3b067 p0 p1 h)
theorem c_J0_charAt_5068e (l : Launch) : C_J0_charAt_5068e l := fun g i0 p0 h => m_J0_charAt_5068e l (c_J0_isLatin1_aae02 l) (c_J1_charAt_3b067 l) g i0 p0 _ (v_J0_charAt_5068e i0 p0 h)
theorem c_J1_canEncode_9a6ad (l : Launch) : C_J1_canEncode_9a6ad l := fun g p0 => m_J1_canEncode_9a6ad l  g p0 _ (v_J1_canEncode_9a6ad p0)
theorem c_J1_indexOfChar_4cfef (l : Launch) : C_J1_indexOfChar_4cfef l := fun g p0 p1 p2 p3 h => m_J1_indexOfChar_4cfef l  g p0 p1 p2 p3 _ (v_J1_indexOfChar_4cfef p0 p1 p2 p3 h)
theorem c_J1_indexOf_4cfef (l : Launch) : C_J1_indexOf_4cfef l := fun g p0 p1 p2 p3 h => m_J1_indexOf_4cfef l (c_J1_canEncode_9a6ad l) (c_J1_indexOfChar_4cfef l) g p0 p1 p2 p3 _ (v_J1_indexOf_4cfef p0 p1 p2 p3 h)
theorem c_J0_indexOf_7cf53 (l : Launch) : C_J0_indexOf_7cf53 l := fun g i0 p0 p1 h => m_J0_indexOf_7cf53 l (c_J0_isLatin1_aae02 l) (c_J0_length_8abf5 l) (c_J1_indexOf_4cfef l) g i0 p0 p1 _ (v_J0_indexOf_7cf53 i0 p0 p1 h)
theorem c_J0_indexOf_0f7a4 (l : Launch) : C_J0_indexOf_0f7a4 l := fun g i0 p0 h => m_J0_indexOf_0f7a4 l (c_J0_indexOf_7cf53 l) g i0 p0 _ (v_J0_indexOf_0f7a4 i0 p0 h)
theorem c_X1_shape (l : Launch) : C_X1_shape l := fun g p0 => m_X1_shape l  g p0 _ (v_X1_shape p0)
theorem c_X1_isOfShape (l : Launch) : C_X1_isOfShape l := fun g p0 p1 h => m_X1_isOfShape l (c_J0_indexOf_0f7a4 l) g p0 p1 _ (v_X1_isOfShape p0 p1 h)
theorem c_X1_sign (l : Launch) : C_X1_sign l := fun g ad o σ p0 h => m_X1_sign l  g ad o σ p0 _ (v_X1_sign σ p0 h)
theorem c_X1_digit (l : Launch) : C_X1_digit l := fun g ad o σ p0 h => m_X1_digit l (c_X1_sign l) g ad o σ p0 _ (v_X1_digit σ p0 h)
theorem c_X1_statementLength (l : Launch) : C_X1_statementLength l := fun g ad o σ p0 h => m_X1_statementLength l (c_J0_length_8abf5 l) (c_X1_shape l) (c_X1_sign l) g ad o σ p0 _ (v_X1_statementLength σ p0 h)
theorem c_X1_brokenPlace (l : Launch) : C_X1_brokenPlace l := fun g ad o σ h => m_X1_brokenPlace l (c_J0_charAt_5068e l) (c_J0_isEmpty_aae02 l) (c_J0_length_8abf5 l) (c_X1_isOfShape l) (c_X1_shape l) g ad o σ _ (v_X1_brokenPlace σ h)
theorem c_X1_playWitness (l : Launch) : C_X1_playWitness l := fun g ad σ p0 h => m_X1_playWitness l (c_J0_indexOf_0f7a4 l) (c_X0_addWitness l) (c_X1_digit l) (c_X1_sign l) g ad σ p0 _ (v_X1_playWitness σ p0 h)
theorem c_X1_play (l : Launch) : C_X1_play l := fun g ad σ p0 h => m_X1_play l (c_X0_addQuestion l) (c_X0_ask l) (c_X0_canAsk l) (c_X0_flipFact l) (c_X0_flipKnown l) (c_X1_digit l) (c_X1_playWitness l) (c_X1_sign l) g ad σ p0 _ (v_X1_play σ p0 h)
theorem c_X2_playScript (l : Launch) : C_X2_playScript l := fun g ad σ h => m_X2_playScript l (c_X0_becomes_30_4 l) (c_X0_becomes_4_30 l) (c_X1_brokenPlace l) (c_X1_play l) (c_X1_statementLength l) g ad σ _ (v_X2_playScript σ h)
theorem c_X2_court (l : Launch) : C_X2_court l := fun g ad σ h => m_X2_court l (c_X2_playScript l) g ad σ _ (v_X2_court σ h)
theorem lotsN_s (x : SS) (n : Nat) (a : Int32 × Int32 × Int32) : lotsN x (n + 1) a = ((sessionN (sNw x) (sNq x) 6 ((lotsN x n a).1, (lotsN x n a).2.1, x)).1, (sessionN (sNw x) (sNq x) 6 ((lotsN x n a).1, (lotsN x n a).2.1, x)).2.1, (lotsN x n a).2.2 + sumN (fitOf (sessionN (sNw x) (sNq x) 6 ((lotsN x n a).1, (lotsN x n a).2.1, x)).2.2 0) 64) := by rw [lotsN]
theorem sessionN_0 (nw nq : Int32) (a : Int32 × Int32 × SS) : sessionN nw nq 0 a = a := by rw [sessionN]
theorem lotsN_0 (x : SS) (a : Int32 × Int32 × Int32) : lotsN x 0 a = a := by rw [lotsN]
theorem sessionN_s (nw nq : Int32) (n : Nat) (a : Int32 × Int32 × SS) : sessionN nw nq (n + 1) a = (drawZ (drawZ (sessionN nw nq n a).1), (sessionN nw nq n a).2.1 + b2i (decide (askV (sessionN nw nq n a).2.2 (drawV (sessionN nw nq n a).1 nw) (drawV (drawZ (sessionN nw nq n a).1) nq) = 1)), askS (sessionN nw nq n a).2.2 (drawV (sessionN nw nq n a).1 nw) (drawV (drawZ (sessionN nw nq n a).1) nq)) := by rw [sessionN]
set_option maxHeartbeats 2000000 in
theorem lots_inv {x : SS} {nw nq : Nat} (hS : okS x) (hZ : zS x) (h9 : sAsked x ≤ 999) (hnq : nq ≤ 8) (enq : sNq x = nI nq) (hnw : nw ≤ 5) (enw : sNw x = nI nw) (hdw : ∀ z, ∃ d : Nat, d < nw ∧ drawV z (sNw x) = nI d) (hdq : ∀ z, ∃ d : Nat, d < nq ∧ drawV z (sNq x) = nI d) : ∀ (k : Nat) (z y : Int32), k ≤ 6 → okS (sessionN (sNw x) (sNq x) k (z, y, x)).2.2 ∧ zS (sessionN (sNw x) (sNq x) k (z, y, x)).2.2 ∧ sNq (sessionN (sNw x) (sNq x) k (z, y, x)).2.2 = sNq x ∧ sNw (sessionN (sNw x) (sNq x) k (z, y, x)).2.2 = sNw x ∧ sAsked (sessionN (sNw x) (sNq x) k (z, y, x)).2.2 = sAsked x + nI k := by
  intro k
  induction k with
  | zero => intro z y _; rw [sessionN]; exact ⟨hS, hZ, rfl, rfl, (Int32.add_zero _).symm⟩
  | succ k ih =>
    intro z y hk
    obtain ⟨a1, a2, a3, a4, a5⟩ := ih z y (by omega)
    rw [sessionN_s]
    generalize sessionN (sNw x) (sNq x) k (z, y, x) = B at a1 a2 a3 a4 a5 ⊢
    obtain ⟨b1, b2, b3⟩ := B
    obtain ⟨d1, hd1, e1⟩ := hdw b1
    obtain ⟨d2, hd2, e2⟩ := hdq (drawZ b1)
    have a1 : okS b3 := a1
    have a2 : zS b3 := a2
    have a3 : sNq b3 = sNq x := a3
    have a4 : sNw b3 = sNw x := a4
    have a5 : sAsked b3 = sAsked x + nI k := a5
    have hw : inW b3 (drawV b1 (sNw x)) := by rw [e1]; exact inW_nI (a4.trans enw) hnw hd1
    have hq : inQ b3 (drawV (drawZ b1) (sNq x)) := by rw [e2]; exact inQ_nI (a3.trans enq) hnq hd2
    have ha : sAsked b3 < 5000 := by
      rw [a5]
      obtain ⟨v, hv, ev⟩ := le_of_nI (n := 999) hS.2.1.1 h9 (by decide)
      rw [ev, nI_add]; exact nI_lt (b := 5000) (by omega) (by decide)
    refine ⟨okS_ask a1 hw hq ha, zS_ask a1 a2 _ _, a3, a4, ?_⟩
    have q : sAsked (askS b3 (drawV b1 (sNw x)) (drawV (drawZ b1) (sNq x))) = sAsked b3 + 1 := rfl
    refine q.trans ?_
    rw [a5, Int32.add_assoc, nI_1]
set_option maxHeartbeats 2000000 in
theorem lots_fin {σ : KM} {n : Nat} (p1 p2 : Int32) (hwhy : whyLots (mS σ) (nI n) p2 = 0) {kk : FI} (ke cu : Int32) (F : KF) (lo : Int32) (hkk : mixK (kKept (mK σ)) kk = kk) {v : Int32} (hv : v = lotsV (mS σ) (nI n) p1 p2) : ∃ (ex_kept : FI) (ex_keep : Int32) (ex_cur : Int32) (ex_F : KF) (ex_lots : Int32), v = rsX (whyLots (mS σ) (nI n) p2) (lotsV (mS σ) (nI n) p1 p2) ∧ ((mS σ, mT σ, (kk, kHas (mK σ), ke, cu), F, mRow σ, mRowMany σ, lo, mRefused σ) : KM) = (mS σ, mT σ, (mixK (kKept (mK σ)) ex_kept, kHas (mK σ), ex_keep, ex_cur), ex_F, mRow σ, mRowMany σ, ex_lots, rfX (mRefused σ) (whyLots (mS σ) (nI n) p2)) := by
  refine ⟨kk, ke, cu, F, lo, ?_, ?_⟩
  · rw [hv]; exact rsX_0 hwhy
  · rw [rfX_0 hwhy, hkk]
set_option maxHeartbeats 2000000 in
theorem lots_no (σ : KM) (p0 p1 p2 : Int32) : ∀ w : Int32, whyLots (mS σ) p0 p2 = w → ¬ w = 0 → ∃ (ex_kept : FI) (ex_keep : Int32) (ex_cur : Int32) (ex_F : KF) (ex_lots : Int32), w = rsX (whyLots (mS σ) p0 p2) (lotsV (mS σ) p0 p1 p2) ∧ ((mS σ, mT σ, mK σ, mF σ, mRow σ, mRowMany σ, mLots σ, refuX (mRefused σ) w) : KM) = (mS σ, mT σ, (mixK (kKept (mK σ)) ex_kept, kHas (mK σ), ex_keep, ex_cur), ex_F, mRow σ, mRowMany σ, ex_lots, rfX (mRefused σ) (whyLots (mS σ) p0 p2)) := by
  intro w hw hn
  refine ⟨kKept (mK σ), kKeep (mK σ), kCur (mK σ), mF σ, mLots σ, rsX_n hw hn, ?_⟩
  rw [rfX_n hw hn, mix_self]
abbrev LT3 : Type := Int32 → Int32 → Int32 → KM → Prop
abbrev LT4 : Type := Int32 → Int32 → Int32 → Int32 → KM → Prop
def LH76 (p0 p2 : Int32) (Post : Int32 → KM → Prop) (T76 : LT3) (T91 : LT4) : Prop := ∀ (x5 : Int32) (x6 : Int32) (x7 : Int32) (s_ : KM), (((p0 ≤ x7) → (((¬ p2 = 0) → (Post x6 s_)) ∧ ((p2 = 0) → (Post x5 s_)))) ∧ ((¬ (p0 ≤ x7)) → ((((2 : Int32) = 0 ∨ (2 : Int32) = 1 ∨ (2 : Int32) = 2) ∧ ((1 : Int32) = 0 ∨ (1 : Int32) = 1)) ∧ (∀ (u85 : KM), (u85 = ((if (1 : Int32) = 0 then loadS (kKept (mK s_)) (92 * (2 : Int32)) (mS s_) else mS s_), (mT s_), ((if (1 : Int32) = 0 then kKept (mK s_) else saveS (kKept (mK s_)) (92 * (2 : Int32)) (mS s_), kHas (mK s_), (1 : Int32), 92 * (2 : Int32) + 92)), (mF s_), (mRow s_), (mRowMany s_), (mLots s_), (mRefused s_))) → (T91 x5 x6 x7 0 u85))))) → T76 x5 x6 x7 s_
def LH91 (T76 : LT3) (T91 : LT4) : Prop := ∀ (x5 : Int32) (x6 : Int32) (x7 : Int32) (x8 : Int32) (s_ : KM), (((6 ≤ x8) → ((okS (mS s_) ∧ ((0 : Int32) = 0 ∨ (0 : Int32) = 1)) ∧ (∀ (u144 : KM), (u144 = ((mS s_), (mT s_), (mK s_), ((fitM (mS s_) (0 : Int32) (fFit (mF s_))), (fLeft (mF s_)), (fLeftBy (mF s_))), (mRow s_), (mRowMany s_), (mLots s_), (mRefused s_))) → ((((2 : Int32) = 0 ∨ (2 : Int32) = 1 ∨ (2 : Int32) = 2) ∧ ((0 : Int32) = 0 ∨ (0 : Int32) = 1)) ∧ (∀ (u162 : KM), (u162 = ((if (0 : Int32) = 0 then loadS (kKept (mK u144)) (92 * (2 : Int32)) (mS u144) else mS u144), (mT u144), ((if (0 : Int32) = 0 then kKept (mK u144) else saveS (kKept (mK u144)) (92 * (2 : Int32)) (mS u144), kHas (mK u144), (0 : Int32), 92 * (2 : Int32) + 92)), (mF u144), (mRow u144), (mRowMany u144), (mLots u144), (mRefused u144))) → (T76 x5 (x6 + (sumN (fFit (mF u144)) 64)) (x7 + 1) u162)))))) ∧ ((¬ (6 ≤ x8)) → ((0 < (sNw (mS s_))) ∧ (∀ (u103 : KM), (u103 = ((mS s_), (mT s_), (mK s_), (mF s_), (mRow s_), (mRowMany s_), (drawZ (mLots s_)), (mRefused s_))) → ((0 < (sNq (mS u103))) ∧ (∀ (u118 : KM), (u118 = ((mS u103), (mT u103), (mK u103), (mF u103), (mRow u103), (mRowMany u103), (drawZ (mLots u103)), (mRefused u103))) → ((okS (mS u118) ∧ inW (mS u118) (drawV (mLots s_) (sNw (mS s_))) ∧ inQ (mS u118) (drawV (mLots u103) (sNq (mS u103))) ∧ sAsked (mS u118) < 5000) ∧ (∀ (u121 : KM), (u121 = ((askS (mS u118) (drawV (mLots s_) (sNw (mS s_))) (drawV (mLots u103) (sNq (mS u103)))), (mT u118), (mK u118), (mF u118), (mRow u118), (mRowMany u118), (mLots u118), (mRefused u118))) → (((¬ (askV (mS u118) (drawV (mLots s_) (sNw (mS s_))) (drawV (mLots u103) (sNq (mS u103)))) = 1) → (T91 (x5 + 0) x6 x7 (x8 + 1) u121)) ∧ (((askV (mS u118) (drawV (mLots s_) (sNw (mS s_))) (drawV (mLots u103) (sNq (mS u103)))) = 1) → (T91 (x5 + 1) x6 x7 (x8 + 1) u121))))))))))) → T91 x5 x6 x7 x8 s_
set_option maxHeartbeats 2000000 in
theorem lots_step {T76 : LT3} {T91 : LT4} (h91 : LH91 T76 T91) {b1 b2 : Int32} {b3 : SS} {T : KT} {K : KK} {F : KF} {row rf : FI} {rm n2 x7 : Int32} {k : Nat} (hk : k < 6) (w0 : 0 < sNw b3) (q0 : 0 < sNq b3) (a1 : okS b3) (hw : inW b3 (drawV b1 (sNw b3))) (hq : inQ b3 (drawV (drawZ b1) (sNq b3))) (ha : sAsked b3 < 5000) (ih : T91 (b2 + b2i (decide (askV b3 (drawV b1 (sNw b3)) (drawV (drawZ b1) (sNq b3)) = 1))) n2 x7 (nI (k + 1)) (askS b3 (drawV b1 (sNw b3)) (drawV (drawZ b1) (sNq b3)), T, K, F, row, rm, drawZ (drawZ b1), rf)) : T91 b2 n2 x7 (nI k) (b3, T, K, F, row, rm, b1, rf) := by
  refine h91 _ _ _ _ _ ⟨fun c => absurd c (nle_nI (N := 6) (n := 6) (by decide) (by decide) hk), fun _ => ⟨w0, ?_⟩⟩
  intro u eu; subst eu
  refine ⟨q0, ?_⟩
  intro u eu; subst eu
  refine ⟨⟨a1, hw, hq, ha⟩, ?_⟩
  intro u eu; subst eu
  rw [nI_1]
  refine ⟨fun e => ?_, fun e => ?_⟩
  · have e' : ¬ askV b3 (drawV b1 (sNw b3)) (drawV (drawZ b1) (sNq b3)) = 1 := e
    rw [decide_eq_false e'] at ih
    exact ih
  · have e' : askV b3 (drawV b1 (sNw b3)) (drawV (drawZ b1) (sNq b3)) = 1 := e
    rw [decide_eq_true e'] at ih
    exact ih
set_option maxHeartbeats 2000000 in
theorem lots_exit {T76 : LT3} {T91 : LT4} (h91 : LH91 T76 T91) {b1 b2 : Int32} {b3 x : SS} {T : KT} {kk : FI} {kh : Int32} {F : KF} {row rf : FI} {rm n2 x7 : Int32} (hZ : zS x) (a1 : okS b3) (a2 : zS b3) (hL : T76 b2 (n2 + sumN (fitM b3 0 (fFit F)) 64) (x7 + 1) (x, T, (saveS kk (nI 184) x, kh, 0, nI 184 + 92), (fitM b3 0 (fFit F), fLeft F, fLeftBy F), row, rm, b1, rf)) : T91 b2 n2 x7 (nI 6) (b3, T, (saveS kk (nI 184) x, kh, 1, nI 184 + 92), F, row, rm, b1, rf) := by
  have e184 : (92 : Int32) * 2 = nI 184 := by decide
  have hls := load_save kk (C := 184) (by decide) hZ a2
  have l6 : (6 : Int32) ≤ nI 6 := by decide
  refine h91 _ _ _ _ _ ⟨fun _ => ⟨⟨a1, Or.inl rfl⟩, ?_⟩, fun c => absurd l6 c⟩
  intro u eu; subst eu
  refine ⟨⟨Or.inr (Or.inr rfl), Or.inl rfl⟩, ?_⟩
  intro u eu
  rw [if_pos rfl, if_pos rfl, e184] at eu
  have eu2 : u = (x, T, (saveS kk (nI 184) x, kh, 0, nI 184 + 92), (fitM b3 0 (fFit F), fLeft F, fLeftBy F), row, rm, b1, rf) := by
    refine eu.trans ?_
    exact congrArg (fun z : SS => ((z, T, (saveS kk (nI 184) x, kh, 0, nI 184 + 92), (fitM b3 0 (fFit F), fLeft F, fLeftBy F), row, rm, b1, rf) : KM)) hls
  subst eu2
  exact hL
set_option maxHeartbeats 2000000 in
theorem lots_in {p0 p2 : Int32} {Post : Int32 → KM → Prop} {T76 : LT3} {T91 : LT4} (h76 : LH76 p0 p2 Post T76 T91) {x5 x6 x7 : Int32} {x : SS} {T : KT} {kk : FI} {kh ke cu : Int32} {F : KF} {row rf : FI} {rm lo : Int32} (hlt : ¬ p0 ≤ x7) (K : T91 x5 x6 x7 0 (x, T, (saveS kk (nI 184) x, kh, 1, nI 184 + 92), F, row, rm, lo, rf)) : T76 x5 x6 x7 (x, T, (kk, kh, ke, cu), F, row, rm, lo, rf) := by
  have e184 : (92 : Int32) * 2 = nI 184 := by decide
  have i10 : ¬ (1 : Int32) = 0 := by decide
  refine h76 _ _ _ _ ⟨fun c => absurd c hlt, fun _ => ⟨⟨Or.inr (Or.inr rfl), Or.inr rfl⟩, ?_⟩⟩
  intro u eu
  rw [if_neg i10, if_neg i10, e184] at eu
  subst eu
  exact K
set_option maxRecDepth 20000 in
set_option maxHeartbeats 2000000 in
theorem v_X3_lots (σ : KM) (p0 : Int32) (p1 : Int32) (p2 : Int32) (h : okS (mS σ) ∧ zS (mS σ) ∧ sAsked (mS σ) ≤ 999) : vc_X3_lots σ p0 p1 p2 (fun r u => ∃ (ex_kept : FI) (ex_keep : Int32) (ex_cur : Int32) (ex_F : KF) (ex_lots : Int32), (r = (rsX (whyLots (mS σ) p0 p2) (lotsV (mS σ) p0 p1 p2)) ∧ u = (((mS σ), (mT σ), ((mixK (kKept (mK σ)) ex_kept, kHas (mK σ), ex_keep, ex_cur)), (ex_F), (mRow σ), (mRowMany σ), (ex_lots), (rfX (mRefused σ) (whyLots (mS σ) p0 p2)))))) := by
  have n1 : ((-1) : Int32) < 0 ∧ -6 ≤ ((-1) : Int32) := by decide
  have n2 : ((-2) : Int32) < 0 ∧ -6 ≤ ((-2) : Int32) := by decide
  have n3 : ((-3) : Int32) < 0 ∧ -6 ≤ ((-3) : Int32) := by decide
  have n6 : ((-6) : Int32) < 0 ∧ -6 ≤ ((-6) : Int32) := by decide
  obtain ⟨hS, hZ, h9⟩ := h
  obtain ⟨nq, hnq, enq⟩ := okS_nq hS
  obtain ⟨nw, hnw, enw⟩ := okS_nw hS
  have hb := @bound_neg p0 1 20
  have e184 : (92 : Int32) * 2 = nI 184 := by decide
  have i10 : ¬ (1 : Int32) = 0 := by decide
  unfold vc_X3_lots
  intro T76 T91 h76 h91
  have run : boundI p0 1 20 = 0 → ¬ isInM p2 0 1 = 0 → ¬ sNw (mS σ) = 0 → ¬ sNq (mS σ) = 0 → T76 0 0 0 (mS σ, mT σ, mK σ, mF σ, mRow σ, mRowMany σ, p1, mRefused σ) := by
    intro r1 r2 r3 r4
    have hwhy : whyLots (mS σ) p0 p2 = 0 := by
      unfold whyLots; rw [if_pos r1, if_neg r2, if_neg (fun q => q.elim r3 r4)]
    obtain ⟨m1, m20⟩ := bound_0 r1
    obtain ⟨n, hn, rfl⟩ := nI_up (M := 20) (n := 20) (by decide) ⟨Int32.le_trans (by decide) m1, m20⟩
    have hqp : 0 < nq := by
      rcases Nat.eq_zero_or_pos nq with q | q
      · exact absurd (by rw [enq, q]; rfl) r4
      · exact q
    have hwp : 0 < nw := by
      rcases Nat.eq_zero_or_pos nw with q | q
      · exact absurd (by rw [enw, q]; rfl) r3
      · exact q
    have q0 : 0 < sNq (mS σ) := by rw [enq]; exact nI_lt (a := 0) hqp (by omega)
    have w0 : 0 < sNw (mS σ) := by rw [enw]; exact nI_lt (a := 0) hwp (by omega)
    have hdw : ∀ z, ∃ d : Nat, d < nw ∧ drawV z (sNw (mS σ)) = nI d := fun z => by
      obtain ⟨d, hd, e⟩ := draw_nat (drawOnI z) hwp (by omega)
      exact ⟨d, hd, by rw [drawV_b w0, enw]; exact e⟩
    have hdq : ∀ z, ∃ d : Nat, d < nq ∧ drawV z (sNq (mS σ)) = nI d := fun z => by
      obtain ⟨d, hd, e⟩ := draw_nat (drawOnI z) hqp (by omega)
      exact ⟨d, hd, by rw [drawV_b q0, enq]; exact e⟩
    have inv := lots_inv hS hZ h9 hnq enq hnw enw hdw hdq
    have q76 : LH76 (nI n) p2 (fun r u => ∃ (ex_kept : FI) (ex_keep : Int32) (ex_cur : Int32) (ex_F : KF) (ex_lots : Int32), (r = (rsX (whyLots (mS σ) (nI n) p2) (lotsV (mS σ) (nI n) p1 p2)) ∧ u = (((mS σ), (mT σ), ((mixK (kKept (mK σ)) ex_kept, kHas (mK σ), ex_keep, ex_cur)), (ex_F), (mRow σ), (mRowMany σ), (ex_lots), (rfX (mRefused σ) (whyLots (mS σ) (nI n) p2)))))) T76 T91 := h76
    have q91 : LH91 T76 T91 := h91
    clear h76 h91
    refine (fun K => ?_) (upN n (fun i => ∀ (kk : FI) (ke cu : Int32) (F : KF), mixK (kKept (mK σ)) kk = kk → T76 (lotsN (mS σ) i (p1, 0, 0)).2.1 (lotsN (mS σ) i (p1, 0, 0)).2.2 (nI i) (mS σ, mT σ, (kk, kHas (mK σ), ke, cu), F, mRow σ, mRowMany σ, (lotsN (mS σ) i (p1, 0, 0)).1, mRefused σ)) ?_ (fun i hi ih => ?_) 0 (Nat.zero_le _) (kKept (mK σ)) (kKeep (mK σ)) (kCur (mK σ)) (mF σ) (mix_self _))
    · rw [lotsN_0] at K; exact K
    · intro kk ke cu F hkk
      refine q76 _ _ _ _ ⟨fun _ => ⟨fun c => lots_fin p1 p2 hwhy ke cu F _ hkk ?_, fun c => lots_fin p1 p2 hwhy ke cu F _ hkk ?_⟩, fun c => absurd (Int32.le_refl _) c⟩
      · unfold lotsV; rw [nI_clamp (show n < 2 ^ 31 by omega)]; simp only [if_neg c]
      · unfold lotsV; rw [nI_clamp (show n < 2 ^ 31 by omega)]; simp only [if_pos c]
    · intro kk ke cu F hkk
      have hnx := lotsN_s (mS σ) i (p1, 0, 0)
      rw [hnx] at ih
      clear hnx
      generalize lotsN (mS σ) i (p1, 0, 0) = A at ih ⊢
      obtain ⟨z1, z2, z3⟩ := A
      refine lots_in q76 (nI_ge hi (by omega)) ?_
      refine (fun K => ?_) (upN 6 (fun k => T91 (sessionN (sNw (mS σ)) (sNq (mS σ)) k (z1, z2, mS σ)).2.1 z3 (nI i) (nI k) ((sessionN (sNw (mS σ)) (sNq (mS σ)) k (z1, z2, mS σ)).2.2, mT σ, (saveS kk (nI 184) (mS σ), kHas (mK σ), 1, nI 184 + 92), F, mRow σ, mRowMany σ, (sessionN (sNw (mS σ)) (sNq (mS σ)) k (z1, z2, mS σ)).1, mRefused σ)) ?_ (fun k hk ih2 => ?_) 0 (Nat.zero_le _))
      · rw [sessionN_0] at K; exact K
      · obtain ⟨a1, a2, -⟩ := inv 6 z1 z2 (by decide)
        generalize sessionN (sNw (mS σ)) (sNq (mS σ)) 6 (z1, z2, mS σ) = B at a1 a2 ih ⊢
        obtain ⟨b1, b2, b3⟩ := B
        have hsum : sumN (fitM b3 0 (fFit F)) 64 = sumN (fitOf b3 0) 64 := sumN_congr (fun k hk => by unfold fitM tab; rw [if_pos hk])
        have hm := mix_save hkk (C := 184) (by decide) (by decide) (mS σ)
        refine lots_exit q91 hZ a1 a2 ?_
        rw [hsum, nI_1]
        exact ih (saveS kk (nI 184) (mS σ)) 0 (nI 184 + 92) (fitM b3 0 (fFit F), fLeft F, fLeftBy F) hm
      · obtain ⟨a1, a2, a3, a4, a5⟩ := inv k z1 z2 (by omega)
        rw [sessionN_s] at ih2
        generalize sessionN (sNw (mS σ)) (sNq (mS σ)) k (z1, z2, mS σ) = B at a1 a2 a3 a4 a5 ih2 ⊢
        obtain ⟨b1, b2, b3⟩ := B
        have a3 : sNq b3 = sNq (mS σ) := a3
        have a4 : sNw b3 = sNw (mS σ) := a4
        have a5 : sAsked b3 = sAsked (mS σ) + nI k := a5
        have hw : inW b3 (drawV b1 (sNw b3)) := by
          obtain ⟨d, hd, e⟩ := hdw b1
          rw [a4, e]; exact inW_nI (a4.trans enw) hnw hd
        have hq : inQ b3 (drawV (drawZ b1) (sNq b3)) := by
          obtain ⟨d, hd, e⟩ := hdq (drawZ b1)
          rw [a3, e]; exact inQ_nI (a3.trans enq) hnq hd
        have ha : sAsked b3 < 5000 := by
          rw [a5]
          obtain ⟨x, hx, ex⟩ := le_of_nI (n := 999) hS.2.1.1 h9 (by decide)
          rw [ex, nI_add]; exact nI_lt (b := 5000) (by omega) (by decide)
        refine lots_step q91 hk (by rw [a4]; exact w0) (by rw [a3]; exact q0) a1 hw hq ha ?_
        rw [a4, a3]
        exact ih2
  have no := lots_no σ p0 p1 p2
  refine ⟨fun c => ⟨fun c2 => absurd c2 c, fun _ => ⟨hb c, ?_⟩⟩, fun c => ⟨fun c2 => ⟨fun c3 => ⟨n3, ?_⟩, fun c3 => ⟨fun c4 => run c c2 c3 c4, fun c4 => ⟨n3, ?_⟩⟩⟩, fun c2 => ⟨n2, ?_⟩⟩⟩
  · intro u eu; subst eu
    exact no _ (by unfold whyLots; rw [if_neg c]) c
  · intro u eu; subst eu
    exact no _ (by unfold whyLots; rw [if_pos c, if_neg c2, if_pos (Or.inl c3)]) (by decide)
  · intro u eu; subst eu
    exact no _ (by unfold whyLots; rw [if_pos c, if_neg c2, if_pos (Or.inr c4)]) (by decide)
  · intro u eu; subst eu
    exact no _ (by unfold whyLots; rw [if_pos c, if_pos c2]) (by decide)
