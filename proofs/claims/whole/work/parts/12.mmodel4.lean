set_option maxHeartbeats 4000000 in
set_option maxRecDepth 100000 in
theorem m_X3_areSame (l : Launch) (h_X3_isSo : C_X3_isSo l) (g : CX) (ad : Nat → Nat) (σ : KM) (p0 : Int32) (p1 : Int32) (Post : Int32 → Prop) (hv : vc_X3_areSame σ p0 p1 Post) : Met l yX3_areSame wsX3_areSame { frames := 2, cells := 0, slots := 0, locals := 45 } (va_Pc [.ref (ad 0), .int p0, .int p1] (RO g (wM g ad σ))) (va_Qi (fun r (_ : Unit) => Post r) (fun _ _ => True) A0) 0 0 A0 := by
  unfold vc_X3_areSame at hv
  refine Met.ofW (cc := cX3_areSame) (maxL := 4) (ret := (some .boolean)) (by decide) rfl ?_
  intro p e s m args below meth c s₁ B hml hv0
  obtain ⟨rfl, hP, hK, hE⟩ := hv0
  have hx := B.exec
  have hb := B.bytes
  have hr := B.returns
  have hts := atoms_spec (ws := wsX3_areSame) B.pre
  have hown : s.vm.findClass RX3 = some m.cls := findClass_of_methodNamed B.named
  have hlocks := B.notSynchronized
  have hS : va_S A0 s.heap s.heap [] := va_S.rf
  have hP : va_P (gD g) vwCl (wM g ad σ) s.heap := hP
  have hl := lv_entry ([.ref (ad 0), .int p0, .int p1]) (n := 4) (Nat.le_of_ble_eq_true rfl)
  rw [lg_entry_eq]
  generalize (lg_sl ([.ref (ad 0), .int p0, .int p1]) ++ List.replicate (4 - (lg_sl ([.ref (ad 0), .int p0, .int p1])).length) Slot.unset).toArray = ls at hl ⊢
  have hl : lv_has ls 4 [(0, .ref (ad 0)), (1, .int p0), (2, .int p1)] := hl
  have hv := hv (fun (x3 : Int32) => ∀ (H : Heap) (locs : List Loc) (ls : Array Slot), va_P (gD g) vwCl (wM g ad σ) H → va_S A0 s.heap H locs → lv_has ls 4 [(0, .ref (ad 0)), (1, .int p0), (2, .int p1), (3, .int x3)] → W p l e { frames := 2, cells := 0, slots := 0, locals := 45 } s m ([.ref (ad 0), .int p0, .int p1] : List Value).toArray below meth c H locs 0 0 (MQ below (va_Qi (fun r (_ : Unit) => Post r) (fun _ _ => True) A0) ([.ref (ad 0), .int p0, .int p1] : List Value).toArray s 0 0 A0) (F0 m 2 ls []))
  have hv := hv (by
    intro x3 hv H locs ls hP hS hl
    refine lv_iload_n hx hb dX3_areSame_2 rfl (lv_at hl 3 rfl) ?_
    refine lv_bipush (v := 64) hx hb dX3_areSame_3 (by decide) ?_
    refine lv_icmp_ge (tgt := 31) hx hb dX3_areSame_5 (by decide) (fun c5 => ?_) (fun c5 => ?_)
    · have hv := hv.1 c5
      refine lv_iconst (v := 1) hx hb dX3_areSame_31 (by decide) ?_
      exact W.zret (v := 1) hx hb hr rfl (fun t ht hW => ⟨⟨1, (), rfl, hv, trivial⟩, hS.F ht⟩) hS.2.2 dX3_areSame_32
    · have hv := hv.2 c5
      refine lv_aload_n hx hb dX3_areSame_8 rfl (lv_at hl 0 rfl) ?_
      refine lv_iload_n hx hb dX3_areSame_9 rfl (lv_at hl 1 rfl) ?_
      refine lv_iload_n hx hb dX3_areSame_10 rfl (lv_at hl 3 rfl) ?_
      have h8 := hv.1
      have hv := hv.2
      have hPc := hP
      refine ro_int (va_runV (As := [.int p0, .int x3]) (rest := []) ⟨hx, hb, hml, hown, hts⟩ (h_X3_isSo g ad σ p0 x3 h8) (cwV 2 hts gX3_areSame_X3_isSo rfl rfl rfl (by decide +kernel) ⟨Nat.le_of_ble_eq_true rfl, Nat.le_of_ble_eq_true rfl⟩) ⟨RO_blind, va_recv hK hP (ci := 3) (q0 := 0) rfl rfl, fun U hU hW => ⟨rfl, by rw [hU]; exact hPc, va_K.moved hW.alike hK, hE.call hW hU hS (fun _ h => h.elim)⟩⟩ rfl rfl hl.1 rfl (lv_room (Nat.le_of_ble_eq_true rfl)) dX3_areSame_11 ⟨Nat.le_of_ble_eq_true rfl, Nat.le_of_ble_eq_true rfl⟩) hS hP (fun r H locs hw hP hS => ?_)
      subst r
      refine lv_aload_n hx hb dX3_areSame_14 rfl (lv_at hl 0 rfl) ?_
      refine lv_iload_n hx hb dX3_areSame_15 rfl (lv_at hl 2 rfl) ?_
      refine lv_iload_n hx hb dX3_areSame_16 rfl (lv_at hl 3 rfl) ?_
      have h8 := hv.1
      have hv := hv.2
      have hPc := hP
      refine ro_int (va_runV (As := [.int p1, .int x3]) (rest := [.int (b2i (soB (mS σ) p0 x3))]) ⟨hx, hb, hml, hown, hts⟩ (h_X3_isSo g ad σ p1 x3 h8) (cwV 2 hts gX3_areSame_X3_isSo rfl rfl rfl (by decide +kernel) ⟨Nat.le_of_ble_eq_true rfl, Nat.le_of_ble_eq_true rfl⟩) ⟨RO_blind, va_recv hK hP (ci := 3) (q0 := 0) rfl rfl, fun U hU hW => ⟨rfl, by rw [hU]; exact hPc, va_K.moved hW.alike hK, hE.call hW hU hS (fun _ h => h.elim)⟩⟩ rfl rfl hl.1 rfl (lv_room (Nat.le_of_ble_eq_true rfl)) dX3_areSame_17 ⟨Nat.le_of_ble_eq_true rfl, Nat.le_of_ble_eq_true rfl⟩) hS hP (fun r H locs hw hP hS => ?_)
      subst r
      refine lv_icmp_eq (tgt := 25) hx hb dX3_areSame_20 (by decide) (fun c20 => ?_) (fun c20 => ?_)
      · have hv := hv.1 c20
        refine lv_iinc (v := (x3 + 1)) (lv' := [(3, .int (x3 + 1)), (0, .ref (ad 0)), (1, .int p0), (2, .int p1)]) hx hb dX3_areSame_25 hl (k := 3) rfl (by first | rfl | exact congrArg _ (by decide)) (by decide) rfl (fun ls hl => ?_)
        refine lv_goto (tgt := 2) hx hb dX3_areSame_28 (by decide) ?_
        exact hv H locs ls hP hS (lv_sub hl [1, 2, 3, 0] rfl)
      · have hv := hv.2 c20
        refine lv_iconst (v := 0) hx hb dX3_areSame_23 (by decide) ?_
        exact W.zret (v := 0) hx hb hr rfl (fun t ht hW => ⟨⟨0, (), rfl, hv, trivial⟩, hS.F ht⟩) hS.2.2 dX3_areSame_24)
  obtain ⟨H, hH⟩ : ∃ z, z = s.heap := ⟨_, rfl⟩
  obtain ⟨locs, hL⟩ : ∃ z : List Loc, z = [] := ⟨_, rfl⟩
  rw [← hL] at hS ⊢
  have hS : va_S A0 s.heap H locs := by rw [hH]; exact hS
  rw [← hH] at hP ⊢
  clear hH hL
  refine lv_iconst (v := 0) hx hb dX3_areSame_0 (by decide) ?_
  refine lv_istore_n (lv' := [(3, .int 0), (0, .ref (ad 0)), (1, .int p0), (2, .int p1)]) hx hb dX3_areSame_1 rfl hl (by decide) rfl (fun ls hl => ?_)
  exact hv H locs ls hP hS (lv_sub hl [1, 2, 3, 0] rfl)

set_option maxHeartbeats 4000000 in
set_option maxRecDepth 100000 in
theorem m_X3_same (l : Launch) (h_X3_areSame : C_X3_areSame l) (h_X3_isIn : C_X3_isIn l) (h_X3_no : C_X3_no l) (g : CX) (ad : Nat → Nat) (σ : KM) (p0 : Int32) (Post : Int32 → KM → Prop) (hv : vc_X3_same σ p0 Post) : Met l yX3_same wsX3_same { frames := 3, cells := 0, slots := 0, locals := 68 } (va_Pc [.ref (ad 0), .int p0] (RW g (AD ad 0 21) (wM g ad σ))) (va_Qi (fun (r : Int32) (u : KM) => Post r u) (fun u t => va_P (gD g) vwCl (wM g ad u) t.heap) (AD ad 0 21)) 0 0 (AD ad 0 21) := by
  unfold vc_X3_same at hv
  refine Met.ofW (cc := cX3_same) (maxL := 6) (ret := (some .int)) (by decide) rfl ?_
  intro p e s m args below meth c s₁ B hml hv0
  obtain ⟨rfl, hP, hK, hE, hD⟩ := hv0
  have hx := B.exec
  have hb := B.bytes
  have hr := B.returns
  have hts := atoms_spec (ws := wsX3_same) B.pre
  have hown : s.vm.findClass RX3 = some m.cls := findClass_of_methodNamed B.named
  have hlocks := B.notSynchronized
  have hi3 : ∀ w ∈ wsX30, w ∈ wsX3_same := by decide +kernel
  have k0 := hts (.fieldLink RX3 70 "JuryHearsAnswersModel" "questions" "I") (by decide +kernel)
  have hS : va_S (AD ad 0 21) s.heap s.heap [] := va_S.rf
  have hP : va_P (gD g) vwCl (wM g ad σ) s.heap := hP
  have hl := lv_entry ([.ref (ad 0), .int p0]) (n := 6) (Nat.le_of_ble_eq_true rfl)
  rw [lg_entry_eq]
  generalize (lg_sl ([.ref (ad 0), .int p0]) ++ List.replicate (6 - (lg_sl ([.ref (ad 0), .int p0])).length) Slot.unset).toArray = ls at hl ⊢
  have hl : lv_has ls 6 [(0, .ref (ad 0)), (1, .int p0)] := hl
  have hv := hv (fun (x2 : Int32) (x3 : Int32) (x4 : Int32) (s_refused : FI) => ∀ (H : Heap) (locs : List Loc) (ls : Array Slot), va_P (gD g) vwCl (wM g ad ((mS σ), (mT σ), (mK σ), (mF σ), (mRow σ), (mRowMany σ), (mLots σ), s_refused)) H → va_D (AD ad 0 21) (wM g ad ((mS σ), (mT σ), (mK σ), (mF σ), (mRow σ), (mRowMany σ), (mLots σ), s_refused)) → va_S (AD ad 0 21) s.heap H locs → lv_has ls 6 [(0, .ref (ad 0)), (1, .int p0), (2, .int x2), (3, .int x3), (4, .int x4)] → W p l e { frames := 3, cells := 0, slots := 0, locals := 68 } s m ([.ref (ad 0), .int p0] : List Value).toArray below meth c H locs 0 0 (MQ below (va_Qi (fun (r : Int32) (u : KM) => Post r u) (fun u t => va_P (gD g) vwCl (wM g ad u) t.heap) (AD ad 0 21)) ([.ref (ad 0), .int p0] : List Value).toArray s 0 0 (AD ad 0 21)) (F0 m 29 ls []))
  have hv := hv (fun (x2 : Int32) (x3 : Int32) (x4 : Int32) (x5 : Int32) (s_refused : FI) => ∀ (H : Heap) (locs : List Loc) (ls : Array Slot), va_P (gD g) vwCl (wM g ad ((mS σ), (mT σ), (mK σ), (mF σ), (mRow σ), (mRowMany σ), (mLots σ), s_refused)) H → va_D (AD ad 0 21) (wM g ad ((mS σ), (mT σ), (mK σ), (mF σ), (mRow σ), (mRowMany σ), (mLots σ), s_refused)) → va_S (AD ad 0 21) s.heap H locs → lv_has ls 6 [(0, .ref (ad 0)), (1, .int p0), (2, .int x2), (3, .int x3), (4, .int x4), (5, .int x5)] → W p l e { frames := 3, cells := 0, slots := 0, locals := 68 } s m ([.ref (ad 0), .int p0] : List Value).toArray below meth c H locs 0 0 (MQ below (va_Qi (fun (r : Int32) (u : KM) => Post r u) (fun u t => va_P (gD g) vwCl (wM g ad u) t.heap) (AD ad 0 21)) ([.ref (ad 0), .int p0] : List Value).toArray s 0 0 (AD ad 0 21)) (F0 m 42 ls []))
  have hv := hv (by
    intro x2 x3 x4 s_refused hv H locs ls hP hD hS hl
    refine lv_iload hx hb dX3_same_29 (lv_at hl 4 rfl) ?_
    refine lv_if_lt (tgt := 87) hx hb dX3_same_31 (by decide) (fun c31 => ?_) (fun c31 => ?_)
    · have hv := hv.1 c31
      refine lv_iload_n hx hb dX3_same_87 rfl (lv_at hl 1 rfl) ?_
      refine lv_if_ne (tgt := 95) hx hb dX3_same_88 (by decide) (fun c88 => ?_) (fun c88 => ?_)
      · have hv := hv.1 c88
        refine lv_iload_n hx hb dX3_same_95 rfl (lv_at hl 3 rfl) ?_
        exact W.iret (v := x3) hx hb hr (fun t ht hW => ⟨⟨x3, ((mS σ), (mT σ), (mK σ), (mF σ), (mRow σ), (mRowMany σ), (mLots σ), s_refused), rfl, hv, P_at ht hP⟩, hS.F ht⟩) hS.2.2 dX3_same_96
      · have hv := hv.2 c88
        refine lv_iload_n hx hb dX3_same_91 rfl (lv_at hl 2 rfl) ?_
        refine lv_goto (tgt := 96) hx hb dX3_same_92 (by decide) ?_
        exact W.iret (v := x2) hx hb hr (fun t ht hW => ⟨⟨x2, ((mS σ), (mT σ), (mK σ), (mF σ), (mRow σ), (mRowMany σ), (mLots σ), s_refused), rfl, hv, P_at ht hP⟩, hS.F ht⟩) hS.2.2 dX3_same_96
    · have hv := hv.2 c31
      refine lv_aload_n hx hb dX3_same_34 rfl (lv_at hl 0 rfl) ?_
      refine va_get (D := gD g) (ci := 3) (v := .int (sNq (mS σ))) (C := RX3) (T := TX3) (N := 33) hx hb hts hi3 hown hK hP 0 rfl rfl 12 (by decide) k0 (fun _ h9 => h9) rfl dX3_same_35 ?_
      refine lv_iconst (v := 1) hx hb dX3_same_38 (by decide) ?_
      refine lv_isub hx hb dX3_same_39 ?_
      refine lv_istore (lv' := [(5, .int ((sNq (mS σ)) - 1)), (0, .ref (ad 0)), (1, .int p0), (2, .int x2), (3, .int x3), (4, .int x4)]) hx hb dX3_same_40 hl (by decide) rfl (fun ls hl => ?_)
      exact hv H locs ls hP hD hS (lv_sub hl [1, 2, 3, 4, 5, 0] rfl))
  have hv := hv (by
    intro x2 x3 x4 x5 s_refused hv H locs ls hP hD hS hl
    refine lv_iload hx hb dX3_same_42 (lv_at hl 5 rfl) ?_
    refine lv_iload hx hb dX3_same_44 (lv_at hl 4 rfl) ?_
    refine lv_icmp_le (tgt := 81) hx hb dX3_same_46 (by decide) (fun c46 => ?_) (fun c46 => ?_)
    · have hv := hv.1 c46
      refine lv_iinc (v := (x4 + (-1))) (lv' := [(4, .int (x4 + (-1))), (0, .ref (ad 0)), (1, .int p0), (2, .int x2), (3, .int x3), (5, .int x5)]) hx hb dX3_same_81 hl (k := 4) rfl (by first | rfl | exact congrArg _ (by decide)) (by decide) rfl (fun ls hl => ?_)
      refine lv_goto (tgt := 29) hx hb dX3_same_84 (by decide) ?_
      exact hv H locs ls hP hD hS (lv_sub hl [1, 2, 3, 4, 0] rfl)
    · have hv := hv.2 c46
      refine lv_aload_n hx hb dX3_same_49 rfl (lv_at hl 0 rfl) ?_
      refine lv_iload hx hb dX3_same_50 (lv_at hl 4 rfl) ?_
      refine lv_iload hx hb dX3_same_52 (lv_at hl 5 rfl) ?_
      have h8 := hv.1
      have hv := hv.2
      have hPc := hP
      refine ro_int (va_runV (As := [.int x4, .int x5]) (rest := []) ⟨hx, hb, hml, hown, hts⟩ (h_X3_areSame g ad ((mS σ), (mT σ), (mK σ), (mF σ), (mRow σ), (mRowMany σ), (mLots σ), s_refused) x4 x5 h8) (cwV 2 hts gX3_same_X3_areSame rfl rfl rfl (by decide +kernel) ⟨Nat.le_of_ble_eq_true rfl, Nat.le_of_ble_eq_true rfl⟩) ⟨RO_blind, va_recv hK hP (ci := 3) (q0 := 0) rfl rfl, fun U hU hW => ⟨rfl, by rw [hU]; exact hPc, va_K.moved hW.alike hK, hE.call hW hU hS (fun _ h => h.elim)⟩⟩ rfl rfl hl.1 rfl (lv_room (Nat.le_of_ble_eq_true rfl)) dX3_same_54 ⟨Nat.le_of_ble_eq_true rfl, Nat.le_of_ble_eq_true rfl⟩) hS hP (fun r H locs hw hP hS => ?_)
      subst r
      refine lv_if_ne (tgt := 63) hx hb dX3_same_57 (by decide) (fun c57 => ?_) (fun c57 => ?_)
      · have hv := hv.1 c57
        refine lv_iinc (v := (x2 + 1)) (lv' := [(2, .int (x2 + 1)), (0, .ref (ad 0)), (1, .int p0), (3, .int x3), (4, .int x4), (5, .int x5)]) hx hb dX3_same_63 hl (k := 2) rfl (by first | rfl | exact congrArg _ (by decide)) (by decide) rfl (fun ls hl => ?_)
        refine lv_bipush (v := 10) hx hb dX3_same_66 (by decide) ?_
        refine lv_iload hx hb dX3_same_68 (lv_at hl 4 rfl) ?_
        refine lv_imul hx hb dX3_same_70 ?_
        refine lv_iload hx hb dX3_same_71 (lv_at hl 5 rfl) ?_
        refine lv_iadd hx hb dX3_same_73 ?_
        refine lv_istore_n (lv' := [(3, .int ((10 * x4) + x5)), (2, .int (x2 + 1)), (0, .ref (ad 0)), (1, .int p0), (4, .int x4), (5, .int x5)]) hx hb dX3_same_74 rfl hl (by decide) rfl (fun ls hl => ?_)
        refine lv_iinc (v := (x5 + (-1))) (lv' := [(5, .int (x5 + (-1))), (3, .int ((10 * x4) + x5)), (2, .int (x2 + 1)), (0, .ref (ad 0)), (1, .int p0), (4, .int x4)]) hx hb dX3_same_75 hl (k := 5) rfl (by first | rfl | exact congrArg _ (by decide)) (by decide) rfl (fun ls hl => ?_)
        refine lv_goto (tgt := 42) hx hb dX3_same_78 (by decide) ?_
        exact hv H locs ls hP hD hS (lv_sub hl [3, 4, 2, 1, 5, 0] rfl)
      · have hv := hv.2 c57
        refine lv_goto (tgt := 75) hx hb dX3_same_60 (by decide) ?_
        refine lv_iinc (v := (x5 + (-1))) (lv' := [(5, .int (x5 + (-1))), (0, .ref (ad 0)), (1, .int p0), (2, .int x2), (3, .int x3), (4, .int x4)]) hx hb dX3_same_75 hl (k := 5) rfl (by first | rfl | exact congrArg _ (by decide)) (by decide) rfl (fun ls hl => ?_)
        refine lv_goto (tgt := 42) hx hb dX3_same_78 (by decide) ?_
        exact hv H locs ls hP hD hS (lv_sub hl [1, 2, 3, 4, 5, 0] rfl))
  obtain ⟨H, hH⟩ : ∃ z, z = s.heap := ⟨_, rfl⟩
  obtain ⟨locs, hL⟩ : ∃ z : List Loc, z = [] := ⟨_, rfl⟩
  rw [← hL] at hS ⊢
  have hS : va_S (AD ad 0 21) s.heap H locs := by rw [hH]; exact hS
  rw [← hH] at hP ⊢
  clear hH hL
  refine lv_iload_n hx hb dX3_same_0 rfl (lv_at hl 1 rfl) ?_
  refine lv_iconst (v := 0) hx hb dX3_same_1 (by decide) ?_
  refine lv_iconst (v := 1) hx hb dX3_same_2 (by decide) ?_
  have hPc : va_P (gD g) vwCl [] H := fun k q h => by simp at h
  refine ro_int (va_runS (As := [.int p0, .int 0, .int 1]) (rest := []) ⟨hx, hb, hml, hown, hts⟩ (h_X3_isIn g p0 0 1) (va_cwS 3 hts gX3_same_X3_isIn rfl rfl rfl (by decide +kernel) ⟨Nat.le_of_ble_eq_true rfl, Nat.le_of_ble_eq_true rfl⟩) ⟨RO_blind, fun U hU hW => ⟨rfl, by rw [hU]; exact hPc, va_K.moved hW.alike hK, hE.call hW hU hS (fun _ h => h.elim)⟩⟩ rfl rfl hl.1 rfl (lv_room (Nat.le_of_ble_eq_true rfl)) dX3_same_3 ⟨Nat.le_of_ble_eq_true rfl, Nat.le_of_ble_eq_true rfl⟩) hS hP (fun r H locs hw hP hS => ?_)
  subst r
  refine lv_if_ne (tgt := 16) hx hb dX3_same_6 (by decide) (fun c6 => ?_) (fun c6 => ?_)
  · have hv := hv.1 c6
    refine lv_iconst (v := 0) hx hb dX3_same_16 (by decide) ?_
    refine lv_istore_n (lv' := [(2, .int 0), (0, .ref (ad 0)), (1, .int p0)]) hx hb dX3_same_17 rfl hl (by decide) rfl (fun ls hl => ?_)
    refine lv_bipush (v := (-9)) hx hb dX3_same_18 (by decide) ?_
    refine lv_istore_n (lv' := [(3, .int (-9)), (2, .int 0), (0, .ref (ad 0)), (1, .int p0)]) hx hb dX3_same_20 rfl hl (by decide) rfl (fun ls hl => ?_)
    refine lv_aload_n hx hb dX3_same_21 rfl (lv_at hl 2 rfl) ?_
    refine va_get (D := gD g) (ci := 3) (v := .int (sNq (mS σ))) (C := RX3) (T := TX3) (N := 33) hx hb hts hi3 hown hK hP 0 rfl rfl 12 (by decide) k0 (fun _ h9 => h9) rfl dX3_same_22 ?_
    refine lv_iconst (v := 1) hx hb dX3_same_25 (by decide) ?_
    refine lv_isub hx hb dX3_same_26 ?_
    refine lv_istore (lv' := [(4, .int ((sNq (mS σ)) - 1)), (3, .int (-9)), (2, .int 0), (0, .ref (ad 0)), (1, .int p0)]) hx hb dX3_same_27 hl (by decide) rfl (fun ls hl => ?_)
    exact hv H locs ls hP hD hS (lv_sub hl [3, 4, 2, 1, 0] rfl)
  · have hv := hv.2 c6
    refine lv_aload_n hx hb dX3_same_9 rfl (lv_at hl 0 rfl) ?_
    refine lv_bipush (v := (-2)) hx hb dX3_same_10 (by decide) ?_
    have h8 := hv.1
    have hv := hv.2
    have hPc := hP
    have hDc := hD
    refine rw_int (va_runV (As := [.int (-2)]) (rest := []) ⟨hx, hb, hml, hown, hts⟩ (h_X3_no g ad σ (-2) h8) (cwV 1 hts gX3_same_X3_no rfl rfl rfl (by decide +kernel) ⟨Nat.le_of_ble_eq_true rfl, Nat.le_of_ble_eq_true rfl⟩) ⟨RW_blind, va_recv hK hP (ci := 3) (q0 := 0) rfl rfl, fun U hU hW => ⟨rfl, by rw [hU]; exact hPc, va_K.moved hW.alike hK, hE.call hW hU hS (fun _ h => h), hDc⟩⟩ rfl rfl hl.1 rfl (lv_room (Nat.le_of_ble_eq_true rfl)) dX3_same_12 ⟨Nat.le_of_ble_eq_true rfl, Nat.le_of_ble_eq_true rfl⟩) hS (fun _ h => h) (fun r u H1 locs hw hP1 hk hS => ?_)
    obtain ⟨hw1, hw⟩ := hw; subst r; subst u
    have hP := hP1
    generalize H1 = H at hP hS ⊢
    have hP : va_P (gD g) vwCl (wM g ad ((mS σ), (mT σ), (mK σ), (mF σ), (mRow σ), (mRowMany σ), (mLots σ), (refuX (mRefused σ) ((-2) : Int32)))) H := hP
    have hD : va_D (AD ad 0 21) (wM g ad ((mS σ), (mT σ), (mK σ), (mF σ), (mRow σ), (mRowMany σ), (mLots σ), (refuX (mRefused σ) ((-2) : Int32)))) := hD.addr (by rfl)
    exact W.iret (v := (((-2) : Int32))) hx hb hr (fun t ht hW => ⟨⟨(((-2) : Int32)), ((mS σ), (mT σ), (mK σ), (mF σ), (mRow σ), (mRowMany σ), (mLots σ), (refuX (mRefused σ) ((-2) : Int32))), rfl, hv, P_at ht hP⟩, hS.F ht⟩) hS.2.2 dX3_same_15

set_option maxHeartbeats 4000000 in
set_option maxRecDepth 100000 in
theorem m_X3_implies (l : Launch) (h_X3_findFit : C_X3_findFit l) (h_X3_isQuestion : C_X3_isQuestion l) (h_X3_isSo : C_X3_isSo l) (h_X3_no : C_X3_no l) (g : CX) (ad : Nat → Nat) (σ : KM) (p0 : Int32) (p1 : Int32) (Post : Int32 → KM → Prop) (hv : vc_X3_implies σ p0 p1 Post) : Met l yX3_implies wsX3_implies { frames := 7, cells := 0, slots := 0, locals := 160 } (va_Pc [.ref (ad 0), .int p0, .int p1] (RW g (AD ad 0 21) (wM g ad σ))) (va_Qi (fun (r : Int32) (u : KM) => Post r u) (fun u t => va_P (gD g) vwCl (wM g ad u) t.heap) (AD ad 0 21)) 0 0 (AD ad 0 21) := by
  unfold vc_X3_implies at hv
  refine Met.ofW (cc := cX3_implies) (maxL := 4) (ret := (some .int)) (by decide) rfl ?_
  intro p e s m args below meth c s₁ B hml hv0
  obtain ⟨rfl, hP, hK, hE, hD⟩ := hv0
  have hx := B.exec
  have hb := B.bytes
  have hr := B.returns
  have hts := atoms_spec (ws := wsX3_implies) B.pre
  have hown : s.vm.findClass RX3 = some m.cls := findClass_of_methodNamed B.named
  have hlocks := B.notSynchronized
  have hi3 : ∀ w ∈ wsX30, w ∈ wsX3_implies := by decide +kernel
  have k0 := hts (.fieldLink RX3 58 "JuryHearsAnswersModel" "fit" "[I") (by decide +kernel)
  have hS : va_S (AD ad 0 21) s.heap s.heap [] := va_S.rf
  have hP : va_P (gD g) vwCl (wM g ad σ) s.heap := hP
  have hl := lv_entry ([.ref (ad 0), .int p0, .int p1]) (n := 4) (Nat.le_of_ble_eq_true rfl)
  rw [lg_entry_eq]
  generalize (lg_sl ([.ref (ad 0), .int p0, .int p1]) ++ List.replicate (4 - (lg_sl ([.ref (ad 0), .int p0, .int p1])).length) Slot.unset).toArray = ls at hl ⊢
  have hl : lv_has ls 4 [(0, .ref (ad 0)), (1, .int p0), (2, .int p1)] := hl
  have hv := hv (fun (x3 : Int32) (s_F_fit : FI) (s_refused : FI) => ∀ (H : Heap) (locs : List Loc) (ls : Array Slot), va_P (gD g) vwCl (wM g ad ((mS σ), (mT σ), (mK σ), (s_F_fit, (fLeft (mF σ)), (fLeftBy (mF σ))), (mRow σ), (mRowMany σ), (mLots σ), s_refused)) H → va_D (AD ad 0 21) (wM g ad ((mS σ), (mT σ), (mK σ), (s_F_fit, (fLeft (mF σ)), (fLeftBy (mF σ))), (mRow σ), (mRowMany σ), (mLots σ), s_refused)) → va_S (AD ad 0 21) s.heap H locs → lv_has ls 4 [(0, .ref (ad 0)), (1, .int p0), (2, .int p1), (3, .int x3)] → W p l e { frames := 7, cells := 0, slots := 0, locals := 160 } s m ([.ref (ad 0), .int p0, .int p1] : List Value).toArray below meth c H locs 0 0 (MQ below (va_Qi (fun (r : Int32) (u : KM) => Post r u) (fun u t => va_P (gD g) vwCl (wM g ad u) t.heap) (AD ad 0 21)) ([.ref (ad 0), .int p0, .int p1] : List Value).toArray s 0 0 (AD ad 0 21)) (F0 m 29 ls []))
  have hv := hv (by
    intro x3 s_F_fit s_refused hv H locs ls hP hD hS hl
    refine lv_iload_n hx hb dX3_implies_29 rfl (lv_at hl 3 rfl) ?_
    refine lv_bipush (v := 64) hx hb dX3_implies_30 (by decide) ?_
    refine lv_icmp_ge (tgt := 71) hx hb dX3_implies_32 (by decide) (fun c32 => ?_) (fun c32 => ?_)
    · have hv := hv.1 c32
      refine lv_iconst (v := 1) hx hb dX3_implies_71 (by decide) ?_
      exact W.iret (v := 1) hx hb hr (fun t ht hW => ⟨⟨1, ((mS σ), (mT σ), (mK σ), (s_F_fit, (fLeft (mF σ)), (fLeftBy (mF σ))), (mRow σ), (mRowMany σ), (mLots σ), s_refused), rfl, hv, P_at ht hP⟩, hS.F ht⟩) hS.2.2 dX3_implies_72
    · have hv := hv.2 c32
      refine lv_aload_n hx hb dX3_implies_35 rfl (lv_at hl 0 rfl) ?_
      refine va_get (D := gD g) (ci := 3) (v := .ref (ad 17)) (C := RX3) (T := TX3) (N := 33) hx hb hts hi3 hown hK hP 0 rfl rfl 27 (by decide) k0 (fun _ h9 => h9) rfl dX3_implies_36 ?_
      refine lv_iload_n hx hb dX3_implies_39 rfl (lv_at hl 3 rfl) ?_
      have h9 := hv.1
      have hv := hv.2
      refine va_iald (f := s_F_fit) (n := 64) hx hb hK hP 17 0 rfl rfl h9 dX3_implies_40 ?_
      refine lv_iconst (v := 1) hx hb dX3_implies_41 (by decide) ?_
      refine lv_icmp_ne (tgt := 65) hx hb dX3_implies_42 (by decide) (fun c42 => ?_) (fun c42 => ?_)
      · have hv := hv.1 c42
        refine lv_iinc (v := (x3 + 1)) (lv' := [(3, .int (x3 + 1)), (0, .ref (ad 0)), (1, .int p0), (2, .int p1)]) hx hb dX3_implies_65 hl (k := 3) rfl (by first | rfl | exact congrArg _ (by decide)) (by decide) rfl (fun ls hl => ?_)
        refine lv_goto (tgt := 29) hx hb dX3_implies_68 (by decide) ?_
        exact hv H locs ls hP hD hS (lv_sub hl [1, 2, 3, 0] rfl)
      · have hv := hv.2 c42
        refine lv_aload_n hx hb dX3_implies_45 rfl (lv_at hl 0 rfl) ?_
        refine lv_iload_n hx hb dX3_implies_46 rfl (lv_at hl 1 rfl) ?_
        refine lv_iload_n hx hb dX3_implies_47 rfl (lv_at hl 3 rfl) ?_
        have h8 := hv.1
        have hv := hv.2
        have hPc := hP
        refine ro_int (va_runV (As := [.int p0, .int x3]) (rest := []) ⟨hx, hb, hml, hown, hts⟩ (h_X3_isSo g ad ((mS σ), (mT σ), (mK σ), (s_F_fit, (fLeft (mF σ)), (fLeftBy (mF σ))), (mRow σ), (mRowMany σ), (mLots σ), s_refused) p0 x3 h8) (cwV 2 hts gX3_implies_X3_isSo rfl rfl rfl (by decide +kernel) ⟨Nat.le_of_ble_eq_true rfl, Nat.le_of_ble_eq_true rfl⟩) ⟨RO_blind, va_recv hK hP (ci := 3) (q0 := 0) rfl rfl, fun U hU hW => ⟨rfl, by rw [hU]; exact hPc, va_K.moved hW.alike hK, hE.call hW hU hS (fun _ h => h.elim)⟩⟩ rfl rfl hl.1 rfl (lv_room (Nat.le_of_ble_eq_true rfl)) dX3_implies_48 ⟨Nat.le_of_ble_eq_true rfl, Nat.le_of_ble_eq_true rfl⟩) hS hP (fun r H locs hw hP hS => ?_)
        subst r
        refine lv_if_eq (tgt := 65) hx hb dX3_implies_51 (by decide) (fun c51 => ?_) (fun c51 => ?_)
        · have hv := hv.1 c51
          refine lv_iinc (v := (x3 + 1)) (lv' := [(3, .int (x3 + 1)), (0, .ref (ad 0)), (1, .int p0), (2, .int p1)]) hx hb dX3_implies_65 hl (k := 3) rfl (by first | rfl | exact congrArg _ (by decide)) (by decide) rfl (fun ls hl => ?_)
          refine lv_goto (tgt := 29) hx hb dX3_implies_68 (by decide) ?_
          exact hv H locs ls hP hD hS (lv_sub hl [1, 2, 3, 0] rfl)
        · have hv := hv.2 c51
          refine lv_aload_n hx hb dX3_implies_54 rfl (lv_at hl 0 rfl) ?_
          refine lv_iload_n hx hb dX3_implies_55 rfl (lv_at hl 2 rfl) ?_
          refine lv_iload_n hx hb dX3_implies_56 rfl (lv_at hl 3 rfl) ?_
          have h8 := hv.1
          have hv := hv.2
          have hPc := hP
          refine ro_int (va_runV (As := [.int p1, .int x3]) (rest := []) ⟨hx, hb, hml, hown, hts⟩ (h_X3_isSo g ad ((mS σ), (mT σ), (mK σ), (s_F_fit, (fLeft (mF σ)), (fLeftBy (mF σ))), (mRow σ), (mRowMany σ), (mLots σ), s_refused) p1 x3 h8) (cwV 2 hts gX3_implies_X3_isSo rfl rfl rfl (by decide +kernel) ⟨Nat.le_of_ble_eq_true rfl, Nat.le_of_ble_eq_true rfl⟩) ⟨RO_blind, va_recv hK hP (ci := 3) (q0 := 0) rfl rfl, fun U hU hW => ⟨rfl, by rw [hU]; exact hPc, va_K.moved hW.alike hK, hE.call hW hU hS (fun _ h => h.elim)⟩⟩ rfl rfl hl.1 rfl (lv_room (Nat.le_of_ble_eq_true rfl)) dX3_implies_57 ⟨Nat.le_of_ble_eq_true rfl, Nat.le_of_ble_eq_true rfl⟩) hS hP (fun r H locs hw hP hS => ?_)
          subst r
          refine lv_if_ne (tgt := 65) hx hb dX3_implies_60 (by decide) (fun c60 => ?_) (fun c60 => ?_)
          · have hv := hv.1 c60
            refine lv_iinc (v := (x3 + 1)) (lv' := [(3, .int (x3 + 1)), (0, .ref (ad 0)), (1, .int p0), (2, .int p1)]) hx hb dX3_implies_65 hl (k := 3) rfl (by first | rfl | exact congrArg _ (by decide)) (by decide) rfl (fun ls hl => ?_)
            refine lv_goto (tgt := 29) hx hb dX3_implies_68 (by decide) ?_
            exact hv H locs ls hP hD hS (lv_sub hl [1, 2, 3, 0] rfl)
          · have hv := hv.2 c60
            refine lv_iconst (v := 0) hx hb dX3_implies_63 (by decide) ?_
            exact W.iret (v := 0) hx hb hr (fun t ht hW => ⟨⟨0, ((mS σ), (mT σ), (mK σ), (s_F_fit, (fLeft (mF σ)), (fLeftBy (mF σ))), (mRow σ), (mRowMany σ), (mLots σ), s_refused), rfl, hv, P_at ht hP⟩, hS.F ht⟩) hS.2.2 dX3_implies_64)
  obtain ⟨H, hH⟩ : ∃ z, z = s.heap := ⟨_, rfl⟩
  obtain ⟨locs, hL⟩ : ∃ z : List Loc, z = [] := ⟨_, rfl⟩
  rw [← hL] at hS ⊢
  have hS : va_S (AD ad 0 21) s.heap H locs := by rw [hH]; exact hS
  rw [← hH] at hP ⊢
  clear hH hL
  refine lv_aload_n hx hb dX3_implies_0 rfl (lv_at hl 0 rfl) ?_
  refine lv_iload_n hx hb dX3_implies_1 rfl (lv_at hl 1 rfl) ?_
  have hPc := hP
  refine ro_int (va_runV (As := [.int p0]) (rest := []) ⟨hx, hb, hml, hown, hts⟩ (h_X3_isQuestion g ad σ p0) (cwV 1 hts gX3_implies_X3_isQuestion rfl rfl rfl (by decide +kernel) ⟨Nat.le_of_ble_eq_true rfl, Nat.le_of_ble_eq_true rfl⟩) ⟨RO_blind, va_recv hK hP (ci := 3) (q0 := 0) rfl rfl, fun U hU hW => ⟨rfl, by rw [hU]; exact hPc, va_K.moved hW.alike hK, hE.call hW hU hS (fun _ h => h.elim)⟩⟩ rfl rfl hl.1 rfl (lv_room (Nat.le_of_ble_eq_true rfl)) dX3_implies_2 ⟨Nat.le_of_ble_eq_true rfl, Nat.le_of_ble_eq_true rfl⟩) hS hP (fun r H locs hw hP hS => ?_)
  subst r
  refine lv_if_eq (tgt := 16) hx hb dX3_implies_5 (by decide) (fun c5 => ?_) (fun c5 => ?_)
  · have hv := hv.1 c5
    refine lv_aload_n hx hb dX3_implies_16 rfl (lv_at hl 0 rfl) ?_
    refine lv_iconst (v := (-1)) hx hb dX3_implies_17 (by decide) ?_
    have h8 := hv.1
    have hv := hv.2
    have hPc := hP
    have hDc := hD
    refine rw_int (va_runV (As := [.int (-1)]) (rest := []) ⟨hx, hb, hml, hown, hts⟩ (h_X3_no g ad σ (-1) h8) (cwV 1 hts gX3_implies_X3_no rfl rfl rfl (by decide +kernel) ⟨Nat.le_of_ble_eq_true rfl, Nat.le_of_ble_eq_true rfl⟩) ⟨RW_blind, va_recv hK hP (ci := 3) (q0 := 0) rfl rfl, fun U hU hW => ⟨rfl, by rw [hU]; exact hPc, va_K.moved hW.alike hK, hE.call hW hU hS (fun _ h => h), hDc⟩⟩ rfl rfl hl.1 rfl (lv_room (Nat.le_of_ble_eq_true rfl)) dX3_implies_18 ⟨Nat.le_of_ble_eq_true rfl, Nat.le_of_ble_eq_true rfl⟩) hS (fun _ h => h) (fun r u H1 locs hw hP1 hk hS => ?_)
    obtain ⟨hw1, hw⟩ := hw; subst r; subst u
    have hP := hP1
    generalize H1 = H at hP hS ⊢
    have hP : va_P (gD g) vwCl (wM g ad ((mS σ), (mT σ), (mK σ), (mF σ), (mRow σ), (mRowMany σ), (mLots σ), (refuX (mRefused σ) ((-1) : Int32)))) H := hP
    have hD : va_D (AD ad 0 21) (wM g ad ((mS σ), (mT σ), (mK σ), (mF σ), (mRow σ), (mRowMany σ), (mLots σ), (refuX (mRefused σ) ((-1) : Int32)))) := hD.addr (by rfl)
    exact W.iret (v := (((-1) : Int32))) hx hb hr (fun t ht hW => ⟨⟨(((-1) : Int32)), ((mS σ), (mT σ), (mK σ), (mF σ), (mRow σ), (mRowMany σ), (mLots σ), (refuX (mRefused σ) ((-1) : Int32))), rfl, hv, P_at ht hP⟩, hS.F ht⟩) hS.2.2 dX3_implies_21
  · have hv := hv.2 c5
    refine lv_aload_n hx hb dX3_implies_8 rfl (lv_at hl 0 rfl) ?_
    refine lv_iload_n hx hb dX3_implies_9 rfl (lv_at hl 2 rfl) ?_
    have hPc := hP
    refine ro_int (va_runV (As := [.int p1]) (rest := []) ⟨hx, hb, hml, hown, hts⟩ (h_X3_isQuestion g ad σ p1) (cwV 1 hts gX3_implies_X3_isQuestion rfl rfl rfl (by decide +kernel) ⟨Nat.le_of_ble_eq_true rfl, Nat.le_of_ble_eq_true rfl⟩) ⟨RO_blind, va_recv hK hP (ci := 3) (q0 := 0) rfl rfl, fun U hU hW => ⟨rfl, by rw [hU]; exact hPc, va_K.moved hW.alike hK, hE.call hW hU hS (fun _ h => h.elim)⟩⟩ rfl rfl hl.1 rfl (lv_room (Nat.le_of_ble_eq_true rfl)) dX3_implies_10 ⟨Nat.le_of_ble_eq_true rfl, Nat.le_of_ble_eq_true rfl⟩) hS hP (fun r H locs hw hP hS => ?_)
    subst r
    refine lv_if_ne (tgt := 22) hx hb dX3_implies_13 (by decide) (fun c13 => ?_) (fun c13 => ?_)
    · have hv := hv.1 c13
      refine lv_aload_n hx hb dX3_implies_22 rfl (lv_at hl 0 rfl) ?_
      refine lv_iconst (v := 0) hx hb dX3_implies_23 (by decide) ?_
      have h8 := hv.1
      have hv := hv.2
      have hPc := hP
      have hDc := hD
      refine rw_void (va_runV (As := [.int 0]) (rest := []) ⟨hx, hb, hml, hown, hts⟩ (h_X3_findFit g ad σ 0 h8) (cwV 1 hts gX3_implies_X3_findFit rfl rfl rfl (by decide +kernel) ⟨Nat.le_of_ble_eq_true rfl, Nat.le_of_ble_eq_true rfl⟩) ⟨RW_blind, va_recv hK hP (ci := 3) (q0 := 0) rfl rfl, fun U hU hW => ⟨rfl, by rw [hU]; exact hPc, va_K.moved hW.alike hK, hE.call hW hU hS (fun _ h => h), hDc⟩⟩ rfl rfl hl.1 rfl (lv_room (Nat.le_of_ble_eq_true rfl)) dX3_implies_24 ⟨Nat.le_of_ble_eq_true rfl, Nat.le_of_ble_eq_true rfl⟩) hS (fun _ h => h) (fun u H1 locs hw hP1 hk hS => ?_)
      subst u
      have hP := hP1
      generalize H1 = H at hP hS ⊢
      have hP : va_P (gD g) vwCl (wM g ad ((mS σ), (mT σ), (mK σ), ((fitM (mS σ) (0 : Int32) (fFit (mF σ))), (fLeft (mF σ)), (fLeftBy (mF σ))), (mRow σ), (mRowMany σ), (mLots σ), (mRefused σ))) H := hP
      have hD : va_D (AD ad 0 21) (wM g ad ((mS σ), (mT σ), (mK σ), ((fitM (mS σ) (0 : Int32) (fFit (mF σ))), (fLeft (mF σ)), (fLeftBy (mF σ))), (mRow σ), (mRowMany σ), (mLots σ), (mRefused σ))) := hD.addr (by rfl)
      refine lv_iconst (v := 0) hx hb dX3_implies_27 (by decide) ?_
      refine lv_istore_n (lv' := [(3, .int 0), (0, .ref (ad 0)), (1, .int p0), (2, .int p1)]) hx hb dX3_implies_28 rfl hl (by decide) rfl (fun ls hl => ?_)
      exact hv H locs ls hP hD hS (lv_sub hl [1, 2, 3, 0] rfl)
    · have hv := hv.2 c13
      refine lv_aload_n hx hb dX3_implies_16 rfl (lv_at hl 0 rfl) ?_
      refine lv_iconst (v := (-1)) hx hb dX3_implies_17 (by decide) ?_
      have h8 := hv.1
      have hv := hv.2
      have hPc := hP
      have hDc := hD
      refine rw_int (va_runV (As := [.int (-1)]) (rest := []) ⟨hx, hb, hml, hown, hts⟩ (h_X3_no g ad σ (-1) h8) (cwV 1 hts gX3_implies_X3_no rfl rfl rfl (by decide +kernel) ⟨Nat.le_of_ble_eq_true rfl, Nat.le_of_ble_eq_true rfl⟩) ⟨RW_blind, va_recv hK hP (ci := 3) (q0 := 0) rfl rfl, fun U hU hW => ⟨rfl, by rw [hU]; exact hPc, va_K.moved hW.alike hK, hE.call hW hU hS (fun _ h => h), hDc⟩⟩ rfl rfl hl.1 rfl (lv_room (Nat.le_of_ble_eq_true rfl)) dX3_implies_18 ⟨Nat.le_of_ble_eq_true rfl, Nat.le_of_ble_eq_true rfl⟩) hS (fun _ h => h) (fun r u H1 locs hw hP1 hk hS => ?_)
      obtain ⟨hw1, hw⟩ := hw; subst r; subst u
      have hP := hP1
      generalize H1 = H at hP hS ⊢
      have hP : va_P (gD g) vwCl (wM g ad ((mS σ), (mT σ), (mK σ), (mF σ), (mRow σ), (mRowMany σ), (mLots σ), (refuX (mRefused σ) ((-1) : Int32)))) H := hP
      have hD : va_D (AD ad 0 21) (wM g ad ((mS σ), (mT σ), (mK σ), (mF σ), (mRow σ), (mRowMany σ), (mLots σ), (refuX (mRefused σ) ((-1) : Int32)))) := hD.addr (by rfl)
      exact W.iret (v := (((-1) : Int32))) hx hb hr (fun t ht hW => ⟨⟨(((-1) : Int32)), ((mS σ), (mT σ), (mK σ), (mF σ), (mRow σ), (mRowMany σ), (mLots σ), (refuX (mRefused σ) ((-1) : Int32))), rfl, hv, P_at ht hP⟩, hS.F ht⟩) hS.2.2 dX3_implies_21

set_option maxHeartbeats 4000000 in
set_option maxRecDepth 100000 in
theorem m_X3_two (l : Launch) (h_X3_asksLeft : C_X3_asksLeft l) (h_X3_findFit : C_X3_findFit l) (h_X3_isQuestion : C_X3_isQuestion l) (h_X3_isWitness : C_X3_isWitness l) (h_X3_manyIn : C_X3_manyIn l) (h_X3_no : C_X3_no l) (h_X3_startLeft : C_X3_startLeft l) (g : CX) (ad : Nat → Nat) (σ : KM) (p0 : Int32) (p1 : Int32) (p2 : Int32) (Post : Int32 → KM → Prop) (hv : vc_X3_two σ p0 p1 p2 Post) : Met l yX3_two wsX3_two { frames := 7, cells := 0, slots := 0, locals := 160 } (va_Pc [.ref (ad 0), .int p0, .int p1, .int p2] (RW g (AD ad 0 21) (wM g ad σ))) (va_Qi (fun (r : Int32) (u : KM) => Post r u) (fun u t => va_P (gD g) vwCl (wM g ad u) t.heap) (AD ad 0 21)) 0 0 (AD ad 0 21) := by
  unfold vc_X3_two at hv
  refine Met.ofW (cc := cX3_two) (maxL := 5) (ret := (some .int)) (by decide) rfl ?_
  intro p e s m args below meth c s₁ B hml hv0
  obtain ⟨rfl, hP, hK, hE, hD⟩ := hv0
  have hx := B.exec
  have hb := B.bytes
  have hr := B.returns
  have hts := atoms_spec (ws := wsX3_two) B.pre
  have hown : s.vm.findClass RX3 = some m.cls := findClass_of_methodNamed B.named
  have hlocks := B.notSynchronized
  have hi3 : ∀ w ∈ wsX30, w ∈ wsX3_two := by decide +kernel
  have k0 := hts (.fieldLink RX3 70 "JuryHearsAnswersModel" "questions" "I") (by decide +kernel)
  have k1 := hts (.fieldLink RX3 127 "JuryHearsAnswersModel" "asked" "I") (by decide +kernel)
  have k2 := hts (.fieldLink RX3 64 "JuryHearsAnswersModel" "leftBy" "[I") (by decide +kernel)
  have k3 := hts (.fieldLink RX3 61 "JuryHearsAnswersModel" "left" "[I") (by decide +kernel)
  have hS : va_S (AD ad 0 21) s.heap s.heap [] := va_S.rf
  have hP : va_P (gD g) vwCl (wM g ad σ) s.heap := hP
  have hl := lv_entry ([.ref (ad 0), .int p0, .int p1, .int p2]) (n := 5) (Nat.le_of_ble_eq_true rfl)
  rw [lg_entry_eq]
  generalize (lg_sl ([.ref (ad 0), .int p0, .int p1, .int p2]) ++ List.replicate (5 - (lg_sl ([.ref (ad 0), .int p0, .int p1, .int p2])).length) Slot.unset).toArray = ls at hl ⊢
  have hl : lv_has ls 5 [(0, .ref (ad 0)), (1, .int p0), (2, .int p1), (3, .int p2)] := hl
  have hv := hv (fun (x4 : Int32) (s_F_fit : FI) (s_F_left : FI) (s_F_leftBy : FI) (s_refused : FI) => ∀ (H : Heap) (locs : List Loc) (ls : Array Slot), va_P (gD g) vwCl (wM g ad ((mS σ), (mT σ), (mK σ), (s_F_fit, s_F_left, s_F_leftBy), (mRow σ), (mRowMany σ), (mLots σ), s_refused)) H → va_D (AD ad 0 21) (wM g ad ((mS σ), (mT σ), (mK σ), (s_F_fit, s_F_left, s_F_leftBy), (mRow σ), (mRowMany σ), (mLots σ), s_refused)) → va_S (AD ad 0 21) s.heap H locs → lv_has ls 5 [(0, .ref (ad 0)), (1, .int p0), (2, .int p1), (3, .int p2), (4, .int x4)] → W p l e { frames := 7, cells := 0, slots := 0, locals := 160 } s m ([.ref (ad 0), .int p0, .int p1, .int p2] : List Value).toArray below meth c H locs 0 0 (MQ below (va_Qi (fun (r : Int32) (u : KM) => Post r u) (fun u t => va_P (gD g) vwCl (wM g ad u) t.heap) (AD ad 0 21)) ([.ref (ad 0), .int p0, .int p1, .int p2] : List Value).toArray s 0 0 (AD ad 0 21)) (F0 m 38 ls []))
  have hv := hv (fun (x4 : Int32) (s_F_fit : FI) (s_F_left : FI) (s_F_leftBy : FI) (s_refused : FI) => ∀ (H : Heap) (locs : List Loc) (ls : Array Slot), va_P (gD g) vwCl (wM g ad ((mS σ), (mT σ), (mK σ), (s_F_fit, s_F_left, s_F_leftBy), (mRow σ), (mRowMany σ), (mLots σ), s_refused)) H → va_D (AD ad 0 21) (wM g ad ((mS σ), (mT σ), (mK σ), (s_F_fit, s_F_left, s_F_leftBy), (mRow σ), (mRowMany σ), (mLots σ), s_refused)) → va_S (AD ad 0 21) s.heap H locs → lv_has ls 5 [(0, .ref (ad 0)), (4, .int x4)] → W p l e { frames := 7, cells := 0, slots := 0, locals := 160 } s m ([.ref (ad 0), .int p0, .int p1, .int p2] : List Value).toArray below meth c H locs 0 0 (MQ below (va_Qi (fun (r : Int32) (u : KM) => Post r u) (fun u t => va_P (gD g) vwCl (wM g ad u) t.heap) (AD ad 0 21)) ([.ref (ad 0), .int p0, .int p1, .int p2] : List Value).toArray s 0 0 (AD ad 0 21)) (F0 m 115 ls []))
  have hv := hv (by
    intro x4 s_F_fit s_F_left s_F_leftBy s_refused hv H locs ls hP hD hS hl
    refine lv_iload hx hb dX3_two_38 (lv_at hl 4 rfl) ?_
    refine lv_iconst (v := 4) hx hb dX3_two_40 (by decide) ?_
    refine lv_icmp_ge (tgt := 112) hx hb dX3_two_41 (by decide) (fun c41 => ?_) (fun c41 => ?_)
    · have hv := hv.1 c41
      refine lv_iconst (v := 0) hx hb dX3_two_112 (by decide) ?_
      refine lv_istore (lv' := [(4, .int 0), (0, .ref (ad 0)), (1, .int p0), (2, .int p1), (3, .int p2)]) hx hb dX3_two_113 hl (by decide) rfl (fun ls hl => ?_)
      exact hv H locs ls hP hD hS (lv_sub hl [1, 0] rfl)
    · have hv := hv.2 c41
      refine lv_aload_n hx hb dX3_two_44 rfl (lv_at hl 0 rfl) ?_
      have hPc := hP
      have hDc := hD
      refine rw_void (va_runV (As := []) (rest := []) ⟨hx, hb, hml, hown, hts⟩ (h_X3_startLeft g ad ((mS σ), (mT σ), (mK σ), (s_F_fit, s_F_left, s_F_leftBy), (mRow σ), (mRowMany σ), (mLots σ), s_refused)) (cwV 0 hts gX3_two_X3_startLeft rfl rfl rfl (by decide +kernel) ⟨Nat.le_of_ble_eq_true rfl, Nat.le_of_ble_eq_true rfl⟩) ⟨RW_blind, va_recv hK hP (ci := 3) (q0 := 0) rfl rfl, fun U hU hW => ⟨rfl, by rw [hU]; exact hPc, va_K.moved hW.alike hK, hE.call hW hU hS (fun _ h => h), hDc⟩⟩ rfl rfl hl.1 rfl (lv_room (Nat.le_of_ble_eq_true rfl)) dX3_two_45 ⟨Nat.le_of_ble_eq_true rfl, Nat.le_of_ble_eq_true rfl⟩) hS (fun _ h => h) (fun u H1 locs hw hP1 hk hS => ?_)
      subst u
      have hP := hP1
      generalize H1 = H at hP hS ⊢
      have hP : va_P (gD g) vwCl (wM g ad ((mS σ), (mT σ), (mK σ), (s_F_fit, (tab 64 s_F_fit s_F_left), s_F_leftBy), (mRow σ), (mRowMany σ), (mLots σ), s_refused)) H := hP
      have hD : va_D (AD ad 0 21) (wM g ad ((mS σ), (mT σ), (mK σ), (s_F_fit, (tab 64 s_F_fit s_F_left), s_F_leftBy), (mRow σ), (mRowMany σ), (mLots σ), s_refused)) := hD.addr (by rfl)
      refine lv_aload_n hx hb dX3_two_48 rfl (lv_at hl 0 rfl) ?_
      refine lv_iload_n hx hb dX3_two_49 rfl (lv_at hl 1 rfl) ?_
      refine lv_iload_n hx hb dX3_two_50 rfl (lv_at hl 2 rfl) ?_
      refine lv_iload hx hb dX3_two_51 (lv_at hl 4 rfl) ?_
      refine lv_iconst (v := 2) hx hb dX3_two_53 (by decide) ?_
      refine lv_idiv hx hb dX3_two_54 (by decide) ?_
      refine lv_iadd hx hb dX3_two_55 ?_
      refine lv_aload_n hx hb dX3_two_56 rfl (lv_at hl 0 rfl) ?_
      refine va_get (D := gD g) (ci := 3) (v := .int (sNq (mS σ))) (C := RX3) (T := TX3) (N := 33) hx hb hts hi3 hown hK hP 0 rfl rfl 12 (by decide) k0 (fun _ h9 => h9) rfl dX3_two_57 ?_
      have h0 := hv.1
      have hv := hv.2
      refine lv_irem hx hb dX3_two_60 h0 ?_
      refine lv_aload_n hx hb dX3_two_61 rfl (lv_at hl 0 rfl) ?_
      refine va_get (D := gD g) (ci := 3) (v := .int (sAsked (mS σ))) (C := RX3) (T := TX3) (N := 33) hx hb hts hi3 hown hK hP 0 rfl rfl 15 (by decide) k1 (fun _ h9 => h9) rfl dX3_two_62 ?_
      refine lv_iconst (v := 1) hx hb dX3_two_65 (by decide) ?_
      refine lv_iadd hx hb dX3_two_66 ?_
      have h8 := hv.1
      have hv := hv.2
      have hPc := hP
      have hDc := hD
      refine rw_void (va_runV (As := [.int p0, .int ((p1 + (x4 / 2)) - (p1 + (x4 / 2)) / (sNq (mS σ)) * (sNq (mS σ))), .int ((sAsked (mS σ)) + 1)]) (rest := []) ⟨hx, hb, hml, hown, hts⟩ (h_X3_asksLeft g ad ((mS σ), (mT σ), (mK σ), (s_F_fit, (tab 64 s_F_fit s_F_left), s_F_leftBy), (mRow σ), (mRowMany σ), (mLots σ), s_refused) p0 ((p1 + (x4 / 2)) - (p1 + (x4 / 2)) / (sNq (mS σ)) * (sNq (mS σ))) ((sAsked (mS σ)) + 1) h8) (cwV 3 hts gX3_two_X3_asksLeft rfl rfl rfl (by decide +kernel) ⟨Nat.le_of_ble_eq_true rfl, Nat.le_of_ble_eq_true rfl⟩) ⟨RW_blind, va_recv hK hP (ci := 3) (q0 := 0) rfl rfl, fun U hU hW => ⟨rfl, by rw [hU]; exact hPc, va_K.moved hW.alike hK, hE.call hW hU hS (fun _ h => h), hDc⟩⟩ rfl rfl hl.1 rfl (lv_room (Nat.le_of_ble_eq_true rfl)) dX3_two_67 ⟨Nat.le_of_ble_eq_true rfl, Nat.le_of_ble_eq_true rfl⟩) hS (fun _ h => h) (fun u H1 locs hw hP1 hk hS => ?_)
      subst u
      have hP := hP1
      generalize H1 = H at hP hS ⊢
      have hP : va_P (gD g) vwCl (wM g ad ((mS σ), (mT σ), (mK σ), (s_F_fit, (leftAsk (mS σ) p0 ((p1 + (x4 / 2)) - (p1 + (x4 / 2)) / (sNq (mS σ)) * (sNq (mS σ))) ((sAsked (mS σ)) + 1) (tab 64 s_F_fit s_F_left)), s_F_leftBy), (mRow σ), (mRowMany σ), (mLots σ), s_refused)) H := hP
      have hD : va_D (AD ad 0 21) (wM g ad ((mS σ), (mT σ), (mK σ), (s_F_fit, (leftAsk (mS σ) p0 ((p1 + (x4 / 2)) - (p1 + (x4 / 2)) / (sNq (mS σ)) * (sNq (mS σ))) ((sAsked (mS σ)) + 1) (tab 64 s_F_fit s_F_left)), s_F_leftBy), (mRow σ), (mRowMany σ), (mLots σ), s_refused)) := hD.addr (by rfl)
      refine lv_aload_n hx hb dX3_two_70 rfl (lv_at hl 0 rfl) ?_
      refine lv_iload_n hx hb dX3_two_71 rfl (lv_at hl 1 rfl) ?_
      refine lv_iload_n hx hb dX3_two_72 rfl (lv_at hl 3 rfl) ?_
      refine lv_iload hx hb dX3_two_73 (lv_at hl 4 rfl) ?_
      refine lv_iconst (v := 2) hx hb dX3_two_75 (by decide) ?_
      refine lv_irem hx hb dX3_two_76 (by decide) ?_
      refine lv_iadd hx hb dX3_two_77 ?_
      refine lv_aload_n hx hb dX3_two_78 rfl (lv_at hl 0 rfl) ?_
      refine va_get (D := gD g) (ci := 3) (v := .int (sNq (mS σ))) (C := RX3) (T := TX3) (N := 33) hx hb hts hi3 hown hK hP 0 rfl rfl 12 (by decide) k0 (fun _ h9 => h9) rfl dX3_two_79 ?_
      have h0 := hv.1
      have hv := hv.2
      refine lv_irem hx hb dX3_two_82 h0 ?_
      refine lv_aload_n hx hb dX3_two_83 rfl (lv_at hl 0 rfl) ?_
      refine va_get (D := gD g) (ci := 3) (v := .int (sAsked (mS σ))) (C := RX3) (T := TX3) (N := 33) hx hb hts hi3 hown hK hP 0 rfl rfl 15 (by decide) k1 (fun _ h9 => h9) rfl dX3_two_84 ?_
      refine lv_iconst (v := 2) hx hb dX3_two_87 (by decide) ?_
      refine lv_iadd hx hb dX3_two_88 ?_
      have h8 := hv.1
      have hv := hv.2
      have hPc := hP
      have hDc := hD
      refine rw_void (va_runV (As := [.int p0, .int ((p2 + (x4 - x4 / 2 * 2)) - (p2 + (x4 - x4 / 2 * 2)) / (sNq (mS σ)) * (sNq (mS σ))), .int ((sAsked (mS σ)) + 2)]) (rest := []) ⟨hx, hb, hml, hown, hts⟩ (h_X3_asksLeft g ad ((mS σ), (mT σ), (mK σ), (s_F_fit, (leftAsk (mS σ) p0 ((p1 + (x4 / 2)) - (p1 + (x4 / 2)) / (sNq (mS σ)) * (sNq (mS σ))) ((sAsked (mS σ)) + 1) (tab 64 s_F_fit s_F_left)), s_F_leftBy), (mRow σ), (mRowMany σ), (mLots σ), s_refused) p0 ((p2 + (x4 - x4 / 2 * 2)) - (p2 + (x4 - x4 / 2 * 2)) / (sNq (mS σ)) * (sNq (mS σ))) ((sAsked (mS σ)) + 2) h8) (cwV 3 hts gX3_two_X3_asksLeft rfl rfl rfl (by decide +kernel) ⟨Nat.le_of_ble_eq_true rfl, Nat.le_of_ble_eq_true rfl⟩) ⟨RW_blind, va_recv hK hP (ci := 3) (q0 := 0) rfl rfl, fun U hU hW => ⟨rfl, by rw [hU]; exact hPc, va_K.moved hW.alike hK, hE.call hW hU hS (fun _ h => h), hDc⟩⟩ rfl rfl hl.1 rfl (lv_room (Nat.le_of_ble_eq_true rfl)) dX3_two_89 ⟨Nat.le_of_ble_eq_true rfl, Nat.le_of_ble_eq_true rfl⟩) hS (fun _ h => h) (fun u H1 locs hw hP1 hk hS => ?_)
      subst u
      have hP := hP1
      generalize H1 = H at hP hS ⊢
      have hP : va_P (gD g) vwCl (wM g ad ((mS σ), (mT σ), (mK σ), (s_F_fit, (leftAsk (mS σ) p0 ((p2 + (x4 - x4 / 2 * 2)) - (p2 + (x4 - x4 / 2 * 2)) / (sNq (mS σ)) * (sNq (mS σ))) ((sAsked (mS σ)) + 2) (leftAsk (mS σ) p0 ((p1 + (x4 / 2)) - (p1 + (x4 / 2)) / (sNq (mS σ)) * (sNq (mS σ))) ((sAsked (mS σ)) + 1) (tab 64 s_F_fit s_F_left))), s_F_leftBy), (mRow σ), (mRowMany σ), (mLots σ), s_refused)) H := hP
      have hD : va_D (AD ad 0 21) (wM g ad ((mS σ), (mT σ), (mK σ), (s_F_fit, (leftAsk (mS σ) p0 ((p2 + (x4 - x4 / 2 * 2)) - (p2 + (x4 - x4 / 2 * 2)) / (sNq (mS σ)) * (sNq (mS σ))) ((sAsked (mS σ)) + 2) (leftAsk (mS σ) p0 ((p1 + (x4 / 2)) - (p1 + (x4 / 2)) / (sNq (mS σ)) * (sNq (mS σ))) ((sAsked (mS σ)) + 1) (tab 64 s_F_fit s_F_left))), s_F_leftBy), (mRow σ), (mRowMany σ), (mLots σ), s_refused)) := hD.addr (by rfl)
      refine lv_aload_n hx hb dX3_two_92 rfl (lv_at hl 0 rfl) ?_
      refine va_get (D := gD g) (ci := 3) (v := .ref (ad 19)) (C := RX3) (T := TX3) (N := 33) hx hb hts hi3 hown hK hP 0 rfl rfl 29 (by decide) k2 (fun _ h9 => h9) rfl dX3_two_93 ?_
      refine lv_iload hx hb dX3_two_96 (lv_at hl 4 rfl) ?_
      refine lv_aload_n hx hb dX3_two_98 rfl (lv_at hl 0 rfl) ?_
      refine va_get (D := gD g) (ci := 3) (v := .ref (ad 18)) (C := RX3) (T := TX3) (N := 33) hx hb hts hi3 hown hK hP 0 rfl rfl 28 (by decide) k3 (fun _ h9 => h9) rfl dX3_two_99 ?_
      have hPc : va_P (gD g) vwCl (wA g ad 18 (leftAsk (mS σ) p0 ((p2 + (x4 - x4 / 2 * 2)) - (p2 + (x4 - x4 / 2 * 2)) / (sNq (mS σ)) * (sNq (mS σ))) ((sAsked (mS σ)) + 2) (leftAsk (mS σ) p0 ((p1 + (x4 / 2)) - (p1 + (x4 / 2)) / (sNq (mS σ)) * (sNq (mS σ))) ((sAsked (mS σ)) + 1) (tab 64 s_F_fit s_F_left)))) H := hP.sub [18] rfl
      refine ro_int (va_runS (As := [.ref (ad 18)]) (rest := [.int x4, .ref (ad 19)]) ⟨hx, hb, hml, hown, hts⟩ (h_X3_manyIn g ad 18 (leftAsk (mS σ) p0 ((p2 + (x4 - x4 / 2 * 2)) - (p2 + (x4 - x4 / 2 * 2)) / (sNq (mS σ)) * (sNq (mS σ))) ((sAsked (mS σ)) + 2) (leftAsk (mS σ) p0 ((p1 + (x4 / 2)) - (p1 + (x4 / 2)) / (sNq (mS σ)) * (sNq (mS σ))) ((sAsked (mS σ)) + 1) (tab 64 s_F_fit s_F_left)))) (va_cwS 1 hts gX3_two_X3_manyIn rfl rfl rfl (by decide +kernel) ⟨Nat.le_of_ble_eq_true rfl, Nat.le_of_ble_eq_true rfl⟩) ⟨RO_blind, fun U hU hW => ⟨rfl, by rw [hU]; exact hPc, va_K.moved hW.alike hK, hE.call hW hU hS (fun _ h => h.elim)⟩⟩ rfl rfl hl.1 rfl (lv_room (Nat.le_of_ble_eq_true rfl)) dX3_two_102 ⟨Nat.le_of_ble_eq_true rfl, Nat.le_of_ble_eq_true rfl⟩) hS hP (fun r H locs hw hP hS => ?_)
      subst r
      have h9 := hv.1
      have hv := hv.2
      refine va_iast (f := s_F_leftBy) (n := 4) hx hb hK hP hD hS 19 0 rfl rfl h9 dX3_two_105 (fun H locs hP hD hS => ?_)
      have hP : va_P (gD g) vwCl (wM g ad ((mS σ), (mT σ), (mK σ), (s_F_fit, (leftAsk (mS σ) p0 ((p2 + (x4 - x4 / 2 * 2)) - (p2 + (x4 - x4 / 2 * 2)) / (sNq (mS σ)) * (sNq (mS σ))) ((sAsked (mS σ)) + 2) (leftAsk (mS σ) p0 ((p1 + (x4 / 2)) - (p1 + (x4 / 2)) / (sNq (mS σ)) * (sNq (mS σ))) ((sAsked (mS σ)) + 1) (tab 64 s_F_fit s_F_left))), (upd s_F_leftBy (x4).toNatClampNeg (sumN (leftAsk (mS σ) p0 ((p2 + (x4 - x4 / 2 * 2)) - (p2 + (x4 - x4 / 2 * 2)) / (sNq (mS σ)) * (sNq (mS σ))) ((sAsked (mS σ)) + 2) (leftAsk (mS σ) p0 ((p1 + (x4 / 2)) - (p1 + (x4 / 2)) / (sNq (mS σ)) * (sNq (mS σ))) ((sAsked (mS σ)) + 1) (tab 64 s_F_fit s_F_left))) 64))), (mRow σ), (mRowMany σ), (mLots σ), s_refused)) H := hP
      have hD : va_D (AD ad 0 21) (wM g ad ((mS σ), (mT σ), (mK σ), (s_F_fit, (leftAsk (mS σ) p0 ((p2 + (x4 - x4 / 2 * 2)) - (p2 + (x4 - x4 / 2 * 2)) / (sNq (mS σ)) * (sNq (mS σ))) ((sAsked (mS σ)) + 2) (leftAsk (mS σ) p0 ((p1 + (x4 / 2)) - (p1 + (x4 / 2)) / (sNq (mS σ)) * (sNq (mS σ))) ((sAsked (mS σ)) + 1) (tab 64 s_F_fit s_F_left))), (upd s_F_leftBy (x4).toNatClampNeg (sumN (leftAsk (mS σ) p0 ((p2 + (x4 - x4 / 2 * 2)) - (p2 + (x4 - x4 / 2 * 2)) / (sNq (mS σ)) * (sNq (mS σ))) ((sAsked (mS σ)) + 2) (leftAsk (mS σ) p0 ((p1 + (x4 / 2)) - (p1 + (x4 / 2)) / (sNq (mS σ)) * (sNq (mS σ))) ((sAsked (mS σ)) + 1) (tab 64 s_F_fit s_F_left))) 64))), (mRow σ), (mRowMany σ), (mLots σ), s_refused)) := hD
      refine lv_iinc (v := (x4 + 1)) (lv' := [(4, .int (x4 + 1)), (0, .ref (ad 0)), (1, .int p0), (2, .int p1), (3, .int p2)]) hx hb dX3_two_106 hl (k := 4) rfl (by first | rfl | exact congrArg _ (by decide)) (by decide) rfl (fun ls hl => ?_)
      refine lv_goto (tgt := 38) hx hb dX3_two_109 (by decide) ?_
      exact hv H locs ls hP hD hS (lv_sub hl [1, 2, 3, 4, 0] rfl))
  have hv := hv (by
    intro x4 s_F_fit s_F_left s_F_leftBy s_refused hv H locs ls hP hD hS hl
    refine lv_iload hx hb dX3_two_115 (lv_at hl 1 rfl) ?_
    refine lv_iconst (v := 4) hx hb dX3_two_117 (by decide) ?_
    refine lv_icmp_ge (tgt := 178) hx hb dX3_two_118 (by decide) (fun c118 => ?_) (fun c118 => ?_)
    · have hv := hv.1 c118
      refine lv_bipush (v := (-9)) hx hb dX3_two_178 (by decide) ?_
      exact W.iret (v := (-9)) hx hb hr (fun t ht hW => ⟨⟨(-9), ((mS σ), (mT σ), (mK σ), (s_F_fit, s_F_left, s_F_leftBy), (mRow σ), (mRowMany σ), (mLots σ), s_refused), rfl, hv, P_at ht hP⟩, hS.F ht⟩) hS.2.2 dX3_two_180
    · have hv := hv.2 c118
      refine lv_aload_n hx hb dX3_two_121 rfl (lv_at hl 0 rfl) ?_
      refine va_get (D := gD g) (ci := 3) (v := .ref (ad 19)) (C := RX3) (T := TX3) (N := 33) hx hb hts hi3 hown hK hP 0 rfl rfl 29 (by decide) k2 (fun _ h9 => h9) rfl dX3_two_122 ?_
      refine lv_iload hx hb dX3_two_125 (lv_at hl 1 rfl) ?_
      refine lv_iconst (v := 2) hx hb dX3_two_127 (by decide) ?_
      refine lv_ixor hx hb dX3_two_128 ?_
      have h9 := hv.1
      have hv := hv.2
      refine va_iald (f := s_F_leftBy) (n := 4) hx hb hK hP 19 0 rfl rfl h9 dX3_two_129 ?_
      refine lv_aload_n hx hb dX3_two_130 rfl (lv_at hl 0 rfl) ?_
      refine va_get (D := gD g) (ci := 3) (v := .ref (ad 19)) (C := RX3) (T := TX3) (N := 33) hx hb hts hi3 hown hK hP 0 rfl rfl 29 (by decide) k2 (fun _ h9 => h9) rfl dX3_two_131 ?_
      refine lv_iload hx hb dX3_two_134 (lv_at hl 1 rfl) ?_
      have h9 := hv.1
      have hv := hv.2
      refine va_iald (f := s_F_leftBy) (n := 4) hx hb hK hP 19 0 rfl rfl h9 dX3_two_136 ?_
      refine lv_icmp_gt (tgt := 172) hx hb dX3_two_137 (by decide) (fun c137 => ?_) (fun c137 => ?_)
      · have hv := hv.1 c137
        refine lv_iinc (v := (x4 + 1)) (lv' := [(4, .int (x4 + 1)), (0, .ref (ad 0))]) hx hb dX3_two_172 hl (k := 1) rfl (by first | rfl | exact congrArg _ (by decide)) (by decide) rfl (fun ls hl => ?_)
        refine lv_goto (tgt := 115) hx hb dX3_two_175 (by decide) ?_
        exact hv H locs ls hP hD hS (lv_sub hl [1, 0] rfl)
      · have hv := hv.2 c137
        refine lv_aload_n hx hb dX3_two_140 rfl (lv_at hl 0 rfl) ?_
        refine va_get (D := gD g) (ci := 3) (v := .ref (ad 19)) (C := RX3) (T := TX3) (N := 33) hx hb hts hi3 hown hK hP 0 rfl rfl 29 (by decide) k2 (fun _ h9 => h9) rfl dX3_two_141 ?_
        refine lv_iload hx hb dX3_two_144 (lv_at hl 1 rfl) ?_
        refine lv_iconst (v := 1) hx hb dX3_two_146 (by decide) ?_
        refine lv_ixor hx hb dX3_two_147 ?_
        have h9 := hv.1
        have hv := hv.2
        refine va_iald (f := s_F_leftBy) (n := 4) hx hb hK hP 19 0 rfl rfl h9 dX3_two_148 ?_
        refine lv_aload_n hx hb dX3_two_149 rfl (lv_at hl 0 rfl) ?_
        refine va_get (D := gD g) (ci := 3) (v := .ref (ad 19)) (C := RX3) (T := TX3) (N := 33) hx hb hts hi3 hown hK hP 0 rfl rfl 29 (by decide) k2 (fun _ h9 => h9) rfl dX3_two_150 ?_
        refine lv_iload hx hb dX3_two_153 (lv_at hl 1 rfl) ?_
        have h9 := hv.1
        have hv := hv.2
        refine va_iald (f := s_F_leftBy) (n := 4) hx hb hK hP 19 0 rfl rfl h9 dX3_two_155 ?_
        refine lv_icmp_lt (tgt := 172) hx hb dX3_two_156 (by decide) (fun c156 => ?_) (fun c156 => ?_)
        · have hv := hv.1 c156
          refine lv_iinc (v := (x4 + 1)) (lv' := [(4, .int (x4 + 1)), (0, .ref (ad 0))]) hx hb dX3_two_172 hl (k := 1) rfl (by first | rfl | exact congrArg _ (by decide)) (by decide) rfl (fun ls hl => ?_)
          refine lv_goto (tgt := 115) hx hb dX3_two_175 (by decide) ?_
          exact hv H locs ls hP hD hS (lv_sub hl [1, 0] rfl)
        · have hv := hv.2 c156
          refine lv_bipush (v := 10) hx hb dX3_two_159 (by decide) ?_
          refine lv_iload hx hb dX3_two_161 (lv_at hl 1 rfl) ?_
          refine lv_iconst (v := 2) hx hb dX3_two_163 (by decide) ?_
          refine lv_idiv hx hb dX3_two_164 (by decide) ?_
          refine lv_imul hx hb dX3_two_165 ?_
          refine lv_iload hx hb dX3_two_166 (lv_at hl 1 rfl) ?_
          refine lv_iconst (v := 2) hx hb dX3_two_168 (by decide) ?_
          refine lv_irem hx hb dX3_two_169 (by decide) ?_
          refine lv_iadd hx hb dX3_two_170 ?_
          exact W.iret (v := ((10 * (x4 / 2)) + (x4 - x4 / 2 * 2))) hx hb hr (fun t ht hW => ⟨⟨((10 * (x4 / 2)) + (x4 - x4 / 2 * 2)), ((mS σ), (mT σ), (mK σ), (s_F_fit, s_F_left, s_F_leftBy), (mRow σ), (mRowMany σ), (mLots σ), s_refused), rfl, hv, P_at ht hP⟩, hS.F ht⟩) hS.2.2 dX3_two_171)
  obtain ⟨H, hH⟩ : ∃ z, z = s.heap := ⟨_, rfl⟩
  obtain ⟨locs, hL⟩ : ∃ z : List Loc, z = [] := ⟨_, rfl⟩
  rw [← hL] at hS ⊢
  have hS : va_S (AD ad 0 21) s.heap H locs := by rw [hH]; exact hS
  rw [← hH] at hP ⊢
  clear hH hL
  refine lv_aload_n hx hb dX3_two_0 rfl (lv_at hl 0 rfl) ?_
  refine lv_iload_n hx hb dX3_two_1 rfl (lv_at hl 1 rfl) ?_
  have hPc := hP
  refine ro_int (va_runV (As := [.int p0]) (rest := []) ⟨hx, hb, hml, hown, hts⟩ (h_X3_isWitness g ad σ p0) (cwV 1 hts gX3_two_X3_isWitness rfl rfl rfl (by decide +kernel) ⟨Nat.le_of_ble_eq_true rfl, Nat.le_of_ble_eq_true rfl⟩) ⟨RO_blind, va_recv hK hP (ci := 3) (q0 := 0) rfl rfl, fun U hU hW => ⟨rfl, by rw [hU]; exact hPc, va_K.moved hW.alike hK, hE.call hW hU hS (fun _ h => h.elim)⟩⟩ rfl rfl hl.1 rfl (lv_room (Nat.le_of_ble_eq_true rfl)) dX3_two_2 ⟨Nat.le_of_ble_eq_true rfl, Nat.le_of_ble_eq_true rfl⟩) hS hP (fun r H locs hw hP hS => ?_)
  subst r
  refine lv_if_eq (tgt := 24) hx hb dX3_two_5 (by decide) (fun c5 => ?_) (fun c5 => ?_)
  · have hv := hv.1 c5
    refine lv_aload_n hx hb dX3_two_24 rfl (lv_at hl 0 rfl) ?_
    refine lv_iconst (v := (-1)) hx hb dX3_two_25 (by decide) ?_
    have h8 := hv.1
    have hv := hv.2
    have hPc := hP
    have hDc := hD
    refine rw_int (va_runV (As := [.int (-1)]) (rest := []) ⟨hx, hb, hml, hown, hts⟩ (h_X3_no g ad σ (-1) h8) (cwV 1 hts gX3_two_X3_no rfl rfl rfl (by decide +kernel) ⟨Nat.le_of_ble_eq_true rfl, Nat.le_of_ble_eq_true rfl⟩) ⟨RW_blind, va_recv hK hP (ci := 3) (q0 := 0) rfl rfl, fun U hU hW => ⟨rfl, by rw [hU]; exact hPc, va_K.moved hW.alike hK, hE.call hW hU hS (fun _ h => h), hDc⟩⟩ rfl rfl hl.1 rfl (lv_room (Nat.le_of_ble_eq_true rfl)) dX3_two_26 ⟨Nat.le_of_ble_eq_true rfl, Nat.le_of_ble_eq_true rfl⟩) hS (fun _ h => h) (fun r u H1 locs hw hP1 hk hS => ?_)
    obtain ⟨hw1, hw⟩ := hw; subst r; subst u
    have hP := hP1
    generalize H1 = H at hP hS ⊢
    have hP : va_P (gD g) vwCl (wM g ad ((mS σ), (mT σ), (mK σ), (mF σ), (mRow σ), (mRowMany σ), (mLots σ), (refuX (mRefused σ) ((-1) : Int32)))) H := hP
    have hD : va_D (AD ad 0 21) (wM g ad ((mS σ), (mT σ), (mK σ), (mF σ), (mRow σ), (mRowMany σ), (mLots σ), (refuX (mRefused σ) ((-1) : Int32)))) := hD.addr (by rfl)
    exact W.iret (v := (((-1) : Int32))) hx hb hr (fun t ht hW => ⟨⟨(((-1) : Int32)), ((mS σ), (mT σ), (mK σ), (mF σ), (mRow σ), (mRowMany σ), (mLots σ), (refuX (mRefused σ) ((-1) : Int32))), rfl, hv, P_at ht hP⟩, hS.F ht⟩) hS.2.2 dX3_two_29
  · have hv := hv.2 c5
    refine lv_aload_n hx hb dX3_two_8 rfl (lv_at hl 0 rfl) ?_
    refine lv_iload_n hx hb dX3_two_9 rfl (lv_at hl 2 rfl) ?_
    have hPc := hP
    refine ro_int (va_runV (As := [.int p1]) (rest := []) ⟨hx, hb, hml, hown, hts⟩ (h_X3_isQuestion g ad σ p1) (cwV 1 hts gX3_two_X3_isQuestion rfl rfl rfl (by decide +kernel) ⟨Nat.le_of_ble_eq_true rfl, Nat.le_of_ble_eq_true rfl⟩) ⟨RO_blind, va_recv hK hP (ci := 3) (q0 := 0) rfl rfl, fun U hU hW => ⟨rfl, by rw [hU]; exact hPc, va_K.moved hW.alike hK, hE.call hW hU hS (fun _ h => h.elim)⟩⟩ rfl rfl hl.1 rfl (lv_room (Nat.le_of_ble_eq_true rfl)) dX3_two_10 ⟨Nat.le_of_ble_eq_true rfl, Nat.le_of_ble_eq_true rfl⟩) hS hP (fun r H locs hw hP hS => ?_)
    subst r
    refine lv_if_eq (tgt := 24) hx hb dX3_two_13 (by decide) (fun c13 => ?_) (fun c13 => ?_)
    · have hv := hv.1 c13
      refine lv_aload_n hx hb dX3_two_24 rfl (lv_at hl 0 rfl) ?_
      refine lv_iconst (v := (-1)) hx hb dX3_two_25 (by decide) ?_
      have h8 := hv.1
      have hv := hv.2
      have hPc := hP
      have hDc := hD
      refine rw_int (va_runV (As := [.int (-1)]) (rest := []) ⟨hx, hb, hml, hown, hts⟩ (h_X3_no g ad σ (-1) h8) (cwV 1 hts gX3_two_X3_no rfl rfl rfl (by decide +kernel) ⟨Nat.le_of_ble_eq_true rfl, Nat.le_of_ble_eq_true rfl⟩) ⟨RW_blind, va_recv hK hP (ci := 3) (q0 := 0) rfl rfl, fun U hU hW => ⟨rfl, by rw [hU]; exact hPc, va_K.moved hW.alike hK, hE.call hW hU hS (fun _ h => h), hDc⟩⟩ rfl rfl hl.1 rfl (lv_room (Nat.le_of_ble_eq_true rfl)) dX3_two_26 ⟨Nat.le_of_ble_eq_true rfl, Nat.le_of_ble_eq_true rfl⟩) hS (fun _ h => h) (fun r u H1 locs hw hP1 hk hS => ?_)
      obtain ⟨hw1, hw⟩ := hw; subst r; subst u
      have hP := hP1
      generalize H1 = H at hP hS ⊢
      have hP : va_P (gD g) vwCl (wM g ad ((mS σ), (mT σ), (mK σ), (mF σ), (mRow σ), (mRowMany σ), (mLots σ), (refuX (mRefused σ) ((-1) : Int32)))) H := hP
      have hD : va_D (AD ad 0 21) (wM g ad ((mS σ), (mT σ), (mK σ), (mF σ), (mRow σ), (mRowMany σ), (mLots σ), (refuX (mRefused σ) ((-1) : Int32)))) := hD.addr (by rfl)
      exact W.iret (v := (((-1) : Int32))) hx hb hr (fun t ht hW => ⟨⟨(((-1) : Int32)), ((mS σ), (mT σ), (mK σ), (mF σ), (mRow σ), (mRowMany σ), (mLots σ), (refuX (mRefused σ) ((-1) : Int32))), rfl, hv, P_at ht hP⟩, hS.F ht⟩) hS.2.2 dX3_two_29
    · have hv := hv.2 c13
      refine lv_aload_n hx hb dX3_two_16 rfl (lv_at hl 0 rfl) ?_
      refine lv_iload_n hx hb dX3_two_17 rfl (lv_at hl 3 rfl) ?_
      have hPc := hP
      refine ro_int (va_runV (As := [.int p2]) (rest := []) ⟨hx, hb, hml, hown, hts⟩ (h_X3_isQuestion g ad σ p2) (cwV 1 hts gX3_two_X3_isQuestion rfl rfl rfl (by decide +kernel) ⟨Nat.le_of_ble_eq_true rfl, Nat.le_of_ble_eq_true rfl⟩) ⟨RO_blind, va_recv hK hP (ci := 3) (q0 := 0) rfl rfl, fun U hU hW => ⟨rfl, by rw [hU]; exact hPc, va_K.moved hW.alike hK, hE.call hW hU hS (fun _ h => h.elim)⟩⟩ rfl rfl hl.1 rfl (lv_room (Nat.le_of_ble_eq_true rfl)) dX3_two_18 ⟨Nat.le_of_ble_eq_true rfl, Nat.le_of_ble_eq_true rfl⟩) hS hP (fun r H locs hw hP hS => ?_)
      subst r
      refine lv_if_ne (tgt := 30) hx hb dX3_two_21 (by decide) (fun c21 => ?_) (fun c21 => ?_)
      · have hv := hv.1 c21
        refine lv_aload_n hx hb dX3_two_30 rfl (lv_at hl 0 rfl) ?_
        refine lv_iconst (v := 0) hx hb dX3_two_31 (by decide) ?_
        have h8 := hv.1
        have hv := hv.2
        have hPc := hP
        have hDc := hD
        refine rw_void (va_runV (As := [.int 0]) (rest := []) ⟨hx, hb, hml, hown, hts⟩ (h_X3_findFit g ad σ 0 h8) (cwV 1 hts gX3_two_X3_findFit rfl rfl rfl (by decide +kernel) ⟨Nat.le_of_ble_eq_true rfl, Nat.le_of_ble_eq_true rfl⟩) ⟨RW_blind, va_recv hK hP (ci := 3) (q0 := 0) rfl rfl, fun U hU hW => ⟨rfl, by rw [hU]; exact hPc, va_K.moved hW.alike hK, hE.call hW hU hS (fun _ h => h), hDc⟩⟩ rfl rfl hl.1 rfl (lv_room (Nat.le_of_ble_eq_true rfl)) dX3_two_32 ⟨Nat.le_of_ble_eq_true rfl, Nat.le_of_ble_eq_true rfl⟩) hS (fun _ h => h) (fun u H1 locs hw hP1 hk hS => ?_)
        subst u
        have hP := hP1
        generalize H1 = H at hP hS ⊢
        have hP : va_P (gD g) vwCl (wM g ad ((mS σ), (mT σ), (mK σ), ((fitM (mS σ) (0 : Int32) (fFit (mF σ))), (fLeft (mF σ)), (fLeftBy (mF σ))), (mRow σ), (mRowMany σ), (mLots σ), (mRefused σ))) H := hP
        have hD : va_D (AD ad 0 21) (wM g ad ((mS σ), (mT σ), (mK σ), ((fitM (mS σ) (0 : Int32) (fFit (mF σ))), (fLeft (mF σ)), (fLeftBy (mF σ))), (mRow σ), (mRowMany σ), (mLots σ), (mRefused σ))) := hD.addr (by rfl)
        refine lv_iconst (v := 0) hx hb dX3_two_35 (by decide) ?_
        refine lv_istore (lv' := [(4, .int 0), (0, .ref (ad 0)), (1, .int p0), (2, .int p1), (3, .int p2)]) hx hb dX3_two_36 hl (by decide) rfl (fun ls hl => ?_)
        exact hv H locs ls hP hD hS (lv_sub hl [1, 2, 3, 4, 0] rfl)
      · have hv := hv.2 c21
        refine lv_aload_n hx hb dX3_two_24 rfl (lv_at hl 0 rfl) ?_
        refine lv_iconst (v := (-1)) hx hb dX3_two_25 (by decide) ?_
        have h8 := hv.1
        have hv := hv.2
        have hPc := hP
        have hDc := hD
        refine rw_int (va_runV (As := [.int (-1)]) (rest := []) ⟨hx, hb, hml, hown, hts⟩ (h_X3_no g ad σ (-1) h8) (cwV 1 hts gX3_two_X3_no rfl rfl rfl (by decide +kernel) ⟨Nat.le_of_ble_eq_true rfl, Nat.le_of_ble_eq_true rfl⟩) ⟨RW_blind, va_recv hK hP (ci := 3) (q0 := 0) rfl rfl, fun U hU hW => ⟨rfl, by rw [hU]; exact hPc, va_K.moved hW.alike hK, hE.call hW hU hS (fun _ h => h), hDc⟩⟩ rfl rfl hl.1 rfl (lv_room (Nat.le_of_ble_eq_true rfl)) dX3_two_26 ⟨Nat.le_of_ble_eq_true rfl, Nat.le_of_ble_eq_true rfl⟩) hS (fun _ h => h) (fun r u H1 locs hw hP1 hk hS => ?_)
        obtain ⟨hw1, hw⟩ := hw; subst r; subst u
        have hP := hP1
        generalize H1 = H at hP hS ⊢
        have hP : va_P (gD g) vwCl (wM g ad ((mS σ), (mT σ), (mK σ), (mF σ), (mRow σ), (mRowMany σ), (mLots σ), (refuX (mRefused σ) ((-1) : Int32)))) H := hP
        have hD : va_D (AD ad 0 21) (wM g ad ((mS σ), (mT σ), (mK σ), (mF σ), (mRow σ), (mRowMany σ), (mLots σ), (refuX (mRefused σ) ((-1) : Int32)))) := hD.addr (by rfl)
        exact W.iret (v := (((-1) : Int32))) hx hb hr (fun t ht hW => ⟨⟨(((-1) : Int32)), ((mS σ), (mT σ), (mK σ), (mF σ), (mRow σ), (mRowMany σ), (mLots σ), (refuX (mRefused σ) ((-1) : Int32))), rfl, hv, P_at ht hP⟩, hS.F ht⟩) hS.2.2 dX3_two_29

set_option maxHeartbeats 4000000 in
set_option maxRecDepth 100000 in
theorem m_X3_drawn (l : Launch) (h_X3_bound : C_X3_bound l) (h_X3_findFit : C_X3_findFit l) (h_X3_isFact : C_X3_isFact l) (h_X3_isIn : C_X3_isIn l) (h_X3_isSettled : C_X3_isSettled l) (h_X3_isWitness : C_X3_isWitness l) (h_X3_lowest : C_X3_lowest l) (h_X3_partOf : C_X3_partOf l) (h_X3_power : C_X3_power l) (g : CX) (ad : Nat → Nat) (σ : KM) (p0 : Int32) (p1 : Int32) (p2 : Int32) (p3 : Int32) (Post : Int64 → KM → Prop) (hv : vc_X3_drawn σ p0 p1 p2 p3 Post) : Met l yX3_drawn wsX3_drawn { frames := 7, cells := 0, slots := 0, locals := 160 } (va_Pc [.ref (ad 0), .int p0, .int p1, .int p2, .int p3] (RW g (AD ad 0 21) (wM g ad σ))) (va_Ql (fun (r : Int64) (u : KM) => Post r u) (fun u t => va_P (gD g) vwCl (wM g ad u) t.heap) (AD ad 0 21)) 0 0 (AD ad 0 21) := by
  unfold vc_X3_drawn at hv
  refine Met.ofW (cc := cX3_drawn) (maxL := 9) (ret := (some .long)) (by decide) rfl ?_
  intro p e s m args below meth c s₁ B hml hv0
  obtain ⟨rfl, hP, hK, hE, hD⟩ := hv0
  have hx := B.exec
  have hb := B.bytes
  have hr := B.returns
  have hts := atoms_spec (ws := wsX3_drawn) B.pre
  have hown : s.vm.findClass RX3 = some m.cls := findClass_of_methodNamed B.named
  have hlocks := B.notSynchronized
  have hi3 : ∀ w ∈ wsX30, w ∈ wsX3_drawn := by decide +kernel
  have k0 := hts (.fieldLink RX3 70 "JuryHearsAnswersModel" "questions" "I") (by decide +kernel)
  have hS : va_S (AD ad 0 21) s.heap s.heap [] := va_S.rf
  have hP : va_P (gD g) vwCl (wM g ad σ) s.heap := hP
  have hl := lv_entry ([.ref (ad 0), .int p0, .int p1, .int p2, .int p3]) (n := 9) (Nat.le_of_ble_eq_true rfl)
  rw [lg_entry_eq]
  generalize (lg_sl ([.ref (ad 0), .int p0, .int p1, .int p2, .int p3]) ++ List.replicate (9 - (lg_sl ([.ref (ad 0), .int p0, .int p1, .int p2, .int p3])).length) Slot.unset).toArray = ls at hl ⊢
  have hl : lv_has ls 9 [(0, .ref (ad 0)), (1, .int p0), (2, .int p1), (3, .int p2), (4, .int p3)] := hl
  have hv := hv (fun (x6 : Int64) (x8 : Int32) (s_F_fit : FI) (s_F_left : FI) (s_refused : FI) => ∀ (H : Heap) (locs : List Loc) (ls : Array Slot), va_P (gD g) vwCl (wM g ad ((mS σ), (mT σ), (mK σ), (s_F_fit, s_F_left, (fLeftBy (mF σ))), (mRow σ), (mRowMany σ), (mLots σ), s_refused)) H → va_D (AD ad 0 21) (wM g ad ((mS σ), (mT σ), (mK σ), (s_F_fit, s_F_left, (fLeftBy (mF σ))), (mRow σ), (mRowMany σ), (mLots σ), s_refused)) → va_S (AD ad 0 21) s.heap H locs → lv_has ls 9 [(0, .ref (ad 0)), (1, .int p0), (2, .int p1), (3, .int p2), (4, .int p3), (6, .long x6), (8, .int x8)] → W p l e { frames := 7, cells := 0, slots := 0, locals := 160 } s m ([.ref (ad 0), .int p0, .int p1, .int p2, .int p3] : List Value).toArray below meth c H locs 0 0 (MQ below (va_Ql (fun (r : Int64) (u : KM) => Post r u) (fun u t => va_P (gD g) vwCl (wM g ad u) t.heap) (AD ad 0 21)) ([.ref (ad 0), .int p0, .int p1, .int p2, .int p3] : List Value).toArray s 0 0 (AD ad 0 21)) (F0 m 85 ls []))
  have hv := hv (by
    intro x6 x8 s_F_fit s_F_left s_refused hv H locs ls hP hD hS hl
    refine lv_iload hx hb dX3_drawn_85 (lv_at hl 6 rfl) ?_
    refine lv_aload_n hx hb dX3_drawn_87 rfl (lv_at hl 0 rfl) ?_
    refine va_get (D := gD g) (ci := 3) (v := .int (sNq (mS σ))) (C := RX3) (T := TX3) (N := 33) hx hb hts hi3 hown hK hP 0 rfl rfl 12 (by decide) k0 (fun _ h9 => h9) rfl dX3_drawn_88 ?_
    refine lv_iload_n hx hb dX3_drawn_91 rfl (lv_at hl 2 rfl) ?_
    have h8 := hv.1
    have hv := hv.2
    have hPc : va_P (gD g) vwCl [] H := fun k q h => by simp at h
    refine ro_int (va_runS (As := [.int (sNq (mS σ)), .int p1]) (rest := [.int x8]) ⟨hx, hb, hml, hown, hts⟩ (h_X3_power g (sNq (mS σ)) p1 h8) (va_cwS 2 hts gX3_drawn_X3_power rfl rfl rfl (by decide +kernel) ⟨Nat.le_of_ble_eq_true rfl, Nat.le_of_ble_eq_true rfl⟩) ⟨RO_blind, fun U hU hW => ⟨rfl, by rw [hU]; exact hPc, va_K.moved hW.alike hK, hE.call hW hU hS (fun _ h => h.elim)⟩⟩ rfl rfl hl.1 rfl (lv_room (Nat.le_of_ble_eq_true rfl)) dX3_drawn_92 ⟨Nat.le_of_ble_eq_true rfl, Nat.le_of_ble_eq_true rfl⟩) hS hP (fun r H locs hw hP hS => ?_)
    subst r
    refine lv_icmp_ge (tgt := 126) hx hb dX3_drawn_95 (by decide) (fun c95 => ?_) (fun c95 => ?_)
    · have hv := hv.1 c95
      refine lv_lload hx hb dX3_drawn_126 (lv_at hl 5 rfl) ?_
      refine lv_aload_n hx hb dX3_drawn_128 rfl (lv_at hl 0 rfl) ?_
      refine va_get (D := gD g) (ci := 3) (v := .int (sNq (mS σ))) (C := RX3) (T := TX3) (N := 33) hx hb hts hi3 hown hK hP 0 rfl rfl 12 (by decide) k0 (fun _ h9 => h9) rfl dX3_drawn_129 ?_
      refine lv_iload_n hx hb dX3_drawn_132 rfl (lv_at hl 2 rfl) ?_
      have h8 := hv.1
      have hv := hv.2
      have hPc : va_P (gD g) vwCl [] H := fun k q h => by simp at h
      refine ro_int (va_runS (As := [.int (sNq (mS σ)), .int p1]) (rest := [.long x6]) ⟨hx, hb, hml, hown, hts⟩ (h_X3_power g (sNq (mS σ)) p1 h8) (va_cwS 2 hts gX3_drawn_X3_power rfl rfl rfl (by decide +kernel) ⟨Nat.le_of_ble_eq_true rfl, Nat.le_of_ble_eq_true rfl⟩) ⟨RO_blind, fun U hU hW => ⟨rfl, by rw [hU]; exact hPc, va_K.moved hW.alike hK, hE.call hW hU hS (fun _ h => h.elim)⟩⟩ rfl rfl hl.1 rfl (lv_room (Nat.le_of_ble_eq_true rfl)) dX3_drawn_133 ⟨Nat.le_of_ble_eq_true rfl, Nat.le_of_ble_eq_true rfl⟩) hS hP (fun r H locs hw hP hS => ?_)
      subst r
      refine lv_i2l hx hb dX3_drawn_136 rfl ?_
      refine lv_iload hx hb dX3_drawn_137 (lv_at hl 4 rfl) ?_
      have h8 := hv.1
      have hv := hv.2
      have hPc : va_P (gD g) vwCl [] H := fun k q h => by simp at h
      refine ro_long (va_runS (As := [.long x6, .long (((powI (sNq (mS σ)) p1.toNatClampNeg)).toInt64), .int p3]) (rest := []) ⟨hx, hb, hml, hown, hts⟩ (h_X3_partOf g x6 (((powI (sNq (mS σ)) p1.toNatClampNeg)).toInt64) p3 h8) (va_cwS 3 hts gX3_drawn_X3_partOf rfl rfl rfl (by decide +kernel) ⟨Nat.le_of_ble_eq_true rfl, Nat.le_of_ble_eq_true rfl⟩) ⟨RO_blind, fun U hU hW => ⟨rfl, by rw [hU]; exact hPc, va_K.moved hW.alike hK, hE.call hW hU hS (fun _ h => h.elim)⟩⟩ rfl rfl hl.1 rfl (lv_room (Nat.le_of_ble_eq_true rfl)) dX3_drawn_139 ⟨Nat.le_of_ble_eq_true rfl, Nat.le_of_ble_eq_true rfl⟩) hS hP (fun r H locs hw hP hS => ?_)
      subst r
      exact W.lret (v := (partOfV x6 (((powI (sNq (mS σ)) p1.toNatClampNeg)).toInt64) p3)) hx hb hr (fun t ht hW => ⟨⟨(partOfV x6 (((powI (sNq (mS σ)) p1.toNatClampNeg)).toInt64) p3), ((mS σ), (mT σ), (mK σ), (s_F_fit, s_F_left, (fLeftBy (mF σ))), (mRow σ), (mRowMany σ), (mLots σ), s_refused), rfl, hv, P_at ht hP⟩, hS.F ht⟩) hS.2.2 dX3_drawn_142
    · have hv := hv.2 c95
      refine lv_lload hx hb dX3_drawn_98 (lv_at hl 5 rfl) ?_
      refine lv_aload_n hx hb dX3_drawn_100 rfl (lv_at hl 0 rfl) ?_
      refine lv_iload_n hx hb dX3_drawn_101 rfl (lv_at hl 1 rfl) ?_
      refine lv_iload_n hx hb dX3_drawn_102 rfl (lv_at hl 3 rfl) ?_
      refine lv_iload hx hb dX3_drawn_103 (lv_at hl 6 rfl) ?_
      refine lv_iload_n hx hb dX3_drawn_105 rfl (lv_at hl 2 rfl) ?_
      have h8 := hv.1
      have hv := hv.2
      have hPc := hP
      have hDc := hD
      refine rw_int (va_runV (As := [.int p0, .int p2, .int x8, .int p1]) (rest := [.long x6]) ⟨hx, hb, hml, hown, hts⟩ (h_X3_isSettled g ad ((mS σ), (mT σ), (mK σ), (s_F_fit, s_F_left, (fLeftBy (mF σ))), (mRow σ), (mRowMany σ), (mLots σ), s_refused) p0 p2 x8 p1 h8) (cwV 4 hts gX3_drawn_X3_isSettled rfl rfl rfl (by decide +kernel) ⟨Nat.le_of_ble_eq_true rfl, Nat.le_of_ble_eq_true rfl⟩) ⟨RW_blind, va_recv hK hP (ci := 3) (q0 := 0) rfl rfl, fun U hU hW => ⟨rfl, by rw [hU]; exact hPc, va_K.moved hW.alike hK, hE.call hW hU hS (fun _ h => h), hDc⟩⟩ rfl rfl hl.1 rfl (lv_room (Nat.le_of_ble_eq_true rfl)) dX3_drawn_106 ⟨Nat.le_of_ble_eq_true rfl, Nat.le_of_ble_eq_true rfl⟩) hS (fun _ h => h) (fun r u H1 locs hw hP1 hk hS => ?_)
      obtain ⟨e106_left, hw1, hw⟩ := hw; subst r; subst u
      have hv := hv e106_left
      have hP := hP1
      generalize H1 = H at hP hS ⊢
      have hP : va_P (gD g) vwCl (wM g ad ((mS σ), (mT σ), (mK σ), (s_F_fit, (e106_left), (fLeftBy (mF σ))), (mRow σ), (mRowMany σ), (mLots σ), s_refused)) H := hP
      have hD : va_D (AD ad 0 21) (wM g ad ((mS σ), (mT σ), (mK σ), (s_F_fit, (e106_left), (fLeftBy (mF σ))), (mRow σ), (mRowMany σ), (mLots σ), s_refused)) := hD.addr (by rfl)
      refine lv_if_eq (tgt := 116) hx hb dX3_drawn_109 (by decide) (fun c109 => ?_) (fun c109 => ?_)
      · have hv := hv.1 c109
        refine lv_lconst (v := 0) hx hb dX3_drawn_116 (by decide) ?_
        refine lv_ladd hx hb dX3_drawn_117 ?_
        refine lv_lstore (lv' := [(6, .long (x6 + 0)), (0, .ref (ad 0)), (1, .int p0), (2, .int p1), (3, .int p2), (4, .int p3), (8, .int x8)]) hx hb dX3_drawn_118 hl (by decide) rfl (fun ls hl => ?_)
        refine lv_iinc (v := (x8 + 1)) (lv' := [(8, .int (x8 + 1)), (6, .long (x6 + 0)), (0, .ref (ad 0)), (1, .int p0), (2, .int p1), (3, .int p2), (4, .int p3)]) hx hb dX3_drawn_120 hl (k := 6) rfl (by first | rfl | exact congrArg _ (by decide)) (by decide) rfl (fun ls hl => ?_)
        refine lv_goto (tgt := 85) hx hb dX3_drawn_123 (by decide) ?_
        exact hv H locs ls hP hD hS (lv_sub hl [2, 3, 4, 5, 6, 1, 0] rfl)
      · have hv := hv.2 c109
        refine lv_lconst (v := 1) hx hb dX3_drawn_112 (by decide) ?_
        refine lv_goto (tgt := 117) hx hb dX3_drawn_113 (by decide) ?_
        refine lv_ladd hx hb dX3_drawn_117 ?_
        refine lv_lstore (lv' := [(6, .long (x6 + 1)), (0, .ref (ad 0)), (1, .int p0), (2, .int p1), (3, .int p2), (4, .int p3), (8, .int x8)]) hx hb dX3_drawn_118 hl (by decide) rfl (fun ls hl => ?_)
        refine lv_iinc (v := (x8 + 1)) (lv' := [(8, .int (x8 + 1)), (6, .long (x6 + 1)), (0, .ref (ad 0)), (1, .int p0), (2, .int p1), (3, .int p2), (4, .int p3)]) hx hb dX3_drawn_120 hl (k := 6) rfl (by first | rfl | exact congrArg _ (by decide)) (by decide) rfl (fun ls hl => ?_)
        refine lv_goto (tgt := 85) hx hb dX3_drawn_123 (by decide) ?_
        exact hv H locs ls hP hD hS (lv_sub hl [2, 3, 4, 5, 6, 1, 0] rfl))
  obtain ⟨H, hH⟩ : ∃ z, z = s.heap := ⟨_, rfl⟩
  obtain ⟨locs, hL⟩ : ∃ z : List Loc, z = [] := ⟨_, rfl⟩
  rw [← hL] at hS ⊢
  have hS : va_S (AD ad 0 21) s.heap H locs := by rw [hH]; exact hS
  rw [← hH] at hP ⊢
  clear hH hL
  refine lv_aload_n hx hb dX3_drawn_0 rfl (lv_at hl 0 rfl) ?_
  refine lv_iload_n hx hb dX3_drawn_1 rfl (lv_at hl 1 rfl) ?_
  have hPc := hP
  refine ro_int (va_runV (As := [.int p0]) (rest := []) ⟨hx, hb, hml, hown, hts⟩ (h_X3_isWitness g ad σ p0) (cwV 1 hts gX3_drawn_X3_isWitness rfl rfl rfl (by decide +kernel) ⟨Nat.le_of_ble_eq_true rfl, Nat.le_of_ble_eq_true rfl⟩) ⟨RO_blind, va_recv hK hP (ci := 3) (q0 := 0) rfl rfl, fun U hU hW => ⟨rfl, by rw [hU]; exact hPc, va_K.moved hW.alike hK, hE.call hW hU hS (fun _ h => h.elim)⟩⟩ rfl rfl hl.1 rfl (lv_room (Nat.le_of_ble_eq_true rfl)) dX3_drawn_2 ⟨Nat.le_of_ble_eq_true rfl, Nat.le_of_ble_eq_true rfl⟩) hS hP (fun r H locs hw hP hS => ?_)
  subst r
  refine lv_if_eq (tgt := 15) hx hb dX3_drawn_5 (by decide) (fun c5 => ?_) (fun c5 => ?_)
  · have hv := hv.1 c5
    refine lv_iconst (v := (-1)) hx hb dX3_drawn_15 (by decide) ?_
    refine lv_goto (tgt := 25) hx hb dX3_drawn_16 (by decide) ?_
    refine lv_istore (lv' := [(5, .int (-1)), (0, .ref (ad 0)), (1, .int p0), (2, .int p1), (3, .int p2), (4, .int p3)]) hx hb dX3_drawn_25 hl (by decide) rfl (fun ls hl => ?_)
    refine lv_iload hx hb dX3_drawn_27 (lv_at hl 0 rfl) ?_
    refine lv_if_ne (tgt := 62) hx hb dX3_drawn_29 (by decide) (fun c29 => ?_) (fun c29 => ?_)
    · refine lv_iload hx hb dX3_drawn_62 (lv_at hl 0 rfl) ?_
      refine lv_if_eq (tgt := 74) hx hb dX3_drawn_64 (by decide) (fun c64 => ?_) (fun c64 => ?_)
      · exact absurd c64 (by decide)
      · refine lv_aload_n hx hb dX3_drawn_67 rfl (lv_at hl 1 rfl) ?_
        refine lv_iload hx hb dX3_drawn_68 (lv_at hl 0 rfl) ?_
        have h8 := hv.1
        have hv := hv.2
        have hPc := hP
        have hDc := hD
        refine rw_long (va_runV (As := [.int (-1)]) (rest := []) ⟨hx, hb, hml, hown, hts⟩ (h_X3_lowest g ad σ (-1) h8) (cwV 1 hts gX3_drawn_X3_lowest rfl rfl rfl (by decide +kernel) ⟨Nat.le_of_ble_eq_true rfl, Nat.le_of_ble_eq_true rfl⟩) ⟨RW_blind, va_recv hK hP (ci := 3) (q0 := 0) rfl rfl, fun U hU hW => ⟨rfl, by rw [hU]; exact hPc, va_K.moved hW.alike hK, hE.call hW hU hS (fun _ h => h), hDc⟩⟩ rfl rfl hl.1 rfl (lv_room (Nat.le_of_ble_eq_true rfl)) dX3_drawn_70 ⟨Nat.le_of_ble_eq_true rfl, Nat.le_of_ble_eq_true rfl⟩) hS (fun _ h => h) (fun r u H1 locs hw hP1 hk hS => ?_)
        obtain ⟨hw1, hw⟩ := hw; subst r; subst u
        have hP := hP1
        generalize H1 = H at hP hS ⊢
        have hP : va_P (gD g) vwCl (wM g ad ((mS σ), (mT σ), (mK σ), (mF σ), (mRow σ), (mRowMany σ), (mLots σ), (refuX (mRefused σ) ((-1) : Int32)))) H := hP
        have hD : va_D (AD ad 0 21) (wM g ad ((mS σ), (mT σ), (mK σ), (mF σ), (mRow σ), (mRowMany σ), (mLots σ), (refuX (mRefused σ) ((-1) : Int32)))) := hD.addr (by rfl)
        exact W.lret (v := (4000000000000000000 - ((-1) : Int32).toInt64)) hx hb hr (fun t ht hW => ⟨⟨(4000000000000000000 - ((-1) : Int32).toInt64), ((mS σ), (mT σ), (mK σ), (mF σ), (mRow σ), (mRowMany σ), (mLots σ), (refuX (mRefused σ) ((-1) : Int32))), rfl, hv, P_at ht hP⟩, hS.F ht⟩) hS.2.2 dX3_drawn_73
    · exact absurd c29 (by decide)
  · have hv := hv.2 c5
    refine lv_iload_n hx hb dX3_drawn_8 rfl (lv_at hl 3 rfl) ?_
    have hPc : va_P (gD g) vwCl [] H := fun k q h => by simp at h
    refine ro_int (va_runS (As := [.int p2]) (rest := []) ⟨hx, hb, hml, hown, hts⟩ (h_X3_isFact g p2) (va_cwS 1 hts gX3_drawn_X3_isFact rfl rfl rfl (by decide +kernel) ⟨Nat.le_of_ble_eq_true rfl, Nat.le_of_ble_eq_true rfl⟩) ⟨RO_blind, fun U hU hW => ⟨rfl, by rw [hU]; exact hPc, va_K.moved hW.alike hK, hE.call hW hU hS (fun _ h => h.elim)⟩⟩ rfl rfl hl.1 rfl (lv_room (Nat.le_of_ble_eq_true rfl)) dX3_drawn_9 ⟨Nat.le_of_ble_eq_true rfl, Nat.le_of_ble_eq_true rfl⟩) hS hP (fun r H locs hw hP hS => ?_)
    subst r
    refine lv_if_ne (tgt := 19) hx hb dX3_drawn_12 (by decide) (fun c12 => ?_) (fun c12 => ?_)
    · have hv := hv.1 c12
      refine lv_iload_n hx hb dX3_drawn_19 rfl (lv_at hl 2 rfl) ?_
      refine lv_iconst (v := 0) hx hb dX3_drawn_20 (by decide) ?_
      refine lv_iconst (v := 4) hx hb dX3_drawn_21 (by decide) ?_
      have hPc : va_P (gD g) vwCl [] H := fun k q h => by simp at h
      refine ro_int (va_runS (As := [.int p1, .int 0, .int 4]) (rest := []) ⟨hx, hb, hml, hown, hts⟩ (h_X3_bound g p1 0 4) (va_cwS 3 hts gX3_drawn_X3_bound rfl rfl rfl (by decide +kernel) ⟨Nat.le_of_ble_eq_true rfl, Nat.le_of_ble_eq_true rfl⟩) ⟨RO_blind, fun U hU hW => ⟨rfl, by rw [hU]; exact hPc, va_K.moved hW.alike hK, hE.call hW hU hS (fun _ h => h.elim)⟩⟩ rfl rfl hl.1 rfl (lv_room (Nat.le_of_ble_eq_true rfl)) dX3_drawn_22 ⟨Nat.le_of_ble_eq_true rfl, Nat.le_of_ble_eq_true rfl⟩) hS hP (fun r H locs hw hP hS => ?_)
      subst r
      refine lv_istore (lv' := [(5, .int (boundI p1 (0 : Int32) (4 : Int32))), (0, .ref (ad 0)), (1, .int p0), (2, .int p1), (3, .int p2), (4, .int p3)]) hx hb dX3_drawn_25 hl (by decide) rfl (fun ls hl => ?_)
      refine lv_iload hx hb dX3_drawn_27 (lv_at hl 0 rfl) ?_
      refine lv_if_ne (tgt := 62) hx hb dX3_drawn_29 (by decide) (fun c29 => ?_) (fun c29 => ?_)
      · have hv := hv.1 c29
        refine lv_iload hx hb dX3_drawn_62 (lv_at hl 0 rfl) ?_
        refine lv_if_eq (tgt := 74) hx hb dX3_drawn_64 (by decide) (fun c64 => ?_) (fun c64 => ?_)
        · have hv := hv.1 c64
          refine lv_aload_n hx hb dX3_drawn_74 rfl (lv_at hl 1 rfl) ?_
          refine lv_iconst (v := 0) hx hb dX3_drawn_75 (by decide) ?_
          have h8 := hv.1
          have hv := hv.2
          have hPc := hP
          have hDc := hD
          refine rw_void (va_runV (As := [.int 0]) (rest := []) ⟨hx, hb, hml, hown, hts⟩ (h_X3_findFit g ad σ 0 h8) (cwV 1 hts gX3_drawn_X3_findFit rfl rfl rfl (by decide +kernel) ⟨Nat.le_of_ble_eq_true rfl, Nat.le_of_ble_eq_true rfl⟩) ⟨RW_blind, va_recv hK hP (ci := 3) (q0 := 0) rfl rfl, fun U hU hW => ⟨rfl, by rw [hU]; exact hPc, va_K.moved hW.alike hK, hE.call hW hU hS (fun _ h => h), hDc⟩⟩ rfl rfl hl.1 rfl (lv_room (Nat.le_of_ble_eq_true rfl)) dX3_drawn_76 ⟨Nat.le_of_ble_eq_true rfl, Nat.le_of_ble_eq_true rfl⟩) hS (fun _ h => h) (fun u H1 locs hw hP1 hk hS => ?_)
          subst u
          have hP := hP1
          generalize H1 = H at hP hS ⊢
          have hP : va_P (gD g) vwCl (wM g ad ((mS σ), (mT σ), (mK σ), ((fitM (mS σ) (0 : Int32) (fFit (mF σ))), (fLeft (mF σ)), (fLeftBy (mF σ))), (mRow σ), (mRowMany σ), (mLots σ), (mRefused σ))) H := hP
          have hD : va_D (AD ad 0 21) (wM g ad ((mS σ), (mT σ), (mK σ), ((fitM (mS σ) (0 : Int32) (fFit (mF σ))), (fLeft (mF σ)), (fLeftBy (mF σ))), (mRow σ), (mRowMany σ), (mLots σ), (mRefused σ))) := hD.addr (by rfl)
          refine lv_lconst (v := 0) hx hb dX3_drawn_79 (by decide) ?_
          refine lv_lstore (lv' := [(6, .long 0), (5, .int (boundI p1 (0 : Int32) (4 : Int32))), (0, .ref (ad 0)), (1, .int p0), (2, .int p1), (3, .int p2), (4, .int p3)]) hx hb dX3_drawn_80 hl (by decide) rfl (fun ls hl => ?_)
          refine lv_iconst (v := 0) hx hb dX3_drawn_82 (by decide) ?_
          refine lv_istore (lv' := [(8, .int 0), (6, .long 0), (5, .int (boundI p1 (0 : Int32) (4 : Int32))), (0, .ref (ad 0)), (1, .int p0), (2, .int p1), (3, .int p2), (4, .int p3)]) hx hb dX3_drawn_83 hl (by decide) rfl (fun ls hl => ?_)
          exact hv H locs ls hP hD hS (lv_sub hl [3, 4, 5, 6, 7, 1, 0] rfl)
        · have hv := hv.2 c64
          refine lv_aload_n hx hb dX3_drawn_67 rfl (lv_at hl 1 rfl) ?_
          refine lv_iload hx hb dX3_drawn_68 (lv_at hl 0 rfl) ?_
          have h8 := hv.1
          have hv := hv.2
          have hPc := hP
          have hDc := hD
          refine rw_long (va_runV (As := [.int (boundI p1 (0 : Int32) (4 : Int32))]) (rest := []) ⟨hx, hb, hml, hown, hts⟩ (h_X3_lowest g ad σ (boundI p1 (0 : Int32) (4 : Int32)) h8) (cwV 1 hts gX3_drawn_X3_lowest rfl rfl rfl (by decide +kernel) ⟨Nat.le_of_ble_eq_true rfl, Nat.le_of_ble_eq_true rfl⟩) ⟨RW_blind, va_recv hK hP (ci := 3) (q0 := 0) rfl rfl, fun U hU hW => ⟨rfl, by rw [hU]; exact hPc, va_K.moved hW.alike hK, hE.call hW hU hS (fun _ h => h), hDc⟩⟩ rfl rfl hl.1 rfl (lv_room (Nat.le_of_ble_eq_true rfl)) dX3_drawn_70 ⟨Nat.le_of_ble_eq_true rfl, Nat.le_of_ble_eq_true rfl⟩) hS (fun _ h => h) (fun r u H1 locs hw hP1 hk hS => ?_)
          obtain ⟨hw1, hw⟩ := hw; subst r; subst u
          have hP := hP1
          generalize H1 = H at hP hS ⊢
          have hP : va_P (gD g) vwCl (wM g ad ((mS σ), (mT σ), (mK σ), (mF σ), (mRow σ), (mRowMany σ), (mLots σ), (refuX (mRefused σ) (boundI p1 (0 : Int32) (4 : Int32))))) H := hP
          have hD : va_D (AD ad 0 21) (wM g ad ((mS σ), (mT σ), (mK σ), (mF σ), (mRow σ), (mRowMany σ), (mLots σ), (refuX (mRefused σ) (boundI p1 (0 : Int32) (4 : Int32))))) := hD.addr (by rfl)
          exact W.lret (v := (4000000000000000000 - (boundI p1 (0 : Int32) (4 : Int32)).toInt64)) hx hb hr (fun t ht hW => ⟨⟨(4000000000000000000 - (boundI p1 (0 : Int32) (4 : Int32)).toInt64), ((mS σ), (mT σ), (mK σ), (mF σ), (mRow σ), (mRowMany σ), (mLots σ), (refuX (mRefused σ) (boundI p1 (0 : Int32) (4 : Int32)))), rfl, hv, P_at ht hP⟩, hS.F ht⟩) hS.2.2 dX3_drawn_73
      · have hv := hv.2 c29
        refine lv_iload hx hb dX3_drawn_32 (lv_at hl 5 rfl) ?_
        refine lv_iconst (v := 0) hx hb dX3_drawn_34 (by decide) ?_
        refine lv_iconst (v := 1) hx hb dX3_drawn_35 (by decide) ?_
        have hPc : va_P (gD g) vwCl [] H := fun k q h => by simp at h
        refine ro_int (va_runS (As := [.int p3, .int 0, .int 1]) (rest := []) ⟨hx, hb, hml, hown, hts⟩ (h_X3_isIn g p3 0 1) (va_cwS 3 hts gX3_drawn_X3_isIn rfl rfl rfl (by decide +kernel) ⟨Nat.le_of_ble_eq_true rfl, Nat.le_of_ble_eq_true rfl⟩) ⟨RO_blind, fun U hU hW => ⟨rfl, by rw [hU]; exact hPc, va_K.moved hW.alike hK, hE.call hW hU hS (fun _ h => h.elim)⟩⟩ rfl rfl hl.1 rfl (lv_room (Nat.le_of_ble_eq_true rfl)) dX3_drawn_36 ⟨Nat.le_of_ble_eq_true rfl, Nat.le_of_ble_eq_true rfl⟩) hS hP (fun r H locs hw hP hS => ?_)
        subst r
        refine lv_if_ne (tgt := 47) hx hb dX3_drawn_39 (by decide) (fun c39 => ?_) (fun c39 => ?_)
        · have hv := hv.1 c39
          refine lv_aload_n hx hb dX3_drawn_47 rfl (lv_at hl 1 rfl) ?_
          refine va_get (D := gD g) (ci := 3) (v := .int (sNq (mS σ))) (C := RX3) (T := TX3) (N := 33) hx hb hts hi3 hown hK hP 0 rfl rfl 12 (by decide) k0 (fun _ h9 => h9) rfl dX3_drawn_48 ?_
          refine lv_if_ne (tgt := 59) hx hb dX3_drawn_51 (by decide) (fun c51 => ?_) (fun c51 => ?_)
          · have hv := hv.1 c51
            refine lv_iconst (v := 0) hx hb dX3_drawn_59 (by decide) ?_
            refine lv_istore (lv' := [(5, .int 0), (0, .ref (ad 0)), (1, .int p0), (2, .int p1), (3, .int p2), (4, .int p3)]) hx hb dX3_drawn_60 hl (by decide) rfl (fun ls hl => ?_)
            refine lv_iload hx hb dX3_drawn_62 (lv_at hl 0 rfl) ?_
            refine lv_if_eq (tgt := 74) hx hb dX3_drawn_64 (by decide) (fun c64 => ?_) (fun c64 => ?_)
            · refine lv_aload_n hx hb dX3_drawn_74 rfl (lv_at hl 1 rfl) ?_
              refine lv_iconst (v := 0) hx hb dX3_drawn_75 (by decide) ?_
              have h8 := hv.1
              have hv := hv.2
              have hPc := hP
              have hDc := hD
              refine rw_void (va_runV (As := [.int 0]) (rest := []) ⟨hx, hb, hml, hown, hts⟩ (h_X3_findFit g ad σ 0 h8) (cwV 1 hts gX3_drawn_X3_findFit rfl rfl rfl (by decide +kernel) ⟨Nat.le_of_ble_eq_true rfl, Nat.le_of_ble_eq_true rfl⟩) ⟨RW_blind, va_recv hK hP (ci := 3) (q0 := 0) rfl rfl, fun U hU hW => ⟨rfl, by rw [hU]; exact hPc, va_K.moved hW.alike hK, hE.call hW hU hS (fun _ h => h), hDc⟩⟩ rfl rfl hl.1 rfl (lv_room (Nat.le_of_ble_eq_true rfl)) dX3_drawn_76 ⟨Nat.le_of_ble_eq_true rfl, Nat.le_of_ble_eq_true rfl⟩) hS (fun _ h => h) (fun u H1 locs hw hP1 hk hS => ?_)
              subst u
              have hP := hP1
              generalize H1 = H at hP hS ⊢
              have hP : va_P (gD g) vwCl (wM g ad ((mS σ), (mT σ), (mK σ), ((fitM (mS σ) (0 : Int32) (fFit (mF σ))), (fLeft (mF σ)), (fLeftBy (mF σ))), (mRow σ), (mRowMany σ), (mLots σ), (mRefused σ))) H := hP
              have hD : va_D (AD ad 0 21) (wM g ad ((mS σ), (mT σ), (mK σ), ((fitM (mS σ) (0 : Int32) (fFit (mF σ))), (fLeft (mF σ)), (fLeftBy (mF σ))), (mRow σ), (mRowMany σ), (mLots σ), (mRefused σ))) := hD.addr (by rfl)
              refine lv_lconst (v := 0) hx hb dX3_drawn_79 (by decide) ?_
              refine lv_lstore (lv' := [(6, .long 0), (5, .int 0), (0, .ref (ad 0)), (1, .int p0), (2, .int p1), (3, .int p2), (4, .int p3)]) hx hb dX3_drawn_80 hl (by decide) rfl (fun ls hl => ?_)
              refine lv_iconst (v := 0) hx hb dX3_drawn_82 (by decide) ?_
              refine lv_istore (lv' := [(8, .int 0), (6, .long 0), (5, .int 0), (0, .ref (ad 0)), (1, .int p0), (2, .int p1), (3, .int p2), (4, .int p3)]) hx hb dX3_drawn_83 hl (by decide) rfl (fun ls hl => ?_)
              exact hv H locs ls hP hD hS (lv_sub hl [3, 4, 5, 6, 7, 1, 0] rfl)
            · exact (c64 (by decide)).elim
          · have hv := hv.2 c51
            refine lv_bipush (v := (-3)) hx hb dX3_drawn_54 (by decide) ?_
            refine lv_goto (tgt := 60) hx hb dX3_drawn_56 (by decide) ?_
            refine lv_istore (lv' := [(5, .int (-3)), (0, .ref (ad 0)), (1, .int p0), (2, .int p1), (3, .int p2), (4, .int p3)]) hx hb dX3_drawn_60 hl (by decide) rfl (fun ls hl => ?_)
            refine lv_iload hx hb dX3_drawn_62 (lv_at hl 0 rfl) ?_
            refine lv_if_eq (tgt := 74) hx hb dX3_drawn_64 (by decide) (fun c64 => ?_) (fun c64 => ?_)
            · exact absurd c64 (by decide)
            · refine lv_aload_n hx hb dX3_drawn_67 rfl (lv_at hl 1 rfl) ?_
              refine lv_iload hx hb dX3_drawn_68 (lv_at hl 0 rfl) ?_
              have h8 := hv.1
              have hv := hv.2
              have hPc := hP
              have hDc := hD
              refine rw_long (va_runV (As := [.int (-3)]) (rest := []) ⟨hx, hb, hml, hown, hts⟩ (h_X3_lowest g ad σ (-3) h8) (cwV 1 hts gX3_drawn_X3_lowest rfl rfl rfl (by decide +kernel) ⟨Nat.le_of_ble_eq_true rfl, Nat.le_of_ble_eq_true rfl⟩) ⟨RW_blind, va_recv hK hP (ci := 3) (q0 := 0) rfl rfl, fun U hU hW => ⟨rfl, by rw [hU]; exact hPc, va_K.moved hW.alike hK, hE.call hW hU hS (fun _ h => h), hDc⟩⟩ rfl rfl hl.1 rfl (lv_room (Nat.le_of_ble_eq_true rfl)) dX3_drawn_70 ⟨Nat.le_of_ble_eq_true rfl, Nat.le_of_ble_eq_true rfl⟩) hS (fun _ h => h) (fun r u H1 locs hw hP1 hk hS => ?_)
              obtain ⟨hw1, hw⟩ := hw; subst r; subst u
              have hP := hP1
              generalize H1 = H at hP hS ⊢
              have hP : va_P (gD g) vwCl (wM g ad ((mS σ), (mT σ), (mK σ), (mF σ), (mRow σ), (mRowMany σ), (mLots σ), (refuX (mRefused σ) ((-3) : Int32)))) H := hP
              have hD : va_D (AD ad 0 21) (wM g ad ((mS σ), (mT σ), (mK σ), (mF σ), (mRow σ), (mRowMany σ), (mLots σ), (refuX (mRefused σ) ((-3) : Int32)))) := hD.addr (by rfl)
              exact W.lret (v := (4000000000000000000 - ((-3) : Int32).toInt64)) hx hb hr (fun t ht hW => ⟨⟨(4000000000000000000 - ((-3) : Int32).toInt64), ((mS σ), (mT σ), (mK σ), (mF σ), (mRow σ), (mRowMany σ), (mLots σ), (refuX (mRefused σ) ((-3) : Int32))), rfl, hv, P_at ht hP⟩, hS.F ht⟩) hS.2.2 dX3_drawn_73
        · have hv := hv.2 c39
          refine lv_bipush (v := (-2)) hx hb dX3_drawn_42 (by decide) ?_
          refine lv_goto (tgt := 60) hx hb dX3_drawn_44 (by decide) ?_
          refine lv_istore (lv' := [(5, .int (-2)), (0, .ref (ad 0)), (1, .int p0), (2, .int p1), (3, .int p2), (4, .int p3)]) hx hb dX3_drawn_60 hl (by decide) rfl (fun ls hl => ?_)
          refine lv_iload hx hb dX3_drawn_62 (lv_at hl 0 rfl) ?_
          refine lv_if_eq (tgt := 74) hx hb dX3_drawn_64 (by decide) (fun c64 => ?_) (fun c64 => ?_)
          · exact absurd c64 (by decide)
          · refine lv_aload_n hx hb dX3_drawn_67 rfl (lv_at hl 1 rfl) ?_
            refine lv_iload hx hb dX3_drawn_68 (lv_at hl 0 rfl) ?_
            have h8 := hv.1
            have hv := hv.2
            have hPc := hP
            have hDc := hD
            refine rw_long (va_runV (As := [.int (-2)]) (rest := []) ⟨hx, hb, hml, hown, hts⟩ (h_X3_lowest g ad σ (-2) h8) (cwV 1 hts gX3_drawn_X3_lowest rfl rfl rfl (by decide +kernel) ⟨Nat.le_of_ble_eq_true rfl, Nat.le_of_ble_eq_true rfl⟩) ⟨RW_blind, va_recv hK hP (ci := 3) (q0 := 0) rfl rfl, fun U hU hW => ⟨rfl, by rw [hU]; exact hPc, va_K.moved hW.alike hK, hE.call hW hU hS (fun _ h => h), hDc⟩⟩ rfl rfl hl.1 rfl (lv_room (Nat.le_of_ble_eq_true rfl)) dX3_drawn_70 ⟨Nat.le_of_ble_eq_true rfl, Nat.le_of_ble_eq_true rfl⟩) hS (fun _ h => h) (fun r u H1 locs hw hP1 hk hS => ?_)
            obtain ⟨hw1, hw⟩ := hw; subst r; subst u
            have hP := hP1
            generalize H1 = H at hP hS ⊢
            have hP : va_P (gD g) vwCl (wM g ad ((mS σ), (mT σ), (mK σ), (mF σ), (mRow σ), (mRowMany σ), (mLots σ), (refuX (mRefused σ) ((-2) : Int32)))) H := hP
            have hD : va_D (AD ad 0 21) (wM g ad ((mS σ), (mT σ), (mK σ), (mF σ), (mRow σ), (mRowMany σ), (mLots σ), (refuX (mRefused σ) ((-2) : Int32)))) := hD.addr (by rfl)
            exact W.lret (v := (4000000000000000000 - ((-2) : Int32).toInt64)) hx hb hr (fun t ht hW => ⟨⟨(4000000000000000000 - ((-2) : Int32).toInt64), ((mS σ), (mT σ), (mK σ), (mF σ), (mRow σ), (mRowMany σ), (mLots σ), (refuX (mRefused σ) ((-2) : Int32))), rfl, hv, P_at ht hP⟩, hS.F ht⟩) hS.2.2 dX3_drawn_73
    · have hv := hv.2 c12
      refine lv_iconst (v := (-1)) hx hb dX3_drawn_15 (by decide) ?_
      refine lv_goto (tgt := 25) hx hb dX3_drawn_16 (by decide) ?_
      refine lv_istore (lv' := [(5, .int (-1)), (0, .ref (ad 0)), (1, .int p0), (2, .int p1), (3, .int p2), (4, .int p3)]) hx hb dX3_drawn_25 hl (by decide) rfl (fun ls hl => ?_)
      refine lv_iload hx hb dX3_drawn_27 (lv_at hl 0 rfl) ?_
      refine lv_if_ne (tgt := 62) hx hb dX3_drawn_29 (by decide) (fun c29 => ?_) (fun c29 => ?_)
      · refine lv_iload hx hb dX3_drawn_62 (lv_at hl 0 rfl) ?_
        refine lv_if_eq (tgt := 74) hx hb dX3_drawn_64 (by decide) (fun c64 => ?_) (fun c64 => ?_)
        · exact absurd c64 (by decide)
        · refine lv_aload_n hx hb dX3_drawn_67 rfl (lv_at hl 1 rfl) ?_
          refine lv_iload hx hb dX3_drawn_68 (lv_at hl 0 rfl) ?_
          have h8 := hv.1
          have hv := hv.2
          have hPc := hP
          have hDc := hD
          refine rw_long (va_runV (As := [.int (-1)]) (rest := []) ⟨hx, hb, hml, hown, hts⟩ (h_X3_lowest g ad σ (-1) h8) (cwV 1 hts gX3_drawn_X3_lowest rfl rfl rfl (by decide +kernel) ⟨Nat.le_of_ble_eq_true rfl, Nat.le_of_ble_eq_true rfl⟩) ⟨RW_blind, va_recv hK hP (ci := 3) (q0 := 0) rfl rfl, fun U hU hW => ⟨rfl, by rw [hU]; exact hPc, va_K.moved hW.alike hK, hE.call hW hU hS (fun _ h => h), hDc⟩⟩ rfl rfl hl.1 rfl (lv_room (Nat.le_of_ble_eq_true rfl)) dX3_drawn_70 ⟨Nat.le_of_ble_eq_true rfl, Nat.le_of_ble_eq_true rfl⟩) hS (fun _ h => h) (fun r u H1 locs hw hP1 hk hS => ?_)
          obtain ⟨hw1, hw⟩ := hw; subst r; subst u
          have hP := hP1
          generalize H1 = H at hP hS ⊢
          have hP : va_P (gD g) vwCl (wM g ad ((mS σ), (mT σ), (mK σ), (mF σ), (mRow σ), (mRowMany σ), (mLots σ), (refuX (mRefused σ) ((-1) : Int32)))) H := hP
          have hD : va_D (AD ad 0 21) (wM g ad ((mS σ), (mT σ), (mK σ), (mF σ), (mRow σ), (mRowMany σ), (mLots σ), (refuX (mRefused σ) ((-1) : Int32)))) := hD.addr (by rfl)
          exact W.lret (v := (4000000000000000000 - ((-1) : Int32).toInt64)) hx hb hr (fun t ht hW => ⟨⟨(4000000000000000000 - ((-1) : Int32).toInt64), ((mS σ), (mT σ), (mK σ), (mF σ), (mRow σ), (mRowMany σ), (mLots σ), (refuX (mRefused σ) ((-1) : Int32))), rfl, hv, P_at ht hP⟩, hS.F ht⟩) hS.2.2 dX3_drawn_73
      · exact absurd c29 (by decide)

set_option maxHeartbeats 4000000 in
set_option maxRecDepth 100000 in
theorem m_X3_isRowSo (l : Launch) (h_X3_answerOf : C_X3_answerOf l) (g : CX) (ad : Nat → Nat) (σ : KM) (p0 : Int32) (Post : Int32 → Prop) (hv : vc_X3_isRowSo σ p0 Post) : Met l yX3_isRowSo wsX3_isRowSo { frames := 4, cells := 0, slots := 0, locals := 93 } (va_Pc [.ref (ad 0), .int p0] (RO g (wM g ad σ))) (va_Qi (fun r (_ : Unit) => Post r) (fun _ _ => True) A0) 0 0 A0 := by
  unfold vc_X3_isRowSo at hv
  refine Met.ofW (cc := cX3_isRowSo) (maxL := 3) (ret := (some .boolean)) (by decide) rfl ?_
  intro p e s m args below meth c s₁ B hml hv0
  obtain ⟨rfl, hP, hK, hE⟩ := hv0
  have hx := B.exec
  have hb := B.bytes
  have hr := B.returns
  have hts := atoms_spec (ws := wsX3_isRowSo) B.pre
  have hown : s.vm.findClass RX3 = some m.cls := findClass_of_methodNamed B.named
  have hlocks := B.notSynchronized
  have hi3 : ∀ w ∈ wsX30, w ∈ wsX3_isRowSo := by decide +kernel
  have k0 := hts (.fieldLink RX3 266 "JuryHearsAnswersModel" "rowMany" "I") (by decide +kernel)
  have k1 := hts (.fieldLink RX3 134 "JuryHearsAnswersModel" "theCase" "I") (by decide +kernel)
  have k2 := hts (.fieldLink RX3 127 "JuryHearsAnswersModel" "asked" "I") (by decide +kernel)
  have k3 := hts (.fieldLink RX3 67 "JuryHearsAnswersModel" "row" "[I") (by decide +kernel)
  have hS : va_S A0 s.heap s.heap [] := va_S.rf
  have hP : va_P (gD g) vwCl (wM g ad σ) s.heap := hP
  have hl := lv_entry ([.ref (ad 0), .int p0]) (n := 3) (Nat.le_of_ble_eq_true rfl)
  rw [lg_entry_eq]
  generalize (lg_sl ([.ref (ad 0), .int p0]) ++ List.replicate (3 - (lg_sl ([.ref (ad 0), .int p0])).length) Slot.unset).toArray = ls at hl ⊢
  have hl : lv_has ls 3 [(0, .ref (ad 0)), (1, .int p0)] := hl
  have hv := hv (fun (x2 : Int32) => ∀ (H : Heap) (locs : List Loc) (ls : Array Slot), va_P (gD g) vwCl (wM g ad σ) H → va_S A0 s.heap H locs → lv_has ls 3 [(0, .ref (ad 0)), (1, .int p0), (2, .int x2)] → W p l e { frames := 4, cells := 0, slots := 0, locals := 93 } s m ([.ref (ad 0), .int p0] : List Value).toArray below meth c H locs 0 0 (MQ below (va_Qi (fun r (_ : Unit) => Post r) (fun _ _ => True) A0) ([.ref (ad 0), .int p0] : List Value).toArray s 0 0 A0) (F0 m 2 ls []))
  have hv := hv (by
    intro x2 hv H locs ls hP hS hl
    refine lv_iload_n hx hb dX3_isRowSo_2 rfl (lv_at hl 2 rfl) ?_
    refine lv_aload_n hx hb dX3_isRowSo_3 rfl (lv_at hl 0 rfl) ?_
    refine va_get (D := gD g) (ci := 3) (v := .int (mRowMany σ)) (C := RX3) (T := TX3) (N := 33) hx hb hts hi3 hown hK hP 0 rfl rfl 31 (by decide) k0 (fun _ h9 => h9) rfl dX3_isRowSo_4 ?_
    refine lv_icmp_ge (tgt := 43) hx hb dX3_isRowSo_7 (by decide) (fun c7 => ?_) (fun c7 => ?_)
    · have hv := hv.1 c7
      refine lv_iconst (v := 1) hx hb dX3_isRowSo_43 (by decide) ?_
      exact W.zret (v := 1) hx hb hr rfl (fun t ht hW => ⟨⟨1, (), rfl, hv, trivial⟩, hS.F ht⟩) hS.2.2 dX3_isRowSo_44
    · have hv := hv.2 c7
      refine lv_aload_n hx hb dX3_isRowSo_10 rfl (lv_at hl 0 rfl) ?_
      refine lv_iload_n hx hb dX3_isRowSo_11 rfl (lv_at hl 1 rfl) ?_
      refine lv_iload_n hx hb dX3_isRowSo_12 rfl (lv_at hl 2 rfl) ?_
      refine lv_aload_n hx hb dX3_isRowSo_13 rfl (lv_at hl 0 rfl) ?_
      refine va_get (D := gD g) (ci := 3) (v := .int (sCase (mS σ))) (C := RX3) (T := TX3) (N := 33) hx hb hts hi3 hown hK hP 0 rfl rfl 11 (by decide) k1 (fun _ h9 => h9) rfl dX3_isRowSo_14 ?_
      refine lv_aload_n hx hb dX3_isRowSo_17 rfl (lv_at hl 0 rfl) ?_
      refine va_get (D := gD g) (ci := 3) (v := .int (sAsked (mS σ))) (C := RX3) (T := TX3) (N := 33) hx hb hts hi3 hown hK hP 0 rfl rfl 15 (by decide) k2 (fun _ h9 => h9) rfl dX3_isRowSo_18 ?_
      refine lv_iconst (v := 1) hx hb dX3_isRowSo_21 (by decide) ?_
      refine lv_iadd hx hb dX3_isRowSo_22 ?_
      have h8 := hv.1
      have hv := hv.2
      have hPc := hP
      refine ro_int (va_runV (As := [.int p0, .int x2, .int (sCase (mS σ)), .int ((sAsked (mS σ)) + 1)]) (rest := []) ⟨hx, hb, hml, hown, hts⟩ (h_X3_answerOf g ad σ p0 x2 (sCase (mS σ)) ((sAsked (mS σ)) + 1) h8) (cwV 4 hts gX3_isRowSo_X3_answerOf rfl rfl rfl (by decide +kernel) ⟨Nat.le_of_ble_eq_true rfl, Nat.le_of_ble_eq_true rfl⟩) ⟨RO_blind, va_recv hK hP (ci := 3) (q0 := 0) rfl rfl, fun U hU hW => ⟨rfl, by rw [hU]; exact hPc, va_K.moved hW.alike hK, hE.call hW hU hS (fun _ h => h.elim)⟩⟩ rfl rfl hl.1 rfl (lv_room (Nat.le_of_ble_eq_true rfl)) dX3_isRowSo_23 ⟨Nat.le_of_ble_eq_true rfl, Nat.le_of_ble_eq_true rfl⟩) hS hP (fun r H locs hw hP hS => ?_)
      subst r
      refine lv_aload_n hx hb dX3_isRowSo_26 rfl (lv_at hl 0 rfl) ?_
      refine va_get (D := gD g) (ci := 3) (v := .ref (ad 20)) (C := RX3) (T := TX3) (N := 33) hx hb hts hi3 hown hK hP 0 rfl rfl 30 (by decide) k3 (fun _ h9 => h9) rfl dX3_isRowSo_27 ?_
      refine lv_iload_n hx hb dX3_isRowSo_30 rfl (lv_at hl 2 rfl) ?_
      have h9 := hv.1
      have hv := hv.2
      refine va_iald (f := (mRow σ)) (n := 12) hx hb hK hP 20 0 rfl rfl h9 dX3_isRowSo_31 ?_
      refine lv_icmp_eq (tgt := 37) hx hb dX3_isRowSo_32 (by decide) (fun c32 => ?_) (fun c32 => ?_)
      · have hv := hv.1 c32
        refine lv_iinc (v := (x2 + 1)) (lv' := [(2, .int (x2 + 1)), (0, .ref (ad 0)), (1, .int p0)]) hx hb dX3_isRowSo_37 hl (k := 2) rfl (by first | rfl | exact congrArg _ (by decide)) (by decide) rfl (fun ls hl => ?_)
        refine lv_goto (tgt := 2) hx hb dX3_isRowSo_40 (by decide) ?_
        exact hv H locs ls hP hS (lv_sub hl [1, 2, 0] rfl)
      · have hv := hv.2 c32
        refine lv_iconst (v := 0) hx hb dX3_isRowSo_35 (by decide) ?_
        exact W.zret (v := 0) hx hb hr rfl (fun t ht hW => ⟨⟨0, (), rfl, hv, trivial⟩, hS.F ht⟩) hS.2.2 dX3_isRowSo_36)
  obtain ⟨H, hH⟩ : ∃ z, z = s.heap := ⟨_, rfl⟩
  obtain ⟨locs, hL⟩ : ∃ z : List Loc, z = [] := ⟨_, rfl⟩
  rw [← hL] at hS ⊢
  have hS : va_S A0 s.heap H locs := by rw [hH]; exact hS
  rw [← hH] at hP ⊢
  clear hH hL
  refine lv_iconst (v := 0) hx hb dX3_isRowSo_0 (by decide) ?_
  refine lv_istore_n (lv' := [(2, .int 0), (0, .ref (ad 0)), (1, .int p0)]) hx hb dX3_isRowSo_1 rfl hl (by decide) rfl (fun ls hl => ?_)
  exact hv H locs ls hP hS (lv_sub hl [1, 2, 0] rfl)

set_option maxHeartbeats 4000000 in
set_option maxRecDepth 100000 in
theorem m_X3_kindsOf (l : Launch) (h_X3_isRowSo : C_X3_isRowSo l) (g : CX) (ad : Nat → Nat) (σ : KM) (p0 : Int32) (Post : Int32 → KM → Prop) (hv : vc_X3_kindsOf σ p0 Post) : Met l yX3_kindsOf wsX3_kindsOf { frames := 5, cells := 0, slots := 0, locals := 115 } (va_Pc [.ref (ad 0), .int p0] (RW g (AD ad 0 21) (wM g ad σ))) (va_Qi (fun (r : Int32) (u : KM) => Post r u) (fun u t => va_P (gD g) vwCl (wM g ad u) t.heap) (AD ad 0 21)) 0 0 (AD ad 0 21) := by
  unfold vc_X3_kindsOf at hv
  refine Met.ofW (cc := cX3_kindsOf) (maxL := 5) (ret := (some .int)) (by decide) rfl ?_
  intro p e s m args below meth c s₁ B hml hv0
  obtain ⟨rfl, hP, hK, hE, hD⟩ := hv0
  have hx := B.exec
  have hb := B.bytes
  have hr := B.returns
  have hts := atoms_spec (ws := wsX3_kindsOf) B.pre
  have hown : s.vm.findClass RX3 = some m.cls := findClass_of_methodNamed B.named
  have hlocks := B.notSynchronized
  have hi3 : ∀ w ∈ wsX30, w ∈ wsX3_kindsOf := by decide +kernel
  have k0 := hts (.fieldLink RX3 22 "JuryHearsAnswersModel" "kind" "[I") (by decide +kernel)
  have hS : va_S (AD ad 0 21) s.heap s.heap [] := va_S.rf
  have hP : va_P (gD g) vwCl (wM g ad σ) s.heap := hP
  have hl := lv_entry ([.ref (ad 0), .int p0]) (n := 5) (Nat.le_of_ble_eq_true rfl)
  rw [lg_entry_eq]
  generalize (lg_sl ([.ref (ad 0), .int p0]) ++ List.replicate (5 - (lg_sl ([.ref (ad 0), .int p0])).length) Slot.unset).toArray = ls at hl ⊢
  have hl : lv_has ls 5 [(0, .ref (ad 0)), (1, .int p0)] := hl
  have hv := hv (fun (x2 : Int32) (x3 : Int32) (x4 : Int32) (s_S_kind : FI) => ∀ (H : Heap) (locs : List Loc) (ls : Array Slot), va_P (gD g) vwCl (wM g ad (((sCase (mS σ)), (sAsked (mS σ)), (sNq (mS σ)), (sNw (mS σ)), (sNh (mS σ)), (sForm (mS σ)), (sFirst (mS σ)), (sSecond (mS σ)), s_S_kind, (sFigure (mS σ)), (sKnows (mS σ)), (sWhom (mS σ)), (sWhat (mS σ)), (sSaid (mS σ)), (sWhen (mS σ))), (mT σ), (mK σ), (mF σ), (mRow σ), (mRowMany σ), (mLots σ), (mRefused σ))) H → va_D (AD ad 0 21) (wM g ad (((sCase (mS σ)), (sAsked (mS σ)), (sNq (mS σ)), (sNw (mS σ)), (sNh (mS σ)), (sForm (mS σ)), (sFirst (mS σ)), (sSecond (mS σ)), s_S_kind, (sFigure (mS σ)), (sKnows (mS σ)), (sWhom (mS σ)), (sWhat (mS σ)), (sSaid (mS σ)), (sWhen (mS σ))), (mT σ), (mK σ), (mF σ), (mRow σ), (mRowMany σ), (mLots σ), (mRefused σ))) → va_S (AD ad 0 21) s.heap H locs → lv_has ls 5 [(0, .ref (ad 0)), (1, .int p0), (2, .int x2), (3, .int x3), (4, .int x4)] → W p l e { frames := 5, cells := 0, slots := 0, locals := 115 } s m ([.ref (ad 0), .int p0] : List Value).toArray below meth c H locs 0 0 (MQ below (va_Qi (fun (r : Int32) (u : KM) => Post r u) (fun u t => va_P (gD g) vwCl (wM g ad u) t.heap) (AD ad 0 21)) ([.ref (ad 0), .int p0] : List Value).toArray s 0 0 (AD ad 0 21)) (F0 m 12 ls []))
  have hv := hv (by
    intro x2 x3 x4 s_S_kind hv H locs ls hP hD hS hl
    refine lv_iload hx hb dX3_kindsOf_12 (lv_at hl 4 rfl) ?_
    refine lv_bipush (v := 6) hx hb dX3_kindsOf_14 (by decide) ?_
    refine lv_icmp_ge (tgt := 52) hx hb dX3_kindsOf_16 (by decide) (fun c16 => ?_) (fun c16 => ?_)
    · have hv := hv.1 c16
      refine lv_aload_n hx hb dX3_kindsOf_52 rfl (lv_at hl 0 rfl) ?_
      refine va_get (D := gD g) (ci := 3) (v := .ref (ad 5)) (C := RX3) (T := TX3) (N := 33) hx hb hts hi3 hown hK hP 0 rfl rfl 4 (by decide) k0 (fun _ h9 => h9) rfl dX3_kindsOf_53 ?_
      refine lv_iload_n hx hb dX3_kindsOf_56 rfl (lv_at hl 1 rfl) ?_
      refine lv_iload_n hx hb dX3_kindsOf_57 rfl (lv_at hl 2 rfl) ?_
      have h9 := hv.1
      have hv := hv.2
      refine va_iast (f := s_S_kind) (n := 5) hx hb hK hP hD hS 5 0 rfl rfl h9 dX3_kindsOf_58 (fun H locs hP hD hS => ?_)
      have hP : va_P (gD g) vwCl (wM g ad (((sCase (mS σ)), (sAsked (mS σ)), (sNq (mS σ)), (sNw (mS σ)), (sNh (mS σ)), (sForm (mS σ)), (sFirst (mS σ)), (sSecond (mS σ)), (upd s_S_kind (p0).toNatClampNeg x2), (sFigure (mS σ)), (sKnows (mS σ)), (sWhom (mS σ)), (sWhat (mS σ)), (sSaid (mS σ)), (sWhen (mS σ))), (mT σ), (mK σ), (mF σ), (mRow σ), (mRowMany σ), (mLots σ), (mRefused σ))) H := hP
      have hD : va_D (AD ad 0 21) (wM g ad (((sCase (mS σ)), (sAsked (mS σ)), (sNq (mS σ)), (sNw (mS σ)), (sNh (mS σ)), (sForm (mS σ)), (sFirst (mS σ)), (sSecond (mS σ)), (upd s_S_kind (p0).toNatClampNeg x2), (sFigure (mS σ)), (sKnows (mS σ)), (sWhom (mS σ)), (sWhat (mS σ)), (sSaid (mS σ)), (sWhen (mS σ))), (mT σ), (mK σ), (mF σ), (mRow σ), (mRowMany σ), (mLots σ), (mRefused σ))) := hD
      refine lv_iload_n hx hb dX3_kindsOf_59 rfl (lv_at hl 3 rfl) ?_
      exact W.iret (v := x3) hx hb hr (fun t ht hW => ⟨⟨x3, (((sCase (mS σ)), (sAsked (mS σ)), (sNq (mS σ)), (sNw (mS σ)), (sNh (mS σ)), (sForm (mS σ)), (sFirst (mS σ)), (sSecond (mS σ)), (upd s_S_kind (p0).toNatClampNeg x2), (sFigure (mS σ)), (sKnows (mS σ)), (sWhom (mS σ)), (sWhat (mS σ)), (sSaid (mS σ)), (sWhen (mS σ))), (mT σ), (mK σ), (mF σ), (mRow σ), (mRowMany σ), (mLots σ), (mRefused σ)), rfl, hv, P_at ht hP⟩, hS.F ht⟩) hS.2.2 dX3_kindsOf_60
    · have hv := hv.2 c16
      refine lv_aload_n hx hb dX3_kindsOf_19 rfl (lv_at hl 0 rfl) ?_
      refine va_get (D := gD g) (ci := 3) (v := .ref (ad 5)) (C := RX3) (T := TX3) (N := 33) hx hb hts hi3 hown hK hP 0 rfl rfl 4 (by decide) k0 (fun _ h9 => h9) rfl dX3_kindsOf_20 ?_
      refine lv_iload_n hx hb dX3_kindsOf_23 rfl (lv_at hl 1 rfl) ?_
      refine lv_iload hx hb dX3_kindsOf_24 (lv_at hl 4 rfl) ?_
      have h9 := hv.1
      have hv := hv.2
      refine va_iast (f := s_S_kind) (n := 5) hx hb hK hP hD hS 5 0 rfl rfl h9 dX3_kindsOf_26 (fun H locs hP hD hS => ?_)
      have hP : va_P (gD g) vwCl (wM g ad (((sCase (mS σ)), (sAsked (mS σ)), (sNq (mS σ)), (sNw (mS σ)), (sNh (mS σ)), (sForm (mS σ)), (sFirst (mS σ)), (sSecond (mS σ)), (upd s_S_kind (p0).toNatClampNeg x4), (sFigure (mS σ)), (sKnows (mS σ)), (sWhom (mS σ)), (sWhat (mS σ)), (sSaid (mS σ)), (sWhen (mS σ))), (mT σ), (mK σ), (mF σ), (mRow σ), (mRowMany σ), (mLots σ), (mRefused σ))) H := hP
      have hD : va_D (AD ad 0 21) (wM g ad (((sCase (mS σ)), (sAsked (mS σ)), (sNq (mS σ)), (sNw (mS σ)), (sNh (mS σ)), (sForm (mS σ)), (sFirst (mS σ)), (sSecond (mS σ)), (upd s_S_kind (p0).toNatClampNeg x4), (sFigure (mS σ)), (sKnows (mS σ)), (sWhom (mS σ)), (sWhat (mS σ)), (sSaid (mS σ)), (sWhen (mS σ))), (mT σ), (mK σ), (mF σ), (mRow σ), (mRowMany σ), (mLots σ), (mRefused σ))) := hD
      refine lv_iload_n hx hb dX3_kindsOf_27 rfl (lv_at hl 3 rfl) ?_
      refine lv_aload_n hx hb dX3_kindsOf_28 rfl (lv_at hl 0 rfl) ?_
      refine lv_iload_n hx hb dX3_kindsOf_29 rfl (lv_at hl 1 rfl) ?_
      have h8 := hv.1
      have hv := hv.2
      have hPc := hP
      refine ro_int (va_runV (As := [.int p0]) (rest := [.int x3]) ⟨hx, hb, hml, hown, hts⟩ (h_X3_isRowSo g ad (((sCase (mS σ)), (sAsked (mS σ)), (sNq (mS σ)), (sNw (mS σ)), (sNh (mS σ)), (sForm (mS σ)), (sFirst (mS σ)), (sSecond (mS σ)), (upd s_S_kind (p0).toNatClampNeg x4), (sFigure (mS σ)), (sKnows (mS σ)), (sWhom (mS σ)), (sWhat (mS σ)), (sSaid (mS σ)), (sWhen (mS σ))), (mT σ), (mK σ), (mF σ), (mRow σ), (mRowMany σ), (mLots σ), (mRefused σ)) p0 h8) (cwV 1 hts gX3_kindsOf_X3_isRowSo rfl rfl rfl (by decide +kernel) ⟨Nat.le_of_ble_eq_true rfl, Nat.le_of_ble_eq_true rfl⟩) ⟨RO_blind, va_recv hK hP (ci := 3) (q0 := 0) rfl rfl, fun U hU hW => ⟨rfl, by rw [hU]; exact hPc, va_K.moved hW.alike hK, hE.call hW hU hS (fun _ h => h.elim)⟩⟩ rfl rfl hl.1 rfl (lv_room (Nat.le_of_ble_eq_true rfl)) dX3_kindsOf_30 ⟨Nat.le_of_ble_eq_true rfl, Nat.le_of_ble_eq_true rfl⟩) hS hP (fun r H locs hw hP hS => ?_)
      subst r
      refine lv_if_eq (tgt := 43) hx hb dX3_kindsOf_33 (by decide) (fun c33 => ?_) (fun c33 => ?_)
      · have hv := hv.1 c33
        refine lv_iconst (v := 0) hx hb dX3_kindsOf_43 (by decide) ?_
        refine lv_ior hx hb dX3_kindsOf_44 ?_
        refine lv_istore_n (lv' := [(3, .int (x3 ||| 0)), (0, .ref (ad 0)), (1, .int p0), (2, .int x2), (4, .int x4)]) hx hb dX3_kindsOf_45 rfl hl (by decide) rfl (fun ls hl => ?_)
        refine lv_iinc (v := (x4 + 1)) (lv' := [(4, .int (x4 + 1)), (3, .int (x3 ||| 0)), (0, .ref (ad 0)), (1, .int p0), (2, .int x2)]) hx hb dX3_kindsOf_46 hl (k := 4) rfl (by first | rfl | exact congrArg _ (by decide)) (by decide) rfl (fun ls hl => ?_)
        refine lv_goto (tgt := 12) hx hb dX3_kindsOf_49 (by decide) ?_
        exact hv H locs ls hP hD hS (lv_sub hl [2, 3, 4, 1, 0] rfl)
      · have hv := hv.2 c33
        refine lv_iconst (v := 1) hx hb dX3_kindsOf_36 (by decide) ?_
        refine lv_iload hx hb dX3_kindsOf_37 (lv_at hl 4 rfl) ?_
        refine lv_ishl hx hb dX3_kindsOf_39 ?_
        refine lv_goto (tgt := 44) hx hb dX3_kindsOf_40 (by decide) ?_
        refine lv_ior hx hb dX3_kindsOf_44 ?_
        refine lv_istore_n (lv' := [(3, .int (x3 ||| (1 <<< (x4 &&& 31)))), (0, .ref (ad 0)), (1, .int p0), (2, .int x2), (4, .int x4)]) hx hb dX3_kindsOf_45 rfl hl (by decide) rfl (fun ls hl => ?_)
        refine lv_iinc (v := (x4 + 1)) (lv' := [(4, .int (x4 + 1)), (3, .int (x3 ||| (1 <<< (x4 &&& 31)))), (0, .ref (ad 0)), (1, .int p0), (2, .int x2)]) hx hb dX3_kindsOf_46 hl (k := 4) rfl (by first | rfl | exact congrArg _ (by decide)) (by decide) rfl (fun ls hl => ?_)
        refine lv_goto (tgt := 12) hx hb dX3_kindsOf_49 (by decide) ?_
        exact hv H locs ls hP hD hS (lv_sub hl [2, 3, 4, 1, 0] rfl))
  obtain ⟨H, hH⟩ : ∃ z, z = s.heap := ⟨_, rfl⟩
  obtain ⟨locs, hL⟩ : ∃ z : List Loc, z = [] := ⟨_, rfl⟩
  rw [← hL] at hS ⊢
  have hS : va_S (AD ad 0 21) s.heap H locs := by rw [hH]; exact hS
  rw [← hH] at hP ⊢
  clear hH hL
  refine lv_aload_n hx hb dX3_kindsOf_0 rfl (lv_at hl 0 rfl) ?_
  refine va_get (D := gD g) (ci := 3) (v := .ref (ad 5)) (C := RX3) (T := TX3) (N := 33) hx hb hts hi3 hown hK hP 0 rfl rfl 4 (by decide) k0 (fun _ h9 => h9) rfl dX3_kindsOf_1 ?_
  refine lv_iload_n hx hb dX3_kindsOf_4 rfl (lv_at hl 1 rfl) ?_
  have h9 := hv.1
  have hv := hv.2
  refine va_iald (f := (sKind (mS σ))) (n := 5) hx hb hK hP 5 0 rfl rfl h9 dX3_kindsOf_5 ?_
  refine lv_istore_n (lv' := [(2, .int ((sKind (mS σ)) (p0).toNatClampNeg)), (0, .ref (ad 0)), (1, .int p0)]) hx hb dX3_kindsOf_6 rfl hl (by decide) rfl (fun ls hl => ?_)
  refine lv_iconst (v := 0) hx hb dX3_kindsOf_7 (by decide) ?_
  refine lv_istore_n (lv' := [(3, .int 0), (2, .int ((sKind (mS σ)) (p0).toNatClampNeg)), (0, .ref (ad 0)), (1, .int p0)]) hx hb dX3_kindsOf_8 rfl hl (by decide) rfl (fun ls hl => ?_)
  refine lv_iconst (v := 0) hx hb dX3_kindsOf_9 (by decide) ?_
  refine lv_istore (lv' := [(4, .int 0), (3, .int 0), (2, .int ((sKind (mS σ)) (p0).toNatClampNeg)), (0, .ref (ad 0)), (1, .int p0)]) hx hb dX3_kindsOf_10 hl (by decide) rfl (fun ls hl => ?_)
  exact hv H locs ls hP hD hS (lv_sub hl [3, 4, 2, 1, 0] rfl)

set_option maxHeartbeats 4000000 in
set_option maxRecDepth 100000 in
theorem m_X3_whatIs (l : Launch) (h_X3_isIn : C_X3_isIn l) (h_X3_isRowSo : C_X3_isRowSo l) (h_X3_isWitness : C_X3_isWitness l) (h_X3_kindsOf : C_X3_kindsOf l) (h_X3_no : C_X3_no l) (g : CX) (ad : Nat → Nat) (σ : KM) (p0 : Int32) (p1 : Int32) (Post : Int32 → KM → Prop) (hv : vc_X3_whatIs σ p0 p1 Post) : Met l yX3_whatIs wsX3_whatIs { frames := 6, cells := 0, slots := 0, locals := 139 } (va_Pc [.ref (ad 0), .int p0, .int p1] (RW g (AD ad 0 21) (wM g ad σ))) (va_Qi (fun (r : Int32) (u : KM) => Post r u) (fun u t => va_P (gD g) vwCl (wM g ad u) t.heap) (AD ad 0 21)) 0 0 (AD ad 0 21) := by
  unfold vc_X3_whatIs at hv
  refine Met.ofW (cc := cX3_whatIs) (maxL := 7) (ret := (some .int)) (by decide) rfl ?_
  intro p e s m args below meth c s₁ B hml hv0
  obtain ⟨rfl, hP, hK, hE, hD⟩ := hv0
  have hx := B.exec
  have hb := B.bytes
  have hr := B.returns
  have hts := atoms_spec (ws := wsX3_whatIs) B.pre
  have hown : s.vm.findClass RX3 = some m.cls := findClass_of_methodNamed B.named
  have hlocks := B.notSynchronized
  have hi3 : ∀ w ∈ wsX30, w ∈ wsX3_whatIs := by decide +kernel
  have k0 := hts (.fieldLink RX3 266 "JuryHearsAnswersModel" "rowMany" "I") (by decide +kernel)
  have k1 := hts (.fieldLink RX3 70 "JuryHearsAnswersModel" "questions" "I") (by decide +kernel)
  have k2 := hts (.fieldLink RX3 28 "JuryHearsAnswersModel" "knows" "[I") (by decide +kernel)
  have hS : va_S (AD ad 0 21) s.heap s.heap [] := va_S.rf
  have hP : va_P (gD g) vwCl (wM g ad σ) s.heap := hP
  have hl := lv_entry ([.ref (ad 0), .int p0, .int p1]) (n := 7) (Nat.le_of_ble_eq_true rfl)
  rw [lg_entry_eq]
  generalize (lg_sl ([.ref (ad 0), .int p0, .int p1]) ++ List.replicate (7 - (lg_sl ([.ref (ad 0), .int p0, .int p1])).length) Slot.unset).toArray = ls at hl ⊢
  have hl : lv_has ls 7 [(0, .ref (ad 0)), (1, .int p0), (2, .int p1)] := hl
  have hv := hv (fun (x4 : Int32) (x5 : Int32) (x6 : Int32) (s_S_kind : FI) (s_S_knows : FI) (s_refused : FI) => ∀ (H : Heap) (locs : List Loc) (ls : Array Slot), va_P (gD g) vwCl (wM g ad (((sCase (mS σ)), (sAsked (mS σ)), (sNq (mS σ)), (sNw (mS σ)), (sNh (mS σ)), (sForm (mS σ)), (sFirst (mS σ)), (sSecond (mS σ)), s_S_kind, (sFigure (mS σ)), s_S_knows, (sWhom (mS σ)), (sWhat (mS σ)), (sSaid (mS σ)), (sWhen (mS σ))), (mT σ), (mK σ), (mF σ), (mRow σ), (mRowMany σ), (mLots σ), s_refused)) H → va_D (AD ad 0 21) (wM g ad (((sCase (mS σ)), (sAsked (mS σ)), (sNq (mS σ)), (sNw (mS σ)), (sNh (mS σ)), (sForm (mS σ)), (sFirst (mS σ)), (sSecond (mS σ)), s_S_kind, (sFigure (mS σ)), s_S_knows, (sWhom (mS σ)), (sWhat (mS σ)), (sSaid (mS σ)), (sWhen (mS σ))), (mT σ), (mK σ), (mF σ), (mRow σ), (mRowMany σ), (mLots σ), s_refused)) → va_S (AD ad 0 21) s.heap H locs → lv_has ls 7 [(0, .ref (ad 0)), (1, .int p0), (4, .int x4), (5, .int x5), (6, .int x6)] → W p l e { frames := 6, cells := 0, slots := 0, locals := 139 } s m ([.ref (ad 0), .int p0, .int p1] : List Value).toArray below meth c H locs 0 0 (MQ below (va_Qi (fun (r : Int32) (u : KM) => Post r u) (fun u t => va_P (gD g) vwCl (wM g ad u) t.heap) (AD ad 0 21)) ([.ref (ad 0), .int p0, .int p1] : List Value).toArray s 0 0 (AD ad 0 21)) (F0 m 78 ls []))
  have hv := hv (by
    intro x4 x5 x6 s_S_kind s_S_knows s_refused hv H locs ls hP hD hS hl
    refine lv_iload hx hb dX3_whatIs_78 (lv_at hl 4 rfl) ?_
    refine lv_bipush (v := 64) hx hb dX3_whatIs_80 (by decide) ?_
    refine lv_icmp_ge (tgt := 117) hx hb dX3_whatIs_82 (by decide) (fun c82 => ?_) (fun c82 => ?_)
    · have hv := hv.1 c82
      refine lv_aload_n hx hb dX3_whatIs_117 rfl (lv_at hl 0 rfl) ?_
      refine va_get (D := gD g) (ci := 3) (v := .ref (ad 7)) (C := RX3) (T := TX3) (N := 33) hx hb hts hi3 hown hK hP 0 rfl rfl 6 (by decide) k2 (fun _ h9 => h9) rfl dX3_whatIs_118 ?_
      refine lv_iload_n hx hb dX3_whatIs_121 rfl (lv_at hl 1 rfl) ?_
      refine lv_iload hx hb dX3_whatIs_122 (lv_at hl 2 rfl) ?_
      have h9 := hv.1
      have hv := hv.2
      refine va_iast (f := s_S_knows) (n := 5) hx hb hK hP hD hS 7 0 rfl rfl h9 dX3_whatIs_124 (fun H locs hP hD hS => ?_)
      have hP : va_P (gD g) vwCl (wM g ad (((sCase (mS σ)), (sAsked (mS σ)), (sNq (mS σ)), (sNw (mS σ)), (sNh (mS σ)), (sForm (mS σ)), (sFirst (mS σ)), (sSecond (mS σ)), s_S_kind, (sFigure (mS σ)), (upd s_S_knows (p0).toNatClampNeg x4), (sWhom (mS σ)), (sWhat (mS σ)), (sSaid (mS σ)), (sWhen (mS σ))), (mT σ), (mK σ), (mF σ), (mRow σ), (mRowMany σ), (mLots σ), s_refused)) H := hP
      have hD : va_D (AD ad 0 21) (wM g ad (((sCase (mS σ)), (sAsked (mS σ)), (sNq (mS σ)), (sNw (mS σ)), (sNh (mS σ)), (sForm (mS σ)), (sFirst (mS σ)), (sSecond (mS σ)), s_S_kind, (sFigure (mS σ)), (upd s_S_knows (p0).toNatClampNeg x4), (sWhom (mS σ)), (sWhat (mS σ)), (sSaid (mS σ)), (sWhen (mS σ))), (mT σ), (mK σ), (mF σ), (mRow σ), (mRowMany σ), (mLots σ), s_refused)) := hD
      refine lv_iload hx hb dX3_whatIs_125 (lv_at hl 3 rfl) ?_
      exact W.iret (v := x5) hx hb hr (fun t ht hW => ⟨⟨x5, (((sCase (mS σ)), (sAsked (mS σ)), (sNq (mS σ)), (sNw (mS σ)), (sNh (mS σ)), (sForm (mS σ)), (sFirst (mS σ)), (sSecond (mS σ)), s_S_kind, (sFigure (mS σ)), (upd s_S_knows (p0).toNatClampNeg x4), (sWhom (mS σ)), (sWhat (mS σ)), (sSaid (mS σ)), (sWhen (mS σ))), (mT σ), (mK σ), (mF σ), (mRow σ), (mRowMany σ), (mLots σ), s_refused), rfl, hv, P_at ht hP⟩, hS.F ht⟩) hS.2.2 dX3_whatIs_127
    · have hv := hv.2 c82
      refine lv_aload_n hx hb dX3_whatIs_85 rfl (lv_at hl 0 rfl) ?_
      refine va_get (D := gD g) (ci := 3) (v := .ref (ad 7)) (C := RX3) (T := TX3) (N := 33) hx hb hts hi3 hown hK hP 0 rfl rfl 6 (by decide) k2 (fun _ h9 => h9) rfl dX3_whatIs_86 ?_
      refine lv_iload_n hx hb dX3_whatIs_89 rfl (lv_at hl 1 rfl) ?_
      refine lv_iload hx hb dX3_whatIs_90 (lv_at hl 4 rfl) ?_
      have h9 := hv.1
      have hv := hv.2
      refine va_iast (f := s_S_knows) (n := 5) hx hb hK hP hD hS 7 0 rfl rfl h9 dX3_whatIs_92 (fun H locs hP hD hS => ?_)
      have hP : va_P (gD g) vwCl (wM g ad (((sCase (mS σ)), (sAsked (mS σ)), (sNq (mS σ)), (sNw (mS σ)), (sNh (mS σ)), (sForm (mS σ)), (sFirst (mS σ)), (sSecond (mS σ)), s_S_kind, (sFigure (mS σ)), (upd s_S_knows (p0).toNatClampNeg x6), (sWhom (mS σ)), (sWhat (mS σ)), (sSaid (mS σ)), (sWhen (mS σ))), (mT σ), (mK σ), (mF σ), (mRow σ), (mRowMany σ), (mLots σ), s_refused)) H := hP
      have hD : va_D (AD ad 0 21) (wM g ad (((sCase (mS σ)), (sAsked (mS σ)), (sNq (mS σ)), (sNw (mS σ)), (sNh (mS σ)), (sForm (mS σ)), (sFirst (mS σ)), (sSecond (mS σ)), s_S_kind, (sFigure (mS σ)), (upd s_S_knows (p0).toNatClampNeg x6), (sWhom (mS σ)), (sWhat (mS σ)), (sSaid (mS σ)), (sWhen (mS σ))), (mT σ), (mK σ), (mF σ), (mRow σ), (mRowMany σ), (mLots σ), s_refused)) := hD
      refine lv_iload hx hb dX3_whatIs_93 (lv_at hl 3 rfl) ?_
      refine lv_aload_n hx hb dX3_whatIs_95 rfl (lv_at hl 0 rfl) ?_
      refine lv_iload_n hx hb dX3_whatIs_96 rfl (lv_at hl 1 rfl) ?_
      have h8 := hv.1
      have hv := hv.2
      have hPc := hP
      refine ro_int (va_runV (As := [.int p0]) (rest := [.int x5]) ⟨hx, hb, hml, hown, hts⟩ (h_X3_isRowSo g ad (((sCase (mS σ)), (sAsked (mS σ)), (sNq (mS σ)), (sNw (mS σ)), (sNh (mS σ)), (sForm (mS σ)), (sFirst (mS σ)), (sSecond (mS σ)), s_S_kind, (sFigure (mS σ)), (upd s_S_knows (p0).toNatClampNeg x6), (sWhom (mS σ)), (sWhat (mS σ)), (sSaid (mS σ)), (sWhen (mS σ))), (mT σ), (mK σ), (mF σ), (mRow σ), (mRowMany σ), (mLots σ), s_refused) p0 h8) (cwV 1 hts gX3_whatIs_X3_isRowSo rfl rfl rfl (by decide +kernel) ⟨Nat.le_of_ble_eq_true rfl, Nat.le_of_ble_eq_true rfl⟩) ⟨RO_blind, va_recv hK hP (ci := 3) (q0 := 0) rfl rfl, fun U hU hW => ⟨rfl, by rw [hU]; exact hPc, va_K.moved hW.alike hK, hE.call hW hU hS (fun _ h => h.elim)⟩⟩ rfl rfl hl.1 rfl (lv_room (Nat.le_of_ble_eq_true rfl)) dX3_whatIs_97 ⟨Nat.le_of_ble_eq_true rfl, Nat.le_of_ble_eq_true rfl⟩) hS hP (fun r H locs hw hP hS => ?_)
      subst r
      refine lv_if_eq (tgt := 107) hx hb dX3_whatIs_100 (by decide) (fun c100 => ?_) (fun c100 => ?_)
      · have hv := hv.1 c100
        refine lv_iconst (v := 0) hx hb dX3_whatIs_107 (by decide) ?_
        refine lv_iadd hx hb dX3_whatIs_108 ?_
        refine lv_istore (lv' := [(5, .int (x5 + 0)), (0, .ref (ad 0)), (1, .int p0), (4, .int x4), (6, .int x6)]) hx hb dX3_whatIs_109 hl (by decide) rfl (fun ls hl => ?_)
        refine lv_iinc (v := (x6 + 1)) (lv' := [(6, .int (x6 + 1)), (5, .int (x5 + 0)), (0, .ref (ad 0)), (1, .int p0), (4, .int x4)]) hx hb dX3_whatIs_111 hl (k := 4) rfl (by first | rfl | exact congrArg _ (by decide)) (by decide) rfl (fun ls hl => ?_)
        refine lv_goto (tgt := 78) hx hb dX3_whatIs_114 (by decide) ?_
        exact hv H locs ls hP hD hS (lv_sub hl [2, 3, 4, 1, 0] rfl)
      · have hv := hv.2 c100
        refine lv_iconst (v := 1) hx hb dX3_whatIs_103 (by decide) ?_
        refine lv_goto (tgt := 108) hx hb dX3_whatIs_104 (by decide) ?_
        refine lv_iadd hx hb dX3_whatIs_108 ?_
        refine lv_istore (lv' := [(5, .int (x5 + 1)), (0, .ref (ad 0)), (1, .int p0), (4, .int x4), (6, .int x6)]) hx hb dX3_whatIs_109 hl (by decide) rfl (fun ls hl => ?_)
        refine lv_iinc (v := (x6 + 1)) (lv' := [(6, .int (x6 + 1)), (5, .int (x5 + 1)), (0, .ref (ad 0)), (1, .int p0), (4, .int x4)]) hx hb dX3_whatIs_111 hl (k := 4) rfl (by first | rfl | exact congrArg _ (by decide)) (by decide) rfl (fun ls hl => ?_)
        refine lv_goto (tgt := 78) hx hb dX3_whatIs_114 (by decide) ?_
        exact hv H locs ls hP hD hS (lv_sub hl [2, 3, 4, 1, 0] rfl))
  obtain ⟨H, hH⟩ : ∃ z, z = s.heap := ⟨_, rfl⟩
  obtain ⟨locs, hL⟩ : ∃ z : List Loc, z = [] := ⟨_, rfl⟩
  rw [← hL] at hS ⊢
  have hS : va_S (AD ad 0 21) s.heap H locs := by rw [hH]; exact hS
  rw [← hH] at hP ⊢
  clear hH hL
  refine lv_aload_n hx hb dX3_whatIs_0 rfl (lv_at hl 0 rfl) ?_
  refine lv_iload_n hx hb dX3_whatIs_1 rfl (lv_at hl 1 rfl) ?_
  have hPc := hP
  refine ro_int (va_runV (As := [.int p0]) (rest := []) ⟨hx, hb, hml, hown, hts⟩ (h_X3_isWitness g ad σ p0) (cwV 1 hts gX3_whatIs_X3_isWitness rfl rfl rfl (by decide +kernel) ⟨Nat.le_of_ble_eq_true rfl, Nat.le_of_ble_eq_true rfl⟩) ⟨RO_blind, va_recv hK hP (ci := 3) (q0 := 0) rfl rfl, fun U hU hW => ⟨rfl, by rw [hU]; exact hPc, va_K.moved hW.alike hK, hE.call hW hU hS (fun _ h => h.elim)⟩⟩ rfl rfl hl.1 rfl (lv_room (Nat.le_of_ble_eq_true rfl)) dX3_whatIs_2 ⟨Nat.le_of_ble_eq_true rfl, Nat.le_of_ble_eq_true rfl⟩) hS hP (fun r H locs hw hP hS => ?_)
  subst r
  refine lv_if_ne (tgt := 12) hx hb dX3_whatIs_5 (by decide) (fun c5 => ?_) (fun c5 => ?_)
  · have hv := hv.1 c5
    refine lv_iload_n hx hb dX3_whatIs_12 rfl (lv_at hl 2 rfl) ?_
    refine lv_iconst (v := 0) hx hb dX3_whatIs_13 (by decide) ?_
    refine lv_iconst (v := 1) hx hb dX3_whatIs_14 (by decide) ?_
    have hPc : va_P (gD g) vwCl [] H := fun k q h => by simp at h
    refine ro_int (va_runS (As := [.int p1, .int 0, .int 1]) (rest := []) ⟨hx, hb, hml, hown, hts⟩ (h_X3_isIn g p1 0 1) (va_cwS 3 hts gX3_whatIs_X3_isIn rfl rfl rfl (by decide +kernel) ⟨Nat.le_of_ble_eq_true rfl, Nat.le_of_ble_eq_true rfl⟩) ⟨RO_blind, fun U hU hW => ⟨rfl, by rw [hU]; exact hPc, va_K.moved hW.alike hK, hE.call hW hU hS (fun _ h => h.elim)⟩⟩ rfl rfl hl.1 rfl (lv_room (Nat.le_of_ble_eq_true rfl)) dX3_whatIs_15 ⟨Nat.le_of_ble_eq_true rfl, Nat.le_of_ble_eq_true rfl⟩) hS hP (fun r H locs hw hP hS => ?_)
    subst r
    refine lv_if_ne (tgt := 26) hx hb dX3_whatIs_18 (by decide) (fun c18 => ?_) (fun c18 => ?_)
    · have hv := hv.1 c18
      refine lv_aload_n hx hb dX3_whatIs_26 rfl (lv_at hl 0 rfl) ?_
      refine va_get (D := gD g) (ci := 3) (v := .int (mRowMany σ)) (C := RX3) (T := TX3) (N := 33) hx hb hts hi3 hown hK hP 0 rfl rfl 31 (by decide) k0 (fun _ h9 => h9) rfl dX3_whatIs_27 ?_
      refine lv_aload_n hx hb dX3_whatIs_30 rfl (lv_at hl 0 rfl) ?_
      refine va_get (D := gD g) (ci := 3) (v := .int (sNq (mS σ))) (C := RX3) (T := TX3) (N := 33) hx hb hts hi3 hown hK hP 0 rfl rfl 12 (by decide) k1 (fun _ h9 => h9) rfl dX3_whatIs_31 ?_
      refine lv_icmp_le (tgt := 42) hx hb dX3_whatIs_34 (by decide) (fun c34 => ?_) (fun c34 => ?_)
      · have hv := hv.1 c34
        refine lv_iconst (v := 0) hx hb dX3_whatIs_42 (by decide) ?_
        refine lv_istore_n (lv' := [(3, .int 0), (0, .ref (ad 0)), (1, .int p0), (2, .int p1)]) hx hb dX3_whatIs_43 rfl hl (by decide) rfl (fun ls hl => ?_)
        refine lv_iload_n hx hb dX3_whatIs_44 rfl (lv_at hl 0 rfl) ?_
        refine lv_if_eq (tgt := 54) hx hb dX3_whatIs_45 (by decide) (fun c45 => ?_) (fun c45 => ?_)
        · refine lv_iload_n hx hb dX3_whatIs_54 rfl (lv_at hl 3 rfl) ?_
          refine lv_if_ne (tgt := 64) hx hb dX3_whatIs_55 (by decide) (fun c55 => ?_) (fun c55 => ?_)
          · have hv := hv.1 c55
            refine lv_aload_n hx hb dX3_whatIs_64 rfl (lv_at hl 1 rfl) ?_
            refine va_get (D := gD g) (ci := 3) (v := .ref (ad 7)) (C := RX3) (T := TX3) (N := 33) hx hb hts hi3 hown hK hP 0 rfl rfl 6 (by decide) k2 (fun _ h9 => h9) rfl dX3_whatIs_65 ?_
            refine lv_iload_n hx hb dX3_whatIs_68 rfl (lv_at hl 2 rfl) ?_
            have h9 := hv.1
            have hv := hv.2
            refine va_iald (f := (sKnows (mS σ))) (n := 5) hx hb hK hP 7 0 rfl rfl h9 dX3_whatIs_69 ?_
            refine lv_istore (lv' := [(4, .int ((sKnows (mS σ)) (p0).toNatClampNeg)), (3, .int 0), (0, .ref (ad 0)), (1, .int p0), (2, .int p1)]) hx hb dX3_whatIs_70 hl (by decide) rfl (fun ls hl => ?_)
            refine lv_iconst (v := 0) hx hb dX3_whatIs_72 (by decide) ?_
            refine lv_istore (lv' := [(5, .int 0), (4, .int ((sKnows (mS σ)) (p0).toNatClampNeg)), (3, .int 0), (0, .ref (ad 0)), (1, .int p0), (2, .int p1)]) hx hb dX3_whatIs_73 hl (by decide) rfl (fun ls hl => ?_)
            refine lv_iconst (v := 0) hx hb dX3_whatIs_75 (by decide) ?_
            refine lv_istore (lv' := [(6, .int 0), (5, .int 0), (4, .int ((sKnows (mS σ)) (p0).toNatClampNeg)), (3, .int 0), (0, .ref (ad 0)), (1, .int p0), (2, .int p1)]) hx hb dX3_whatIs_76 hl (by decide) rfl (fun ls hl => ?_)
            exact hv H locs ls hP hD hS (lv_sub hl [4, 5, 2, 1, 0] rfl)
          · have hv := hv.2 c55
            refine lv_aload_n hx hb dX3_whatIs_58 rfl (lv_at hl 1 rfl) ?_
            refine lv_iload_n hx hb dX3_whatIs_59 rfl (lv_at hl 2 rfl) ?_
            have h8 := hv.1
            have hv := hv.2
            have hPc := hP
            have hDc := hD
            refine rw_int (va_runV (As := [.int p0]) (rest := []) ⟨hx, hb, hml, hown, hts⟩ (h_X3_kindsOf g ad σ p0 h8) (cwV 1 hts gX3_whatIs_X3_kindsOf rfl rfl rfl (by decide +kernel) ⟨Nat.le_of_ble_eq_true rfl, Nat.le_of_ble_eq_true rfl⟩) ⟨RW_blind, va_recv hK hP (ci := 3) (q0 := 0) rfl rfl, fun U hU hW => ⟨rfl, by rw [hU]; exact hPc, va_K.moved hW.alike hK, hE.call hW hU hS (fun _ h => h), hDc⟩⟩ rfl rfl hl.1 rfl (lv_room (Nat.le_of_ble_eq_true rfl)) dX3_whatIs_60 ⟨Nat.le_of_ble_eq_true rfl, Nat.le_of_ble_eq_true rfl⟩) hS (fun _ h => h) (fun r u H1 locs hw hP1 hk hS => ?_)
            obtain ⟨hw1, hw⟩ := hw; subst r; subst u
            have hP := hP1
            generalize H1 = H at hP hS ⊢
            have hP : va_P (gD g) vwCl (wM g ad σ) H := hP
            have hD : va_D (AD ad 0 21) (wM g ad σ) := hD.addr (by rfl)
            exact W.iret (v := (kindsV (mS σ) (mRow σ) (mRowMany σ) p0)) hx hb hr (fun t ht hW => ⟨⟨(kindsV (mS σ) (mRow σ) (mRowMany σ) p0), σ, rfl, hv, P_at ht hP⟩, hS.F ht⟩) hS.2.2 dX3_whatIs_63
        · exact (c45 (by decide)).elim
      · have hv := hv.2 c34
        refine lv_bipush (v := (-3)) hx hb dX3_whatIs_37 (by decide) ?_
        refine lv_goto (tgt := 43) hx hb dX3_whatIs_39 (by decide) ?_
        refine lv_istore_n (lv' := [(3, .int (-3)), (0, .ref (ad 0)), (1, .int p0), (2, .int p1)]) hx hb dX3_whatIs_43 rfl hl (by decide) rfl (fun ls hl => ?_)
        refine lv_iload_n hx hb dX3_whatIs_44 rfl (lv_at hl 0 rfl) ?_
        refine lv_if_eq (tgt := 54) hx hb dX3_whatIs_45 (by decide) (fun c45 => ?_) (fun c45 => ?_)
        · exact absurd c45 (by decide)
        · refine lv_aload_n hx hb dX3_whatIs_48 rfl (lv_at hl 1 rfl) ?_
          refine lv_iload_n hx hb dX3_whatIs_49 rfl (lv_at hl 0 rfl) ?_
          have h8 := hv.1
          have hv := hv.2
          have hPc := hP
          have hDc := hD
          refine rw_int (va_runV (As := [.int (-3)]) (rest := []) ⟨hx, hb, hml, hown, hts⟩ (h_X3_no g ad σ (-3) h8) (cwV 1 hts gX3_whatIs_X3_no rfl rfl rfl (by decide +kernel) ⟨Nat.le_of_ble_eq_true rfl, Nat.le_of_ble_eq_true rfl⟩) ⟨RW_blind, va_recv hK hP (ci := 3) (q0 := 0) rfl rfl, fun U hU hW => ⟨rfl, by rw [hU]; exact hPc, va_K.moved hW.alike hK, hE.call hW hU hS (fun _ h => h), hDc⟩⟩ rfl rfl hl.1 rfl (lv_room (Nat.le_of_ble_eq_true rfl)) dX3_whatIs_50 ⟨Nat.le_of_ble_eq_true rfl, Nat.le_of_ble_eq_true rfl⟩) hS (fun _ h => h) (fun r u H1 locs hw hP1 hk hS => ?_)
          obtain ⟨hw1, hw⟩ := hw; subst r; subst u
          have hP := hP1
          generalize H1 = H at hP hS ⊢
          have hP : va_P (gD g) vwCl (wM g ad ((mS σ), (mT σ), (mK σ), (mF σ), (mRow σ), (mRowMany σ), (mLots σ), (refuX (mRefused σ) ((-3) : Int32)))) H := hP
          have hD : va_D (AD ad 0 21) (wM g ad ((mS σ), (mT σ), (mK σ), (mF σ), (mRow σ), (mRowMany σ), (mLots σ), (refuX (mRefused σ) ((-3) : Int32)))) := hD.addr (by rfl)
          exact W.iret (v := (((-3) : Int32))) hx hb hr (fun t ht hW => ⟨⟨(((-3) : Int32)), ((mS σ), (mT σ), (mK σ), (mF σ), (mRow σ), (mRowMany σ), (mLots σ), (refuX (mRefused σ) ((-3) : Int32))), rfl, hv, P_at ht hP⟩, hS.F ht⟩) hS.2.2 dX3_whatIs_53
    · have hv := hv.2 c18
      refine lv_bipush (v := (-2)) hx hb dX3_whatIs_21 (by decide) ?_
      refine lv_goto (tgt := 43) hx hb dX3_whatIs_23 (by decide) ?_
      refine lv_istore_n (lv' := [(3, .int (-2)), (0, .ref (ad 0)), (1, .int p0), (2, .int p1)]) hx hb dX3_whatIs_43 rfl hl (by decide) rfl (fun ls hl => ?_)
      refine lv_iload_n hx hb dX3_whatIs_44 rfl (lv_at hl 0 rfl) ?_
      refine lv_if_eq (tgt := 54) hx hb dX3_whatIs_45 (by decide) (fun c45 => ?_) (fun c45 => ?_)
      · exact absurd c45 (by decide)
      · refine lv_aload_n hx hb dX3_whatIs_48 rfl (lv_at hl 1 rfl) ?_
        refine lv_iload_n hx hb dX3_whatIs_49 rfl (lv_at hl 0 rfl) ?_
        have h8 := hv.1
        have hv := hv.2
        have hPc := hP
        have hDc := hD
        refine rw_int (va_runV (As := [.int (-2)]) (rest := []) ⟨hx, hb, hml, hown, hts⟩ (h_X3_no g ad σ (-2) h8) (cwV 1 hts gX3_whatIs_X3_no rfl rfl rfl (by decide +kernel) ⟨Nat.le_of_ble_eq_true rfl, Nat.le_of_ble_eq_true rfl⟩) ⟨RW_blind, va_recv hK hP (ci := 3) (q0 := 0) rfl rfl, fun U hU hW => ⟨rfl, by rw [hU]; exact hPc, va_K.moved hW.alike hK, hE.call hW hU hS (fun _ h => h), hDc⟩⟩ rfl rfl hl.1 rfl (lv_room (Nat.le_of_ble_eq_true rfl)) dX3_whatIs_50 ⟨Nat.le_of_ble_eq_true rfl, Nat.le_of_ble_eq_true rfl⟩) hS (fun _ h => h) (fun r u H1 locs hw hP1 hk hS => ?_)
        obtain ⟨hw1, hw⟩ := hw; subst r; subst u
        have hP := hP1
        generalize H1 = H at hP hS ⊢
        have hP : va_P (gD g) vwCl (wM g ad ((mS σ), (mT σ), (mK σ), (mF σ), (mRow σ), (mRowMany σ), (mLots σ), (refuX (mRefused σ) ((-2) : Int32)))) H := hP
        have hD : va_D (AD ad 0 21) (wM g ad ((mS σ), (mT σ), (mK σ), (mF σ), (mRow σ), (mRowMany σ), (mLots σ), (refuX (mRefused σ) ((-2) : Int32)))) := hD.addr (by rfl)
        exact W.iret (v := (((-2) : Int32))) hx hb hr (fun t ht hW => ⟨⟨(((-2) : Int32)), ((mS σ), (mT σ), (mK σ), (mF σ), (mRow σ), (mRowMany σ), (mLots σ), (refuX (mRefused σ) ((-2) : Int32))), rfl, hv, P_at ht hP⟩, hS.F ht⟩) hS.2.2 dX3_whatIs_53
  · have hv := hv.2 c5
    refine lv_iconst (v := (-1)) hx hb dX3_whatIs_8 (by decide) ?_
    refine lv_goto (tgt := 43) hx hb dX3_whatIs_9 (by decide) ?_
    refine lv_istore_n (lv' := [(3, .int (-1)), (0, .ref (ad 0)), (1, .int p0), (2, .int p1)]) hx hb dX3_whatIs_43 rfl hl (by decide) rfl (fun ls hl => ?_)
    refine lv_iload_n hx hb dX3_whatIs_44 rfl (lv_at hl 0 rfl) ?_
    refine lv_if_eq (tgt := 54) hx hb dX3_whatIs_45 (by decide) (fun c45 => ?_) (fun c45 => ?_)
    · exact absurd c45 (by decide)
    · refine lv_aload_n hx hb dX3_whatIs_48 rfl (lv_at hl 1 rfl) ?_
      refine lv_iload_n hx hb dX3_whatIs_49 rfl (lv_at hl 0 rfl) ?_
      have h8 := hv.1
      have hv := hv.2
      have hPc := hP
      have hDc := hD
      refine rw_int (va_runV (As := [.int (-1)]) (rest := []) ⟨hx, hb, hml, hown, hts⟩ (h_X3_no g ad σ (-1) h8) (cwV 1 hts gX3_whatIs_X3_no rfl rfl rfl (by decide +kernel) ⟨Nat.le_of_ble_eq_true rfl, Nat.le_of_ble_eq_true rfl⟩) ⟨RW_blind, va_recv hK hP (ci := 3) (q0 := 0) rfl rfl, fun U hU hW => ⟨rfl, by rw [hU]; exact hPc, va_K.moved hW.alike hK, hE.call hW hU hS (fun _ h => h), hDc⟩⟩ rfl rfl hl.1 rfl (lv_room (Nat.le_of_ble_eq_true rfl)) dX3_whatIs_50 ⟨Nat.le_of_ble_eq_true rfl, Nat.le_of_ble_eq_true rfl⟩) hS (fun _ h => h) (fun r u H1 locs hw hP1 hk hS => ?_)
      obtain ⟨hw1, hw⟩ := hw; subst r; subst u
      have hP := hP1
      generalize H1 = H at hP hS ⊢
      have hP : va_P (gD g) vwCl (wM g ad ((mS σ), (mT σ), (mK σ), (mF σ), (mRow σ), (mRowMany σ), (mLots σ), (refuX (mRefused σ) ((-1) : Int32)))) H := hP
      have hD : va_D (AD ad 0 21) (wM g ad ((mS σ), (mT σ), (mK σ), (mF σ), (mRow σ), (mRowMany σ), (mLots σ), (refuX (mRefused σ) ((-1) : Int32)))) := hD.addr (by rfl)
      exact W.iret (v := (((-1) : Int32))) hx hb hr (fun t ht hW => ⟨⟨(((-1) : Int32)), ((mS σ), (mT σ), (mK σ), (mF σ), (mRow σ), (mRowMany σ), (mLots σ), (refuX (mRefused σ) ((-1) : Int32))), rfl, hv, P_at ht hP⟩, hS.F ht⟩) hS.2.2 dX3_whatIs_53

set_option maxHeartbeats 4000000 in
set_option maxRecDepth 100000 in
theorem m_X3_row (l : Launch) (h_X3_bound : C_X3_bound l) (h_X3_no : C_X3_no l) (g : CX) (ad : Nat → Nat) (σ : KM) (p0 : Int32) (Post : Int32 → KM → Prop) (hv : vc_X3_row σ p0 Post) : Met l yX3_row wsX3_row { frames := 1, cells := 0, slots := 0, locals := 22 } (va_Pc [.ref (ad 0), .int p0] (RW g (AD ad 0 21) (wM g ad σ))) (va_Qi (fun (r : Int32) (u : KM) => Post r u) (fun u t => va_P (gD g) vwCl (wM g ad u) t.heap) (AD ad 0 21)) 0 0 (AD ad 0 21) := by
  unfold vc_X3_row at hv
  refine Met.ofW (cc := cX3_row) (maxL := 3) (ret := (some .int)) (by decide) rfl ?_
  intro p e s m args below meth c s₁ B hml hv0
  obtain ⟨rfl, hP, hK, hE, hD⟩ := hv0
  have hx := B.exec
  have hb := B.bytes
  have hr := B.returns
  have hts := atoms_spec (ws := wsX3_row) B.pre
  have hown : s.vm.findClass RX3 = some m.cls := findClass_of_methodNamed B.named
  have hlocks := B.notSynchronized
  have hi3 : ∀ w ∈ wsX30, w ∈ wsX3_row := by decide +kernel
  have k0 := hts (.fieldLink RX3 67 "JuryHearsAnswersModel" "row" "[I") (by decide +kernel)
  have k1 := hts (.fieldLink RX3 266 "JuryHearsAnswersModel" "rowMany" "I") (by decide +kernel)
  have hS : va_S (AD ad 0 21) s.heap s.heap [] := va_S.rf
  have hP : va_P (gD g) vwCl (wM g ad σ) s.heap := hP
  have hl := lv_entry ([.ref (ad 0), .int p0]) (n := 3) (Nat.le_of_ble_eq_true rfl)
  rw [lg_entry_eq]
  generalize (lg_sl ([.ref (ad 0), .int p0]) ++ List.replicate (3 - (lg_sl ([.ref (ad 0), .int p0])).length) Slot.unset).toArray = ls at hl ⊢
  have hl : lv_has ls 3 [(0, .ref (ad 0)), (1, .int p0)] := hl
  obtain ⟨H, hH⟩ : ∃ z, z = s.heap := ⟨_, rfl⟩
  obtain ⟨locs, hL⟩ : ∃ z : List Loc, z = [] := ⟨_, rfl⟩
  rw [← hL] at hS ⊢
  have hS : va_S (AD ad 0 21) s.heap H locs := by rw [hH]; exact hS
  rw [← hH] at hP ⊢
  clear hH hL
  refine lv_iload_n hx hb dX3_row_0 rfl (lv_at hl 1 rfl) ?_
  refine lv_iconst (v := 0) hx hb dX3_row_1 (by decide) ?_
  refine lv_bipush (v := 99) hx hb dX3_row_2 (by decide) ?_
  have hPc : va_P (gD g) vwCl [] H := fun k q h => by simp at h
  refine ro_int (va_runS (As := [.int p0, .int 0, .int 99]) (rest := []) ⟨hx, hb, hml, hown, hts⟩ (h_X3_bound g p0 0 99) (va_cwS 3 hts gX3_row_X3_bound rfl rfl rfl (by decide +kernel) ⟨Nat.le_of_ble_eq_true rfl, Nat.le_of_ble_eq_true rfl⟩) ⟨RO_blind, fun U hU hW => ⟨rfl, by rw [hU]; exact hPc, va_K.moved hW.alike hK, hE.call hW hU hS (fun _ h => h.elim)⟩⟩ rfl rfl hl.1 rfl (lv_room (Nat.le_of_ble_eq_true rfl)) dX3_row_4 ⟨Nat.le_of_ble_eq_true rfl, Nat.le_of_ble_eq_true rfl⟩) hS hP (fun r H locs hw hP hS => ?_)
  subst r
  refine lv_istore_n (lv' := [(2, .int (boundI p0 (0 : Int32) (99 : Int32))), (0, .ref (ad 0)), (1, .int p0)]) hx hb dX3_row_7 rfl hl (by decide) rfl (fun ls hl => ?_)
  refine lv_iload_n hx hb dX3_row_8 rfl (lv_at hl 0 rfl) ?_
  refine lv_if_ne (tgt := 24) hx hb dX3_row_9 (by decide) (fun c9 => ?_) (fun c9 => ?_)
  · have hv := hv.1 c9
    refine lv_iload_n hx hb dX3_row_24 rfl (lv_at hl 0 rfl) ?_
    refine lv_if_eq (tgt := 34) hx hb dX3_row_25 (by decide) (fun c25 => ?_) (fun c25 => ?_)
    · have hv := hv.1 c25
      refine lv_aload_n hx hb dX3_row_34 rfl (lv_at hl 1 rfl) ?_
      refine va_get (D := gD g) (ci := 3) (v := .ref (ad 20)) (C := RX3) (T := TX3) (N := 33) hx hb hts hi3 hown hK hP 0 rfl rfl 30 (by decide) k0 (fun _ h9 => h9) rfl dX3_row_35 ?_
      refine lv_aload_n hx hb dX3_row_38 rfl (lv_at hl 1 rfl) ?_
      refine va_get (D := gD g) (ci := 3) (v := .int (mRowMany σ)) (C := RX3) (T := TX3) (N := 33) hx hb hts hi3 hown hK hP 0 rfl rfl 31 (by decide) k1 (fun _ h9 => h9) rfl dX3_row_39 ?_
      refine lv_iload_n hx hb dX3_row_42 rfl (lv_at hl 2 rfl) ?_
      have h9 := hv.1
      have hv := hv.2
      refine va_iast (f := (mRow σ)) (n := 12) hx hb hK hP hD hS 20 0 rfl rfl h9 dX3_row_43 (fun H locs hP hD hS => ?_)
      have hP : va_P (gD g) vwCl (wM g ad ((mS σ), (mT σ), (mK σ), (mF σ), (upd (mRow σ) ((mRowMany σ)).toNatClampNeg p0), (mRowMany σ), (mLots σ), (mRefused σ))) H := hP
      have hD : va_D (AD ad 0 21) (wM g ad ((mS σ), (mT σ), (mK σ), (mF σ), (upd (mRow σ) ((mRowMany σ)).toNatClampNeg p0), (mRowMany σ), (mLots σ), (mRefused σ))) := hD
      refine lv_aload_n hx hb dX3_row_44 rfl (lv_at hl 1 rfl) ?_
      refine lv_dup hx hb dX3_row_45 rfl ?_
      refine va_get (D := gD g) (ci := 3) (v := .int (mRowMany σ)) (C := RX3) (T := TX3) (N := 33) hx hb hts hi3 hown hK hP 0 rfl rfl 31 (by decide) k1 (fun _ h9 => h9) rfl dX3_row_46 ?_
      refine lv_iconst (v := 1) hx hb dX3_row_49 (by decide) ?_
      refine lv_iadd hx hb dX3_row_50 ?_
      refine va_put (D := gD g) (ci := 3) (v := .int ((mRowMany σ) + 1)) (ty := .int) (C := RX3) (T := TX3) (N := 33) hx hb hts hi3 tyX3 tyX3_ok nmX3 hown hK hP hD hS 0 rfl rfl 31 (by decide) k1 (fun _ h9 => h9) rfl (by decide +kernel) rfl rfl (Nat.le_of_ble_eq_true rfl) dX3_row_51 (fun H locs hP hD hS => ?_)
      have hP : va_P (gD g) vwCl (wM g ad ((mS σ), (mT σ), (mK σ), (mF σ), (upd (mRow σ) ((mRowMany σ)).toNatClampNeg p0), ((mRowMany σ) + 1), (mLots σ), (mRefused σ))) H := hP
      have hD : va_D (AD ad 0 21) (wM g ad ((mS σ), (mT σ), (mK σ), (mF σ), (upd (mRow σ) ((mRowMany σ)).toNatClampNeg p0), ((mRowMany σ) + 1), (mLots σ), (mRefused σ))) := hD
      refine lv_aload_n hx hb dX3_row_54 rfl (lv_at hl 1 rfl) ?_
      refine va_get (D := gD g) (ci := 3) (v := .int ((mRowMany σ) + 1)) (C := RX3) (T := TX3) (N := 33) hx hb hts hi3 hown hK hP 0 rfl rfl 31 (by decide) k1 (fun _ h9 => h9) rfl dX3_row_55 ?_
      exact W.iret (v := ((mRowMany σ) + 1)) hx hb hr (fun t ht hW => ⟨⟨((mRowMany σ) + 1), ((mS σ), (mT σ), (mK σ), (mF σ), (upd (mRow σ) ((mRowMany σ)).toNatClampNeg p0), ((mRowMany σ) + 1), (mLots σ), (mRefused σ)), rfl, hv, P_at ht hP⟩, hS.F ht⟩) hS.2.2 dX3_row_58
    · have hv := hv.2 c25
      refine lv_aload_n hx hb dX3_row_28 rfl (lv_at hl 1 rfl) ?_
      refine lv_iload_n hx hb dX3_row_29 rfl (lv_at hl 0 rfl) ?_
      have h8 := hv.1
      have hv := hv.2
      have hPc := hP
      have hDc := hD
      refine rw_int (va_runV (As := [.int (boundI p0 (0 : Int32) (99 : Int32))]) (rest := []) ⟨hx, hb, hml, hown, hts⟩ (h_X3_no g ad σ (boundI p0 (0 : Int32) (99 : Int32)) h8) (cwV 1 hts gX3_row_X3_no rfl rfl rfl (by decide +kernel) ⟨Nat.le_of_ble_eq_true rfl, Nat.le_of_ble_eq_true rfl⟩) ⟨RW_blind, va_recv hK hP (ci := 3) (q0 := 0) rfl rfl, fun U hU hW => ⟨rfl, by rw [hU]; exact hPc, va_K.moved hW.alike hK, hE.call hW hU hS (fun _ h => h), hDc⟩⟩ rfl rfl hl.1 rfl (lv_room (Nat.le_of_ble_eq_true rfl)) dX3_row_30 ⟨Nat.le_of_ble_eq_true rfl, Nat.le_of_ble_eq_true rfl⟩) hS (fun _ h => h) (fun r u H1 locs hw hP1 hk hS => ?_)
      obtain ⟨hw1, hw⟩ := hw; subst r; subst u
      have hP := hP1
      generalize H1 = H at hP hS ⊢
      have hP : va_P (gD g) vwCl (wM g ad ((mS σ), (mT σ), (mK σ), (mF σ), (mRow σ), (mRowMany σ), (mLots σ), (refuX (mRefused σ) (boundI p0 (0 : Int32) (99 : Int32))))) H := hP
      have hD : va_D (AD ad 0 21) (wM g ad ((mS σ), (mT σ), (mK σ), (mF σ), (mRow σ), (mRowMany σ), (mLots σ), (refuX (mRefused σ) (boundI p0 (0 : Int32) (99 : Int32))))) := hD.addr (by rfl)
      exact W.iret (v := ((boundI p0 (0 : Int32) (99 : Int32)))) hx hb hr (fun t ht hW => ⟨⟨((boundI p0 (0 : Int32) (99 : Int32))), ((mS σ), (mT σ), (mK σ), (mF σ), (mRow σ), (mRowMany σ), (mLots σ), (refuX (mRefused σ) (boundI p0 (0 : Int32) (99 : Int32)))), rfl, hv, P_at ht hP⟩, hS.F ht⟩) hS.2.2 dX3_row_33
  · have hv := hv.2 c9
    refine lv_aload_n hx hb dX3_row_12 rfl (lv_at hl 1 rfl) ?_
    refine va_get (D := gD g) (ci := 3) (v := .int (mRowMany σ)) (C := RX3) (T := TX3) (N := 33) hx hb hts hi3 hown hK hP 0 rfl rfl 31 (by decide) k1 (fun _ h9 => h9) rfl dX3_row_13 ?_
    refine lv_bipush (v := 12) hx hb dX3_row_16 (by decide) ?_
    refine lv_icmp_ne (tgt := 24) hx hb dX3_row_18 (by decide) (fun c18 => ?_) (fun c18 => ?_)
    · have hv := hv.1 c18
      refine lv_iload_n hx hb dX3_row_24 rfl (lv_at hl 0 rfl) ?_
      refine lv_if_eq (tgt := 34) hx hb dX3_row_25 (by decide) (fun c25 => ?_) (fun c25 => ?_)
      · have hv := hv.1 c25
        refine lv_aload_n hx hb dX3_row_34 rfl (lv_at hl 1 rfl) ?_
        refine va_get (D := gD g) (ci := 3) (v := .ref (ad 20)) (C := RX3) (T := TX3) (N := 33) hx hb hts hi3 hown hK hP 0 rfl rfl 30 (by decide) k0 (fun _ h9 => h9) rfl dX3_row_35 ?_
        refine lv_aload_n hx hb dX3_row_38 rfl (lv_at hl 1 rfl) ?_
        refine va_get (D := gD g) (ci := 3) (v := .int (mRowMany σ)) (C := RX3) (T := TX3) (N := 33) hx hb hts hi3 hown hK hP 0 rfl rfl 31 (by decide) k1 (fun _ h9 => h9) rfl dX3_row_39 ?_
        refine lv_iload_n hx hb dX3_row_42 rfl (lv_at hl 2 rfl) ?_
        have h9 := hv.1
        have hv := hv.2
        refine va_iast (f := (mRow σ)) (n := 12) hx hb hK hP hD hS 20 0 rfl rfl h9 dX3_row_43 (fun H locs hP hD hS => ?_)
        have hP : va_P (gD g) vwCl (wM g ad ((mS σ), (mT σ), (mK σ), (mF σ), (upd (mRow σ) ((mRowMany σ)).toNatClampNeg p0), (mRowMany σ), (mLots σ), (mRefused σ))) H := hP
        have hD : va_D (AD ad 0 21) (wM g ad ((mS σ), (mT σ), (mK σ), (mF σ), (upd (mRow σ) ((mRowMany σ)).toNatClampNeg p0), (mRowMany σ), (mLots σ), (mRefused σ))) := hD
        refine lv_aload_n hx hb dX3_row_44 rfl (lv_at hl 1 rfl) ?_
        refine lv_dup hx hb dX3_row_45 rfl ?_
        refine va_get (D := gD g) (ci := 3) (v := .int (mRowMany σ)) (C := RX3) (T := TX3) (N := 33) hx hb hts hi3 hown hK hP 0 rfl rfl 31 (by decide) k1 (fun _ h9 => h9) rfl dX3_row_46 ?_
        refine lv_iconst (v := 1) hx hb dX3_row_49 (by decide) ?_
        refine lv_iadd hx hb dX3_row_50 ?_
        refine va_put (D := gD g) (ci := 3) (v := .int ((mRowMany σ) + 1)) (ty := .int) (C := RX3) (T := TX3) (N := 33) hx hb hts hi3 tyX3 tyX3_ok nmX3 hown hK hP hD hS 0 rfl rfl 31 (by decide) k1 (fun _ h9 => h9) rfl (by decide +kernel) rfl rfl (Nat.le_of_ble_eq_true rfl) dX3_row_51 (fun H locs hP hD hS => ?_)
        have hP : va_P (gD g) vwCl (wM g ad ((mS σ), (mT σ), (mK σ), (mF σ), (upd (mRow σ) ((mRowMany σ)).toNatClampNeg p0), ((mRowMany σ) + 1), (mLots σ), (mRefused σ))) H := hP
        have hD : va_D (AD ad 0 21) (wM g ad ((mS σ), (mT σ), (mK σ), (mF σ), (upd (mRow σ) ((mRowMany σ)).toNatClampNeg p0), ((mRowMany σ) + 1), (mLots σ), (mRefused σ))) := hD
        refine lv_aload_n hx hb dX3_row_54 rfl (lv_at hl 1 rfl) ?_
        refine va_get (D := gD g) (ci := 3) (v := .int ((mRowMany σ) + 1)) (C := RX3) (T := TX3) (N := 33) hx hb hts hi3 hown hK hP 0 rfl rfl 31 (by decide) k1 (fun _ h9 => h9) rfl dX3_row_55 ?_
        exact W.iret (v := ((mRowMany σ) + 1)) hx hb hr (fun t ht hW => ⟨⟨((mRowMany σ) + 1), ((mS σ), (mT σ), (mK σ), (mF σ), (upd (mRow σ) ((mRowMany σ)).toNatClampNeg p0), ((mRowMany σ) + 1), (mLots σ), (mRefused σ)), rfl, hv, P_at ht hP⟩, hS.F ht⟩) hS.2.2 dX3_row_58
      · have hv := hv.2 c25
        refine lv_aload_n hx hb dX3_row_28 rfl (lv_at hl 1 rfl) ?_
        refine lv_iload_n hx hb dX3_row_29 rfl (lv_at hl 0 rfl) ?_
        have h8 := hv.1
        have hv := hv.2
        have hPc := hP
        have hDc := hD
        refine rw_int (va_runV (As := [.int (boundI p0 (0 : Int32) (99 : Int32))]) (rest := []) ⟨hx, hb, hml, hown, hts⟩ (h_X3_no g ad σ (boundI p0 (0 : Int32) (99 : Int32)) h8) (cwV 1 hts gX3_row_X3_no rfl rfl rfl (by decide +kernel) ⟨Nat.le_of_ble_eq_true rfl, Nat.le_of_ble_eq_true rfl⟩) ⟨RW_blind, va_recv hK hP (ci := 3) (q0 := 0) rfl rfl, fun U hU hW => ⟨rfl, by rw [hU]; exact hPc, va_K.moved hW.alike hK, hE.call hW hU hS (fun _ h => h), hDc⟩⟩ rfl rfl hl.1 rfl (lv_room (Nat.le_of_ble_eq_true rfl)) dX3_row_30 ⟨Nat.le_of_ble_eq_true rfl, Nat.le_of_ble_eq_true rfl⟩) hS (fun _ h => h) (fun r u H1 locs hw hP1 hk hS => ?_)
        obtain ⟨hw1, hw⟩ := hw; subst r; subst u
        have hP := hP1
        generalize H1 = H at hP hS ⊢
        have hP : va_P (gD g) vwCl (wM g ad ((mS σ), (mT σ), (mK σ), (mF σ), (mRow σ), (mRowMany σ), (mLots σ), (refuX (mRefused σ) (boundI p0 (0 : Int32) (99 : Int32))))) H := hP
        have hD : va_D (AD ad 0 21) (wM g ad ((mS σ), (mT σ), (mK σ), (mF σ), (mRow σ), (mRowMany σ), (mLots σ), (refuX (mRefused σ) (boundI p0 (0 : Int32) (99 : Int32))))) := hD.addr (by rfl)
        exact W.iret (v := ((boundI p0 (0 : Int32) (99 : Int32)))) hx hb hr (fun t ht hW => ⟨⟨((boundI p0 (0 : Int32) (99 : Int32))), ((mS σ), (mT σ), (mK σ), (mF σ), (mRow σ), (mRowMany σ), (mLots σ), (refuX (mRefused σ) (boundI p0 (0 : Int32) (99 : Int32)))), rfl, hv, P_at ht hP⟩, hS.F ht⟩) hS.2.2 dX3_row_33
    · have hv := hv.2 c18
      refine lv_bipush (v := (-6)) hx hb dX3_row_21 (by decide) ?_
      refine lv_istore_n (lv' := [(2, .int (-6)), (0, .ref (ad 0)), (1, .int p0)]) hx hb dX3_row_23 rfl hl (by decide) rfl (fun ls hl => ?_)
      refine lv_iload_n hx hb dX3_row_24 rfl (lv_at hl 0 rfl) ?_
      refine lv_if_eq (tgt := 34) hx hb dX3_row_25 (by decide) (fun c25 => ?_) (fun c25 => ?_)
      · exact absurd c25 (by decide)
      · refine lv_aload_n hx hb dX3_row_28 rfl (lv_at hl 1 rfl) ?_
        refine lv_iload_n hx hb dX3_row_29 rfl (lv_at hl 0 rfl) ?_
        have h8 := hv.1
        have hv := hv.2
        have hPc := hP
        have hDc := hD
        refine rw_int (va_runV (As := [.int (-6)]) (rest := []) ⟨hx, hb, hml, hown, hts⟩ (h_X3_no g ad σ (-6) h8) (cwV 1 hts gX3_row_X3_no rfl rfl rfl (by decide +kernel) ⟨Nat.le_of_ble_eq_true rfl, Nat.le_of_ble_eq_true rfl⟩) ⟨RW_blind, va_recv hK hP (ci := 3) (q0 := 0) rfl rfl, fun U hU hW => ⟨rfl, by rw [hU]; exact hPc, va_K.moved hW.alike hK, hE.call hW hU hS (fun _ h => h), hDc⟩⟩ rfl rfl hl.1 rfl (lv_room (Nat.le_of_ble_eq_true rfl)) dX3_row_30 ⟨Nat.le_of_ble_eq_true rfl, Nat.le_of_ble_eq_true rfl⟩) hS (fun _ h => h) (fun r u H1 locs hw hP1 hk hS => ?_)
        obtain ⟨hw1, hw⟩ := hw; subst r; subst u
        have hP := hP1
        generalize H1 = H at hP hS ⊢
        have hP : va_P (gD g) vwCl (wM g ad ((mS σ), (mT σ), (mK σ), (mF σ), (mRow σ), (mRowMany σ), (mLots σ), (refuX (mRefused σ) ((-6) : Int32)))) H := hP
        have hD : va_D (AD ad 0 21) (wM g ad ((mS σ), (mT σ), (mK σ), (mF σ), (mRow σ), (mRowMany σ), (mLots σ), (refuX (mRefused σ) ((-6) : Int32)))) := hD.addr (by rfl)
        exact W.iret (v := (((-6) : Int32))) hx hb hr (fun t ht hW => ⟨⟨(((-6) : Int32)), ((mS σ), (mT σ), (mK σ), (mF σ), (mRow σ), (mRowMany σ), (mLots σ), (refuX (mRefused σ) ((-6) : Int32))), rfl, hv, P_at ht hP⟩, hS.F ht⟩) hS.2.2 dX3_row_33

set_option maxHeartbeats 4000000 in
set_option maxRecDepth 100000 in
theorem m_X3_judge (l : Launch)  (g : CX) (ad : Nat → Nat) (σ : KM)  (Post : Int32 → KM → Prop) (hv : vc_X3_judge σ Post) : Met l yX3_judge wsX3_judge { frames := 0, cells := 0, slots := 0, locals := 0 } (va_Pc [.ref (ad 0)] (RW g (AD ad 0 21) (wM g ad σ))) (va_Qi (fun (r : Int32) (u : KM) => Post r u) (fun u t => va_P (gD g) vwCl (wM g ad u) t.heap) (AD ad 0 21)) 0 0 (AD ad 0 21) := by
  unfold vc_X3_judge at hv
  refine Met.ofW (cc := cX3_judge) (maxL := 3) (ret := (some .int)) (by decide) rfl ?_
  intro p e s m args below meth c s₁ B hml hv0
  obtain ⟨rfl, hP, hK, hE, hD⟩ := hv0
  have hx := B.exec
  have hb := B.bytes
  have hr := B.returns
  have hts := atoms_spec (ws := wsX3_judge) B.pre
  have hown : s.vm.findClass RX3 = some m.cls := findClass_of_methodNamed B.named
  have hlocks := B.notSynchronized
  have hi3 : ∀ w ∈ wsX30, w ∈ wsX3_judge := by decide +kernel
  have k0 := hts (.fieldLink RX3 266 "JuryHearsAnswersModel" "rowMany" "I") (by decide +kernel)
  have k1 := hts (.fieldLink RX3 146 "JuryHearsAnswersModel" "heard" "I") (by decide +kernel)
  have k2 := hts (.fieldLink RX3 37 "JuryHearsAnswersModel" "said" "[I") (by decide +kernel)
  have k3 := hts (.fieldLink RX3 67 "JuryHearsAnswersModel" "row" "[I") (by decide +kernel)
  have hS : va_S (AD ad 0 21) s.heap s.heap [] := va_S.rf
  have hP : va_P (gD g) vwCl (wM g ad σ) s.heap := hP
  have hl := lv_entry ([.ref (ad 0)]) (n := 3) (Nat.le_of_ble_eq_true rfl)
  rw [lg_entry_eq]
  generalize (lg_sl ([.ref (ad 0)]) ++ List.replicate (3 - (lg_sl ([.ref (ad 0)])).length) Slot.unset).toArray = ls at hl ⊢
  have hl : lv_has ls 3 [(0, .ref (ad 0))] := hl
  have hv := hv (fun (x1 : Int32) (x2 : Int32) (s_rowMany : Int32) => ∀ (H : Heap) (locs : List Loc) (ls : Array Slot), va_P (gD g) vwCl (wM g ad ((mS σ), (mT σ), (mK σ), (mF σ), (mRow σ), s_rowMany, (mLots σ), (mRefused σ))) H → va_D (AD ad 0 21) (wM g ad ((mS σ), (mT σ), (mK σ), (mF σ), (mRow σ), s_rowMany, (mLots σ), (mRefused σ))) → va_S (AD ad 0 21) s.heap H locs → lv_has ls 3 [(0, .ref (ad 0)), (1, .int x1), (2, .int x2)] → W p l e { frames := 0, cells := 0, slots := 0, locals := 0 } s m ([.ref (ad 0)] : List Value).toArray below meth c H locs 0 0 (MQ below (va_Qi (fun (r : Int32) (u : KM) => Post r u) (fun u t => va_P (gD g) vwCl (wM g ad u) t.heap) (AD ad 0 21)) ([.ref (ad 0)] : List Value).toArray s 0 0 (AD ad 0 21)) (F0 m 12 ls []))
  have hv := hv (by
    intro x1 x2 s_rowMany hv H locs ls hP hD hS hl
    refine lv_iload_n hx hb dX3_judge_12 rfl (lv_at hl 2 rfl) ?_
    refine lv_iload_n hx hb dX3_judge_13 rfl (lv_at hl 1 rfl) ?_
    refine lv_icmp_ge (tgt := 48) hx hb dX3_judge_14 (by decide) (fun c14 => ?_) (fun c14 => ?_)
    · have hv := hv.1 c14
      refine lv_bipush (v := (-9)) hx hb dX3_judge_48 (by decide) ?_
      exact W.iret (v := (-9)) hx hb hr (fun t ht hW => ⟨⟨(-9), ((mS σ), (mT σ), (mK σ), (mF σ), (mRow σ), s_rowMany, (mLots σ), (mRefused σ)), rfl, hv, P_at ht hP⟩, hS.F ht⟩) hS.2.2 dX3_judge_50
    · have hv := hv.2 c14
      refine lv_iload_n hx hb dX3_judge_17 rfl (lv_at hl 2 rfl) ?_
      refine lv_aload_n hx hb dX3_judge_18 rfl (lv_at hl 0 rfl) ?_
      refine va_get (D := gD g) (ci := 3) (v := .int (sNh (mS σ))) (C := RX3) (T := TX3) (N := 33) hx hb hts hi3 hown hK hP 0 rfl rfl 14 (by decide) k1 (fun _ h9 => h9) rfl dX3_judge_19 ?_
      refine lv_icmp_ge (tgt := 40) hx hb dX3_judge_22 (by decide) (fun c22 => ?_) (fun c22 => ?_)
      · have hv := hv.1 c22
        refine lv_iload_n hx hb dX3_judge_40 rfl (lv_at hl 2 rfl) ?_
        exact W.iret (v := x2) hx hb hr (fun t ht hW => ⟨⟨x2, ((mS σ), (mT σ), (mK σ), (mF σ), (mRow σ), s_rowMany, (mLots σ), (mRefused σ)), rfl, hv, P_at ht hP⟩, hS.F ht⟩) hS.2.2 dX3_judge_41
      · have hv := hv.2 c22
        refine lv_aload_n hx hb dX3_judge_25 rfl (lv_at hl 0 rfl) ?_
        refine va_get (D := gD g) (ci := 3) (v := .ref (ad 10)) (C := RX3) (T := TX3) (N := 33) hx hb hts hi3 hown hK hP 0 rfl rfl 9 (by decide) k2 (fun _ h9 => h9) rfl dX3_judge_26 ?_
        refine lv_iload_n hx hb dX3_judge_29 rfl (lv_at hl 2 rfl) ?_
        have h9 := hv.1
        have hv := hv.2
        refine va_iald (f := (sSaid (mS σ))) (n := 12) hx hb hK hP 10 0 rfl rfl h9 dX3_judge_30 ?_
        refine lv_aload_n hx hb dX3_judge_31 rfl (lv_at hl 0 rfl) ?_
        refine va_get (D := gD g) (ci := 3) (v := .ref (ad 20)) (C := RX3) (T := TX3) (N := 33) hx hb hts hi3 hown hK hP 0 rfl rfl 30 (by decide) k3 (fun _ h9 => h9) rfl dX3_judge_32 ?_
        refine lv_iload_n hx hb dX3_judge_35 rfl (lv_at hl 2 rfl) ?_
        have h9 := hv.1
        have hv := hv.2
        refine va_iald (f := (mRow σ)) (n := 12) hx hb hK hP 20 0 rfl rfl h9 dX3_judge_36 ?_
        refine lv_icmp_eq (tgt := 42) hx hb dX3_judge_37 (by decide) (fun c37 => ?_) (fun c37 => ?_)
        · have hv := hv.1 c37
          refine lv_iinc (v := (x2 + 1)) (lv' := [(2, .int (x2 + 1)), (0, .ref (ad 0)), (1, .int x1)]) hx hb dX3_judge_42 hl (k := 2) rfl (by first | rfl | exact congrArg _ (by decide)) (by decide) rfl (fun ls hl => ?_)
          refine lv_goto (tgt := 12) hx hb dX3_judge_45 (by decide) ?_
          exact hv H locs ls hP hD hS (lv_sub hl [1, 2, 0] rfl)
        · have hv := hv.2 c37
          refine lv_iload_n hx hb dX3_judge_40 rfl (lv_at hl 2 rfl) ?_
          exact W.iret (v := x2) hx hb hr (fun t ht hW => ⟨⟨x2, ((mS σ), (mT σ), (mK σ), (mF σ), (mRow σ), s_rowMany, (mLots σ), (mRefused σ)), rfl, hv, P_at ht hP⟩, hS.F ht⟩) hS.2.2 dX3_judge_41)
  obtain ⟨H, hH⟩ : ∃ z, z = s.heap := ⟨_, rfl⟩
  obtain ⟨locs, hL⟩ : ∃ z : List Loc, z = [] := ⟨_, rfl⟩
  rw [← hL] at hS ⊢
  have hS : va_S (AD ad 0 21) s.heap H locs := by rw [hH]; exact hS
  rw [← hH] at hP ⊢
  clear hH hL
  refine lv_aload_n hx hb dX3_judge_0 rfl (lv_at hl 0 rfl) ?_
  refine va_get (D := gD g) (ci := 3) (v := .int (mRowMany σ)) (C := RX3) (T := TX3) (N := 33) hx hb hts hi3 hown hK hP 0 rfl rfl 31 (by decide) k0 (fun _ h9 => h9) rfl dX3_judge_1 ?_
  refine lv_istore_n (lv' := [(1, .int (mRowMany σ)), (0, .ref (ad 0))]) hx hb dX3_judge_4 rfl hl (by decide) rfl (fun ls hl => ?_)
  refine lv_aload_n hx hb dX3_judge_5 rfl (lv_at hl 1 rfl) ?_
  refine lv_iconst (v := 0) hx hb dX3_judge_6 (by decide) ?_
  refine va_put (D := gD g) (ci := 3) (v := .int 0) (ty := .int) (C := RX3) (T := TX3) (N := 33) hx hb hts hi3 tyX3 tyX3_ok nmX3 hown hK hP hD hS 0 rfl rfl 31 (by decide) k0 (fun _ h9 => h9) rfl (by decide +kernel) rfl rfl (Nat.le_of_ble_eq_true rfl) dX3_judge_7 (fun H locs hP hD hS => ?_)
  have hP : va_P (gD g) vwCl (wM g ad ((mS σ), (mT σ), (mK σ), (mF σ), (mRow σ), 0, (mLots σ), (mRefused σ))) H := hP
  have hD : va_D (AD ad 0 21) (wM g ad ((mS σ), (mT σ), (mK σ), (mF σ), (mRow σ), 0, (mLots σ), (mRefused σ))) := hD
  refine lv_iconst (v := 0) hx hb dX3_judge_10 (by decide) ?_
  refine lv_istore_n (lv' := [(2, .int 0), (1, .int (mRowMany σ)), (0, .ref (ad 0))]) hx hb dX3_judge_11 rfl hl (by decide) rfl (fun ls hl => ?_)
  exact hv H locs ls hP hD hS (lv_sub hl [2, 1, 0] rfl)

set_option maxHeartbeats 4000000 in
set_option maxRecDepth 100000 in
theorem m_X3_clear (l : Launch)  (g : CX) (ad : Nat → Nat) (σ : KM)  (Post : Int32 → KM → Prop) (hv : vc_X3_clear σ Post) : Met l yX3_clear wsX3_clear { frames := 0, cells := 0, slots := 0, locals := 0 } (va_Pc [.ref (ad 0)] (RW g (AD ad 0 21) (wM g ad σ))) (va_Qi (fun (r : Int32) (u : KM) => Post r u) (fun u t => va_P (gD g) vwCl (wM g ad u) t.heap) (AD ad 0 21)) 0 0 (AD ad 0 21) := by
  unfold vc_X3_clear at hv
  refine Met.ofW (cc := cX3_clear) (maxL := 2) (ret := (some .int)) (by decide) rfl ?_
  intro p e s m args below meth c s₁ B hml hv0
  obtain ⟨rfl, hP, hK, hE, hD⟩ := hv0
  have hx := B.exec
  have hb := B.bytes
  have hr := B.returns
  have hts := atoms_spec (ws := wsX3_clear) B.pre
  have hown : s.vm.findClass RX3 = some m.cls := findClass_of_methodNamed B.named
  have hlocks := B.notSynchronized
  have hi3 : ∀ w ∈ wsX30, w ∈ wsX3_clear := by decide +kernel
  have k0 := hts (.fieldLink RX3 266 "JuryHearsAnswersModel" "rowMany" "I") (by decide +kernel)
  have hS : va_S (AD ad 0 21) s.heap s.heap [] := va_S.rf
  have hP : va_P (gD g) vwCl (wM g ad σ) s.heap := hP
  have hl := lv_entry ([.ref (ad 0)]) (n := 2) (Nat.le_of_ble_eq_true rfl)
  rw [lg_entry_eq]
  generalize (lg_sl ([.ref (ad 0)]) ++ List.replicate (2 - (lg_sl ([.ref (ad 0)])).length) Slot.unset).toArray = ls at hl ⊢
  have hl : lv_has ls 2 [(0, .ref (ad 0))] := hl
  obtain ⟨H, hH⟩ : ∃ z, z = s.heap := ⟨_, rfl⟩
  obtain ⟨locs, hL⟩ : ∃ z : List Loc, z = [] := ⟨_, rfl⟩
  rw [← hL] at hS ⊢
  have hS : va_S (AD ad 0 21) s.heap H locs := by rw [hH]; exact hS
  rw [← hH] at hP ⊢
  clear hH hL
  refine lv_aload_n hx hb dX3_clear_0 rfl (lv_at hl 0 rfl) ?_
  refine va_get (D := gD g) (ci := 3) (v := .int (mRowMany σ)) (C := RX3) (T := TX3) (N := 33) hx hb hts hi3 hown hK hP 0 rfl rfl 31 (by decide) k0 (fun _ h9 => h9) rfl dX3_clear_1 ?_
  refine lv_istore_n (lv' := [(1, .int (mRowMany σ)), (0, .ref (ad 0))]) hx hb dX3_clear_4 rfl hl (by decide) rfl (fun ls hl => ?_)
  refine lv_aload_n hx hb dX3_clear_5 rfl (lv_at hl 1 rfl) ?_
  refine lv_iconst (v := 0) hx hb dX3_clear_6 (by decide) ?_
  refine va_put (D := gD g) (ci := 3) (v := .int 0) (ty := .int) (C := RX3) (T := TX3) (N := 33) hx hb hts hi3 tyX3 tyX3_ok nmX3 hown hK hP hD hS 0 rfl rfl 31 (by decide) k0 (fun _ h9 => h9) rfl (by decide +kernel) rfl rfl (Nat.le_of_ble_eq_true rfl) dX3_clear_7 (fun H locs hP hD hS => ?_)
  have hP : va_P (gD g) vwCl (wM g ad ((mS σ), (mT σ), (mK σ), (mF σ), (mRow σ), 0, (mLots σ), (mRefused σ))) H := hP
  have hD : va_D (AD ad 0 21) (wM g ad ((mS σ), (mT σ), (mK σ), (mF σ), (mRow σ), 0, (mLots σ), (mRefused σ))) := hD
  refine lv_iload_n hx hb dX3_clear_10 rfl (lv_at hl 0 rfl) ?_
  exact W.iret (v := (mRowMany σ)) hx hb hr (fun t ht hW => ⟨⟨(mRowMany σ), ((mS σ), (mT σ), (mK σ), (mF σ), (mRow σ), 0, (mLots σ), (mRefused σ)), rfl, hv, P_at ht hP⟩, hS.F ht⟩) hS.2.2 dX3_clear_11

set_option maxHeartbeats 4000000 in
set_option maxRecDepth 100000 in
theorem m_X3_draw (l : Launch)  (g : CX) (ad : Nat → Nat) (σ : KM) (p0 : Int32) (Post : Int32 → KM → Prop) (hv : vc_X3_draw σ p0 Post) : Met l yX3_draw wsX3_draw { frames := 0, cells := 0, slots := 0, locals := 0 } (va_Pc [.ref (ad 0), .int p0] (RW g (AD ad 0 21) (wM g ad σ))) (va_Qi (fun (r : Int32) (u : KM) => Post r u) (fun u t => va_P (gD g) vwCl (wM g ad u) t.heap) (AD ad 0 21)) 0 0 (AD ad 0 21) := by
  unfold vc_X3_draw at hv
  refine Met.ofW (cc := cX3_draw) (maxL := 2) (ret := (some .int)) (by decide) rfl ?_
  intro p e s m args below meth c s₁ B hml hv0
  obtain ⟨rfl, hP, hK, hE, hD⟩ := hv0
  have hx := B.exec
  have hb := B.bytes
  have hr := B.returns
  have hts := atoms_spec (ws := wsX3_draw) B.pre
  have hown : s.vm.findClass RX3 = some m.cls := findClass_of_methodNamed B.named
  have hlocks := B.notSynchronized
  have hi3 : ∀ w ∈ wsX30, w ∈ wsX3_draw := by decide +kernel
  have k0 := hts (.fieldLink RX3 275 "JuryHearsAnswersModel" "lots" "I") (by decide +kernel)
  have k1 := hts (.constant RX3 278 1664525) (by decide +kernel)
  have k2 := hts (.constant RX3 279 1013904223) (by decide +kernel)
  have k3 := hts (.constant RX3 280 2147483647) (by decide +kernel)
  have hS : va_S (AD ad 0 21) s.heap s.heap [] := va_S.rf
  have hP : va_P (gD g) vwCl (wM g ad σ) s.heap := hP
  have hl := lv_entry ([.ref (ad 0), .int p0]) (n := 2) (Nat.le_of_ble_eq_true rfl)
  rw [lg_entry_eq]
  generalize (lg_sl ([.ref (ad 0), .int p0]) ++ List.replicate (2 - (lg_sl ([.ref (ad 0), .int p0])).length) Slot.unset).toArray = ls at hl ⊢
  have hl : lv_has ls 2 [(0, .ref (ad 0)), (1, .int p0)] := hl
  obtain ⟨H, hH⟩ : ∃ z, z = s.heap := ⟨_, rfl⟩
  obtain ⟨locs, hL⟩ : ∃ z : List Loc, z = [] := ⟨_, rfl⟩
  rw [← hL] at hS ⊢
  have hS : va_S (AD ad 0 21) s.heap H locs := by rw [hH]; exact hS
  rw [← hH] at hP ⊢
  clear hH hL
  refine lv_aload_n hx hb dX3_draw_0 rfl (lv_at hl 0 rfl) ?_
  refine lv_aload_n hx hb dX3_draw_1 rfl (lv_at hl 0 rfl) ?_
  refine va_get (D := gD g) (ci := 3) (v := .int (mLots σ)) (C := RX3) (T := TX3) (N := 33) hx hb hts hi3 hown hK hP 0 rfl rfl 32 (by decide) k0 (fun _ h9 => h9) rfl dX3_draw_2 ?_
  refine lv_ldcw hx hb hown k1 dX3_draw_5 ?_
  refine lv_imul hx hb dX3_draw_8 ?_
  refine lv_topi (fun z8 ez8 => ?_)
  have hv := hv z8 ez8
  refine lv_ldcw hx hb hown k2 dX3_draw_9 ?_
  refine lv_iadd hx hb dX3_draw_12 ?_
  refine lv_topi (fun z12 ez12 => ?_)
  have hv := hv z12 ez12
  refine va_put (D := gD g) (ci := 3) (v := .int z12) (ty := .int) (C := RX3) (T := TX3) (N := 33) hx hb hts hi3 tyX3 tyX3_ok nmX3 hown hK hP hD hS 0 rfl rfl 32 (by decide) k0 (fun _ h9 => h9) rfl (by decide +kernel) rfl rfl (Nat.le_of_ble_eq_true rfl) dX3_draw_13 (fun H locs hP hD hS => ?_)
  have hP : va_P (gD g) vwCl (wM g ad ((mS σ), (mT σ), (mK σ), (mF σ), (mRow σ), (mRowMany σ), z12, (mRefused σ))) H := hP
  have hD : va_D (AD ad 0 21) (wM g ad ((mS σ), (mT σ), (mK σ), (mF σ), (mRow σ), (mRowMany σ), z12, (mRefused σ))) := hD
  refine lv_aload_n hx hb dX3_draw_16 rfl (lv_at hl 0 rfl) ?_
  refine va_get (D := gD g) (ci := 3) (v := .int z12) (C := RX3) (T := TX3) (N := 33) hx hb hts hi3 hown hK hP 0 rfl rfl 32 (by decide) k0 (fun _ h9 => h9) rfl dX3_draw_17 ?_
  refine lv_ldcw hx hb hown k3 dX3_draw_20 ?_
  refine lv_iand hx hb dX3_draw_23 ?_
  refine lv_topi (fun z23 ez23 => ?_)
  have hv := hv z23 ez23
  refine lv_sipush (v := 256) hx hb dX3_draw_24 (by decide) ?_
  refine lv_idiv hx hb dX3_draw_27 (by decide) ?_
  refine lv_iload_n hx hb dX3_draw_28 rfl (lv_at hl 1 rfl) ?_
  have h0 := hv.1
  have hv := hv.2
  refine lv_irem hx hb dX3_draw_29 h0 ?_
  exact W.iret (v := ((z23 / 256) - (z23 / 256) / p0 * p0)) hx hb hr (fun t ht hW => ⟨⟨((z23 / 256) - (z23 / 256) / p0 * p0), ((mS σ), (mT σ), (mK σ), (mF σ), (mRow σ), (mRowMany σ), z12, (mRefused σ)), rfl, hv, P_at ht hP⟩, hS.F ht⟩) hS.2.2 dX3_draw_30

set_option maxHeartbeats 4000000 in
set_option maxRecDepth 100000 in
theorem m_X3_count (l : Launch) (h_X3_isIn : C_X3_isIn l) (h_X3_isSo : C_X3_isSo l) (g : CX) (ad : Nat → Nat) (σ : KM) (p0 : Int32) (Post : Int32 → Prop) (hv : vc_X3_count σ p0 Post) : Met l yX3_count wsX3_count { frames := 2, cells := 0, slots := 0, locals := 45 } (va_Pc [.ref (ad 0), .int p0] (RO g (wM g ad σ))) (va_Qi (fun r (_ : Unit) => Post r) (fun _ _ => True) A0) 0 0 A0 := by
  unfold vc_X3_count at hv
  refine Met.ofW (cc := cX3_count) (maxL := 4) (ret := (some .int)) (by decide) rfl ?_
  intro p e s m args below meth c s₁ B hml hv0
  obtain ⟨rfl, hP, hK, hE⟩ := hv0
  have hx := B.exec
  have hb := B.bytes
  have hr := B.returns
  have hts := atoms_spec (ws := wsX3_count) B.pre
  have hown : s.vm.findClass RX3 = some m.cls := findClass_of_methodNamed B.named
  have hlocks := B.notSynchronized
  have hi3 : ∀ w ∈ wsX30, w ∈ wsX3_count := by decide +kernel
  have k0 := hts (.fieldLink RX3 70 "JuryHearsAnswersModel" "questions" "I") (by decide +kernel)
  have k1 := hts (.fieldLink RX3 76 "JuryHearsAnswersModel" "witnesses" "I") (by decide +kernel)
  have k2 := hts (.fieldLink RX3 134 "JuryHearsAnswersModel" "theCase" "I") (by decide +kernel)
  have k3 := hts (.fieldLink RX3 146 "JuryHearsAnswersModel" "heard" "I") (by decide +kernel)
  have k4 := hts (.fieldLink RX3 127 "JuryHearsAnswersModel" "asked" "I") (by decide +kernel)
  have k5 := hts (.fieldLink RX3 266 "JuryHearsAnswersModel" "rowMany" "I") (by decide +kernel)
  have k6 := hts (.fieldLink RX3 83 "JuryHearsAnswersModel" "taped" "I") (by decide +kernel)
  have k7 := hts (.fieldLink RX3 7 "JuryHearsAnswersModel" "refused" "[I") (by decide +kernel)
  have hS : va_S A0 s.heap s.heap [] := va_S.rf
  have hP : va_P (gD g) vwCl (wM g ad σ) s.heap := hP
  have hl := lv_entry ([.ref (ad 0), .int p0]) (n := 4) (Nat.le_of_ble_eq_true rfl)
  rw [lg_entry_eq]
  generalize (lg_sl ([.ref (ad 0), .int p0]) ++ List.replicate (4 - (lg_sl ([.ref (ad 0), .int p0])).length) Slot.unset).toArray = ls at hl ⊢
  have hl : lv_has ls 4 [(0, .ref (ad 0)), (1, .int p0)] := hl
  have hv := hv (fun (x2 : Int32) (x3 : Int32) => ∀ (H : Heap) (locs : List Loc) (ls : Array Slot), va_P (gD g) vwCl (wM g ad σ) H → va_S A0 s.heap H locs → lv_has ls 4 [(0, .ref (ad 0)), (2, .int x2), (3, .int x3)] → W p l e { frames := 2, cells := 0, slots := 0, locals := 45 } s m ([.ref (ad 0), .int p0] : List Value).toArray below meth c H locs 0 0 (MQ below (va_Qi (fun r (_ : Unit) => Post r) (fun _ _ => True) A0) ([.ref (ad 0), .int p0] : List Value).toArray s 0 0 A0) (F0 m 99 ls []))
  have hv := hv (by
    intro x2 x3 hv H locs ls hP hS hl
    refine lv_iload_n hx hb dX3_count_99 rfl (lv_at hl 2 rfl) ?_
    refine lv_aload_n hx hb dX3_count_100 rfl (lv_at hl 0 rfl) ?_
    refine va_get (D := gD g) (ci := 3) (v := .int (sNq (mS σ))) (C := RX3) (T := TX3) (N := 33) hx hb hts hi3 hown hK hP 0 rfl rfl 12 (by decide) k0 (fun _ h9 => h9) rfl dX3_count_101 ?_
    refine lv_icmp_ge (tgt := 135) hx hb dX3_count_104 (by decide) (fun c104 => ?_) (fun c104 => ?_)
    · have hv := hv.1 c104
      refine lv_iload_n hx hb dX3_count_135 rfl (lv_at hl 1 rfl) ?_
      exact W.iret (v := x2) hx hb hr (fun t ht hW => ⟨⟨x2, (), rfl, hv, trivial⟩, hS.F ht⟩) hS.2.2 dX3_count_136
    · have hv := hv.2 c104
      refine lv_iload_n hx hb dX3_count_107 rfl (lv_at hl 1 rfl) ?_
      refine lv_aload_n hx hb dX3_count_108 rfl (lv_at hl 0 rfl) ?_
      refine lv_iload_n hx hb dX3_count_109 rfl (lv_at hl 2 rfl) ?_
      refine lv_aload_n hx hb dX3_count_110 rfl (lv_at hl 0 rfl) ?_
      refine va_get (D := gD g) (ci := 3) (v := .int (sCase (mS σ))) (C := RX3) (T := TX3) (N := 33) hx hb hts hi3 hown hK hP 0 rfl rfl 11 (by decide) k2 (fun _ h9 => h9) rfl dX3_count_111 ?_
      have h8 := hv.1
      have hv := hv.2
      have hPc := hP
      refine ro_int (va_runV (As := [.int x3, .int (sCase (mS σ))]) (rest := [.int x2]) ⟨hx, hb, hml, hown, hts⟩ (h_X3_isSo g ad σ x3 (sCase (mS σ)) h8) (cwV 2 hts gX3_count_X3_isSo rfl rfl rfl (by decide +kernel) ⟨Nat.le_of_ble_eq_true rfl, Nat.le_of_ble_eq_true rfl⟩) ⟨RO_blind, va_recv hK hP (ci := 3) (q0 := 0) rfl rfl, fun U hU hW => ⟨rfl, by rw [hU]; exact hPc, va_K.moved hW.alike hK, hE.call hW hU hS (fun _ h => h.elim)⟩⟩ rfl rfl hl.1 rfl (lv_room (Nat.le_of_ble_eq_true rfl)) dX3_count_114 ⟨Nat.le_of_ble_eq_true rfl, Nat.le_of_ble_eq_true rfl⟩) hS hP (fun r H locs hw hP hS => ?_)
      subst r
      refine lv_if_eq (tgt := 126) hx hb dX3_count_117 (by decide) (fun c117 => ?_) (fun c117 => ?_)
      · have hv := hv.1 c117
        refine lv_iconst (v := 0) hx hb dX3_count_126 (by decide) ?_
        refine lv_ior hx hb dX3_count_127 ?_
        refine lv_istore_n (lv' := [(2, .int (x2 ||| 0)), (0, .ref (ad 0)), (3, .int x3)]) hx hb dX3_count_128 rfl hl (by decide) rfl (fun ls hl => ?_)
        refine lv_iinc (v := (x3 + 1)) (lv' := [(3, .int (x3 + 1)), (2, .int (x2 ||| 0)), (0, .ref (ad 0))]) hx hb dX3_count_129 hl (k := 2) rfl (by first | rfl | exact congrArg _ (by decide)) (by decide) rfl (fun ls hl => ?_)
        refine lv_goto (tgt := 99) hx hb dX3_count_132 (by decide) ?_
        exact hv H locs ls hP hS (lv_sub hl [2, 1, 0] rfl)
      · have hv := hv.2 c117
        refine lv_iconst (v := 1) hx hb dX3_count_120 (by decide) ?_
        refine lv_iload_n hx hb dX3_count_121 rfl (lv_at hl 2 rfl) ?_
        refine lv_ishl hx hb dX3_count_122 ?_
        refine lv_goto (tgt := 127) hx hb dX3_count_123 (by decide) ?_
        refine lv_ior hx hb dX3_count_127 ?_
        refine lv_istore_n (lv' := [(2, .int (x2 ||| (1 <<< (x3 &&& 31)))), (0, .ref (ad 0)), (3, .int x3)]) hx hb dX3_count_128 rfl hl (by decide) rfl (fun ls hl => ?_)
        refine lv_iinc (v := (x3 + 1)) (lv' := [(3, .int (x3 + 1)), (2, .int (x2 ||| (1 <<< (x3 &&& 31)))), (0, .ref (ad 0))]) hx hb dX3_count_129 hl (k := 2) rfl (by first | rfl | exact congrArg _ (by decide)) (by decide) rfl (fun ls hl => ?_)
        refine lv_goto (tgt := 99) hx hb dX3_count_132 (by decide) ?_
        exact hv H locs ls hP hS (lv_sub hl [2, 1, 0] rfl))
  obtain ⟨H, hH⟩ : ∃ z, z = s.heap := ⟨_, rfl⟩
  obtain ⟨locs, hL⟩ : ∃ z : List Loc, z = [] := ⟨_, rfl⟩
  rw [← hL] at hS ⊢
  have hS : va_S A0 s.heap H locs := by rw [hH]; exact hS
  rw [← hH] at hP ⊢
  clear hH hL
  refine lv_iload_n hx hb dX3_count_0 rfl (lv_at hl 1 rfl) ?_
  refine lv_bipush (v := 11) hx hb dX3_count_1 (by decide) ?_
  refine lv_bipush (v := 16) hx hb dX3_count_3 (by decide) ?_
  have hPc : va_P (gD g) vwCl [] H := fun k q h => by simp at h
  refine ro_int (va_runS (As := [.int p0, .int 11, .int 16]) (rest := []) ⟨hx, hb, hml, hown, hts⟩ (h_X3_isIn g p0 11 16) (va_cwS 3 hts gX3_count_X3_isIn rfl rfl rfl (by decide +kernel) ⟨Nat.le_of_ble_eq_true rfl, Nat.le_of_ble_eq_true rfl⟩) ⟨RO_blind, fun U hU hW => ⟨rfl, by rw [hU]; exact hPc, va_K.moved hW.alike hK, hE.call hW hU hS (fun _ h => h.elim)⟩⟩ rfl rfl hl.1 rfl (lv_room (Nat.le_of_ble_eq_true rfl)) dX3_count_5 ⟨Nat.le_of_ble_eq_true rfl, Nat.le_of_ble_eq_true rfl⟩) hS hP (fun r H locs hw hP hS => ?_)
  subst r
  refine lv_if_eq (tgt := 21) hx hb dX3_count_8 (by decide) (fun c8 => ?_) (fun c8 => ?_)
  · have hv := hv.1 c8
    refine lv_iconst (v := 0) hx hb dX3_count_21 (by decide) ?_
    refine lv_istore_n (lv' := [(2, .int 0), (0, .ref (ad 0)), (1, .int p0)]) hx hb dX3_count_22 rfl hl (by decide) rfl (fun ls hl => ?_)
    refine lv_iload_n hx hb dX3_count_23 rfl (lv_at hl 2 rfl) ?_
    by_cases d24_0 : p0 = 0
    · have hv := hv.1 d24_0
      refine lv_tableIn (off := 48) (tgt := 72) hx hb dX3_count_24 (by rw [d24_0]; decide) (by rw [d24_0]; decide) (by rw [d24_0]; rfl) (by decide) ?_
      refine lv_aload_n hx hb dX3_count_72 rfl (lv_at hl 1 rfl) ?_
      refine va_get (D := gD g) (ci := 3) (v := .int (sNq (mS σ))) (C := RX3) (T := TX3) (N := 33) hx hb hts hi3 hown hK hP 0 rfl rfl 12 (by decide) k0 (fun _ h9 => h9) rfl dX3_count_73 ?_
      exact W.iret (v := (sNq (mS σ))) hx hb hr (fun t ht hW => ⟨⟨(sNq (mS σ)), (), rfl, hv, trivial⟩, hS.F ht⟩) hS.2.2 dX3_count_76
    · have hv := hv.2 d24_0
      by_cases d24_1 : p0 = 1
      · have hv := hv.1 d24_1
        refine lv_tableIn (off := 53) (tgt := 77) hx hb dX3_count_24 (by rw [d24_1]; decide) (by rw [d24_1]; decide) (by rw [d24_1]; rfl) (by decide) ?_
        refine lv_aload_n hx hb dX3_count_77 rfl (lv_at hl 1 rfl) ?_
        refine va_get (D := gD g) (ci := 3) (v := .int (sNw (mS σ))) (C := RX3) (T := TX3) (N := 33) hx hb hts hi3 hown hK hP 0 rfl rfl 13 (by decide) k1 (fun _ h9 => h9) rfl dX3_count_78 ?_
        exact W.iret (v := (sNw (mS σ))) hx hb hr (fun t ht hW => ⟨⟨(sNw (mS σ)), (), rfl, hv, trivial⟩, hS.F ht⟩) hS.2.2 dX3_count_81
      · have hv := hv.2 d24_1
        by_cases d24_2 : p0 = 2
        · have hv := hv.1 d24_2
          refine lv_tableIn (off := 58) (tgt := 82) hx hb dX3_count_24 (by rw [d24_2]; decide) (by rw [d24_2]; decide) (by rw [d24_2]; rfl) (by decide) ?_
          refine lv_aload_n hx hb dX3_count_82 rfl (lv_at hl 1 rfl) ?_
          refine va_get (D := gD g) (ci := 3) (v := .int (sCase (mS σ))) (C := RX3) (T := TX3) (N := 33) hx hb hts hi3 hown hK hP 0 rfl rfl 11 (by decide) k2 (fun _ h9 => h9) rfl dX3_count_83 ?_
          exact W.iret (v := (sCase (mS σ))) hx hb hr (fun t ht hW => ⟨⟨(sCase (mS σ)), (), rfl, hv, trivial⟩, hS.F ht⟩) hS.2.2 dX3_count_86
        · have hv := hv.2 d24_2
          by_cases d24_3 : p0 = 3
          · have hv := hv.1 d24_3
            refine lv_tableIn (off := 63) (tgt := 87) hx hb dX3_count_24 (by rw [d24_3]; decide) (by rw [d24_3]; decide) (by rw [d24_3]; rfl) (by decide) ?_
            refine lv_aload_n hx hb dX3_count_87 rfl (lv_at hl 1 rfl) ?_
            refine va_get (D := gD g) (ci := 3) (v := .int (sNh (mS σ))) (C := RX3) (T := TX3) (N := 33) hx hb hts hi3 hown hK hP 0 rfl rfl 14 (by decide) k3 (fun _ h9 => h9) rfl dX3_count_88 ?_
            exact W.iret (v := (sNh (mS σ))) hx hb hr (fun t ht hW => ⟨⟨(sNh (mS σ)), (), rfl, hv, trivial⟩, hS.F ht⟩) hS.2.2 dX3_count_91
          · have hv := hv.2 d24_3
            by_cases d24_4 : p0 = 4
            · have hv := hv.1 d24_4
              refine lv_tableIn (off := 68) (tgt := 92) hx hb dX3_count_24 (by rw [d24_4]; decide) (by rw [d24_4]; decide) (by rw [d24_4]; rfl) (by decide) ?_
              refine lv_aload_n hx hb dX3_count_92 rfl (lv_at hl 1 rfl) ?_
              refine va_get (D := gD g) (ci := 3) (v := .int (sAsked (mS σ))) (C := RX3) (T := TX3) (N := 33) hx hb hts hi3 hown hK hP 0 rfl rfl 15 (by decide) k4 (fun _ h9 => h9) rfl dX3_count_93 ?_
              exact W.iret (v := (sAsked (mS σ))) hx hb hr (fun t ht hW => ⟨⟨(sAsked (mS σ)), (), rfl, hv, trivial⟩, hS.F ht⟩) hS.2.2 dX3_count_96
            · have hv := hv.2 d24_4
              by_cases d24_5 : p0 = 5
              · have hv := hv.1 d24_5
                refine lv_tableIn (off := 73) (tgt := 97) hx hb dX3_count_24 (by rw [d24_5]; decide) (by rw [d24_5]; decide) (by rw [d24_5]; rfl) (by decide) ?_
                refine lv_iconst (v := 0) hx hb dX3_count_97 (by decide) ?_
                refine lv_istore_n (lv' := [(3, .int 0), (2, .int 0), (0, .ref (ad 0)), (1, .int p0)]) hx hb dX3_count_98 rfl hl (by decide) rfl (fun ls hl => ?_)
                exact hv H locs ls hP hS (lv_sub hl [2, 1, 0] rfl)
              · have hv := hv.2 d24_5
                by_cases d24_6 : p0 = 6
                · have hv := hv.1 d24_6
                  refine lv_tableIn (off := 113) (tgt := 137) hx hb dX3_count_24 (by rw [d24_6]; decide) (by rw [d24_6]; decide) (by rw [d24_6]; rfl) (by decide) ?_
                  refine lv_aload_n hx hb dX3_count_137 rfl (lv_at hl 1 rfl) ?_
                  refine va_get (D := gD g) (ci := 3) (v := .int (mRowMany σ)) (C := RX3) (T := TX3) (N := 33) hx hb hts hi3 hown hK hP 0 rfl rfl 31 (by decide) k5 (fun _ h9 => h9) rfl dX3_count_138 ?_
                  exact W.iret (v := (mRowMany σ)) hx hb hr (fun t ht hW => ⟨⟨(mRowMany σ), (), rfl, hv, trivial⟩, hS.F ht⟩) hS.2.2 dX3_count_141
                · have hv := hv.2 d24_6
                  by_cases d24_7 : p0 = 7
                  · have hv := hv.1 d24_7
                    refine lv_tableIn (off := 118) (tgt := 142) hx hb dX3_count_24 (by rw [d24_7]; decide) (by rw [d24_7]; decide) (by rw [d24_7]; rfl) (by decide) ?_
                    refine lv_aload_n hx hb dX3_count_142 rfl (lv_at hl 1 rfl) ?_
                    refine va_get (D := gD g) (ci := 3) (v := .int (tTaped (mT σ))) (C := RX3) (T := TX3) (N := 33) hx hb hts hi3 hown hK hP 0 rfl rfl 20 (by decide) k6 (fun _ h9 => h9) rfl dX3_count_143 ?_
                    exact W.iret (v := (tTaped (mT σ))) hx hb hr (fun t ht hW => ⟨⟨(tTaped (mT σ)), (), rfl, hv, trivial⟩, hS.F ht⟩) hS.2.2 dX3_count_146
                  · have hv := hv.2 d24_7
                    refine lv_tableOut (tgt := 147) hx hb dX3_count_24 (by have n0 := lv_neT (a := 0) d24_0 (by decide); have n1 := lv_neT (a := 1) d24_1 (by decide); have n2 := lv_neT (a := 2) d24_2 (by decide); have n3 := lv_neT (a := 3) d24_3 (by decide); have n4 := lv_neT (a := 4) d24_4 (by decide); have n5 := lv_neT (a := 5) d24_5 (by decide); have n6 := lv_neT (a := 6) d24_6 (by decide); have n7 := lv_neT (a := 7) d24_7 (by decide); omega) (by decide) ?_
                    refine lv_bipush (v := (-9)) hx hb dX3_count_147 (by decide) ?_
                    exact W.iret (v := (-9)) hx hb hr (fun t ht hW => ⟨⟨(-9), (), rfl, hv, trivial⟩, hS.F ht⟩) hS.2.2 dX3_count_149
  · have hv := hv.2 c8
    refine lv_aload_n hx hb dX3_count_11 rfl (lv_at hl 0 rfl) ?_
    refine va_get (D := gD g) (ci := 3) (v := .ref (ad 1)) (C := RX3) (T := TX3) (N := 33) hx hb hts hi3 hown hK hP 0 rfl rfl 0 (by decide) k7 (fun _ h9 => h9) rfl dX3_count_12 ?_
    refine lv_iload_n hx hb dX3_count_15 rfl (lv_at hl 1 rfl) ?_
    refine lv_bipush (v := 10) hx hb dX3_count_16 (by decide) ?_
    refine lv_isub hx hb dX3_count_18 ?_
    have h9 := hv.1
    have hv := hv.2
    refine va_iald (f := (mRefused σ)) (n := 7) hx hb hK hP 1 0 rfl rfl h9 dX3_count_19 ?_
    exact W.iret (v := ((mRefused σ) ((p0 - 10)).toNatClampNeg)) hx hb hr (fun t ht hW => ⟨⟨((mRefused σ) ((p0 - 10)).toNatClampNeg), (), rfl, hv, trivial⟩, hS.F ht⟩) hS.2.2 dX3_count_20

