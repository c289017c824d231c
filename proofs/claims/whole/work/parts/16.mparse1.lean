set_option maxHeartbeats 4000000 in
set_option maxRecDepth 100000 in
theorem m_X3_next (l : Launch)  (g : CX) (ad : Nat → Nat) (σ : KM)  (Post : Int32 → Prop) (hv : vc_X3_next σ Post) : Met l yX3_next wsX3_next { frames := 0, cells := 0, slots := 0, locals := 0 } (va_Pc [.ref (ad 0)] (RO g (wM g ad σ))) (va_Qi (fun r (_ : Unit) => Post r) (fun _ _ => True) A0) 0 0 A0 := by
  unfold vc_X3_next at hv
  refine Met.ofW (cc := cX3_next) (maxL := 1) (ret := (some .int)) (by decide) rfl ?_
  intro p e s m args below meth c s₁ B hml hv0
  obtain ⟨rfl, hP, hK, hE⟩ := hv0
  have hx := B.exec
  have hb := B.bytes
  have hr := B.returns
  have hts := atoms_spec (ws := wsX3_next) B.pre
  have hown : s.vm.findClass RX3 = some m.cls := findClass_of_methodNamed B.named
  have hlocks := B.notSynchronized
  have hi3 : ∀ w ∈ wsX30, w ∈ wsX3_next := by decide +kernel
  have k0 := hts (.fieldLink RX3 90 "JuryHearsAnswersModel" "at" "I") (by decide +kernel)
  have k1 := hts (.fieldLink RX3 83 "JuryHearsAnswersModel" "taped" "I") (by decide +kernel)
  have k2 := hts (.fieldLink RX3 43 "JuryHearsAnswersModel" "tape" "[I") (by decide +kernel)
  have hS : va_S A0 s.heap s.heap [] := va_S.rf
  have hP : va_P (gD g) vwCl (wM g ad σ) s.heap := hP
  have hl := lv_entry ([.ref (ad 0)]) (n := 1) (Nat.le_of_ble_eq_true rfl)
  rw [lg_entry_eq]
  generalize (lg_sl ([.ref (ad 0)]) ++ List.replicate (1 - (lg_sl ([.ref (ad 0)])).length) Slot.unset).toArray = ls at hl ⊢
  have hl : lv_has ls 1 [(0, .ref (ad 0))] := hl
  obtain ⟨H, hH⟩ : ∃ z, z = s.heap := ⟨_, rfl⟩
  obtain ⟨locs, hL⟩ : ∃ z : List Loc, z = [] := ⟨_, rfl⟩
  rw [← hL] at hS ⊢
  have hS : va_S A0 s.heap H locs := by rw [hH]; exact hS
  rw [← hH] at hP ⊢
  clear hH hL
  refine lv_aload_n hx hb dX3_next_0 rfl (lv_at hl 0 rfl) ?_
  refine va_get (D := gD g) (ci := 3) (v := .int (tAt (mT σ))) (C := RX3) (T := TX3) (N := 33) hx hb hts hi3 hown hK hP 0 rfl rfl 21 (by decide) k0 (fun _ h9 => h9) rfl dX3_next_1 ?_
  refine lv_aload_n hx hb dX3_next_4 rfl (lv_at hl 0 rfl) ?_
  refine va_get (D := gD g) (ci := 3) (v := .int (tTaped (mT σ))) (C := RX3) (T := TX3) (N := 33) hx hb hts hi3 hown hK hP 0 rfl rfl 20 (by decide) k1 (fun _ h9 => h9) rfl dX3_next_5 ?_
  refine lv_icmp_ge (tgt := 23) hx hb dX3_next_8 (by decide) (fun c8 => ?_) (fun c8 => ?_)
  · have hv := hv.1 c8
    refine lv_iconst (v := (-1)) hx hb dX3_next_23 (by decide) ?_
    exact W.iret (v := (-1)) hx hb hr (fun t ht hW => ⟨⟨(-1), (), rfl, hv, trivial⟩, hS.F ht⟩) hS.2.2 dX3_next_24
  · have hv := hv.2 c8
    refine lv_aload_n hx hb dX3_next_11 rfl (lv_at hl 0 rfl) ?_
    refine va_get (D := gD g) (ci := 3) (v := .ref (ad 12)) (C := RX3) (T := TX3) (N := 33) hx hb hts hi3 hown hK hP 0 rfl rfl 16 (by decide) k2 (fun _ h9 => h9) rfl dX3_next_12 ?_
    refine lv_aload_n hx hb dX3_next_15 rfl (lv_at hl 0 rfl) ?_
    refine va_get (D := gD g) (ci := 3) (v := .int (tAt (mT σ))) (C := RX3) (T := TX3) (N := 33) hx hb hts hi3 hown hK hP 0 rfl rfl 21 (by decide) k0 (fun _ h9 => h9) rfl dX3_next_16 ?_
    have h9 := hv.1
    have hv := hv.2
    refine va_iald (f := (tTape (mT σ))) (n := 96) hx hb hK hP 12 0 rfl rfl h9 dX3_next_19 ?_
    refine lv_goto (tgt := 24) hx hb dX3_next_20 (by decide) ?_
    exact W.iret (v := ((tTape (mT σ)) ((tAt (mT σ))).toNatClampNeg)) hx hb hr (fun t ht hW => ⟨⟨((tTape (mT σ)) ((tAt (mT σ))).toNatClampNeg), (), rfl, hv, trivial⟩, hS.F ht⟩) hS.2.2 dX3_next_24

set_option maxHeartbeats 4000000 in
set_option maxRecDepth 100000 in
theorem m_X3_kindOf (l : Launch)  (g : CX) (p0 : Int32) (Post : Int32 → Prop) (hv : vc_X3_kindOf p0 Post) : Met l yX3_kindOf wsX3_kindOf { frames := 0, cells := 0, slots := 0, locals := 0 } (va_Pc [.int p0] (RO g [])) (va_Qi (fun r (_ : Unit) => Post r) (fun _ _ => True) A0) 0 0 A0 := by
  unfold vc_X3_kindOf at hv
  refine Met.ofW (cc := cX3_kindOf) (maxL := 1) (ret := (some .int)) (by decide) rfl ?_
  intro p e s m args below meth c s₁ B hml hv0
  obtain ⟨rfl, hP, hK, hE⟩ := hv0
  have hx := B.exec
  have hb := B.bytes
  have hr := B.returns
  have hts := atoms_spec (ws := wsX3_kindOf) B.pre
  have hown : s.vm.findClass RX3 = some m.cls := findClass_of_methodNamed B.named
  have hlocks := B.notSynchronized
  have hS : va_S A0 s.heap s.heap [] := va_S.rf
  have hP : va_P (gD g) vwCl ([]) s.heap := hP
  have hl := lv_entry ([.int p0]) (n := 1) (Nat.le_of_ble_eq_true rfl)
  rw [lg_entry_eq]
  generalize (lg_sl ([.int p0]) ++ List.replicate (1 - (lg_sl ([.int p0])).length) Slot.unset).toArray = ls at hl ⊢
  have hl : lv_has ls 1 [(0, .int p0)] := hl
  obtain ⟨H, hH⟩ : ∃ z, z = s.heap := ⟨_, rfl⟩
  obtain ⟨locs, hL⟩ : ∃ z : List Loc, z = [] := ⟨_, rfl⟩
  rw [← hL] at hS ⊢
  have hS : va_S A0 s.heap H locs := by rw [hH]; exact hS
  rw [← hH] at hP ⊢
  clear hH hL
  refine lv_iload_n hx hb dX3_kindOf_0 rfl (lv_at hl 0 rfl) ?_
  refine lv_bipush (v := 119) hx hb dX3_kindOf_1 (by decide) ?_
  refine lv_icmp_ne (tgt := 10) hx hb dX3_kindOf_3 (by decide) (fun c3 => ?_) (fun c3 => ?_)
  · have hv := hv.1 c3
    refine lv_iload_n hx hb dX3_kindOf_10 rfl (lv_at hl 0 rfl) ?_
    refine lv_bipush (v := 108) hx hb dX3_kindOf_11 (by decide) ?_
    refine lv_icmp_ne (tgt := 20) hx hb dX3_kindOf_13 (by decide) (fun c13 => ?_) (fun c13 => ?_)
    · have hv := hv.1 c13
      refine lv_iload_n hx hb dX3_kindOf_20 rfl (lv_at hl 0 rfl) ?_
      refine lv_bipush (v := 98) hx hb dX3_kindOf_21 (by decide) ?_
      refine lv_icmp_ne (tgt := 30) hx hb dX3_kindOf_23 (by decide) (fun c23 => ?_) (fun c23 => ?_)
      · have hv := hv.1 c23
        refine lv_iload_n hx hb dX3_kindOf_30 rfl (lv_at hl 0 rfl) ?_
        refine lv_bipush (v := 102) hx hb dX3_kindOf_31 (by decide) ?_
        refine lv_icmp_ne (tgt := 40) hx hb dX3_kindOf_33 (by decide) (fun c33 => ?_) (fun c33 => ?_)
        · have hv := hv.1 c33
          refine lv_iload_n hx hb dX3_kindOf_40 rfl (lv_at hl 0 rfl) ?_
          refine lv_bipush (v := 114) hx hb dX3_kindOf_41 (by decide) ?_
          refine lv_icmp_ne (tgt := 50) hx hb dX3_kindOf_43 (by decide) (fun c43 => ?_) (fun c43 => ?_)
          · have hv := hv.1 c43
            refine lv_iload_n hx hb dX3_kindOf_50 rfl (lv_at hl 0 rfl) ?_
            refine lv_bipush (v := 99) hx hb dX3_kindOf_51 (by decide) ?_
            refine lv_icmp_ne (tgt := 60) hx hb dX3_kindOf_53 (by decide) (fun c53 => ?_) (fun c53 => ?_)
            · have hv := hv.1 c53
              refine lv_iconst (v := (-1)) hx hb dX3_kindOf_60 (by decide) ?_
              exact W.iret (v := (-1)) hx hb hr (fun t ht hW => ⟨⟨(-1), (), rfl, hv, trivial⟩, hS.F ht⟩) hS.2.2 dX3_kindOf_61
            · have hv := hv.2 c53
              refine lv_iconst (v := 5) hx hb dX3_kindOf_56 (by decide) ?_
              refine lv_goto (tgt := 61) hx hb dX3_kindOf_57 (by decide) ?_
              exact W.iret (v := 5) hx hb hr (fun t ht hW => ⟨⟨5, (), rfl, hv, trivial⟩, hS.F ht⟩) hS.2.2 dX3_kindOf_61
          · have hv := hv.2 c43
            refine lv_iconst (v := 4) hx hb dX3_kindOf_46 (by decide) ?_
            refine lv_goto (tgt := 61) hx hb dX3_kindOf_47 (by decide) ?_
            exact W.iret (v := 4) hx hb hr (fun t ht hW => ⟨⟨4, (), rfl, hv, trivial⟩, hS.F ht⟩) hS.2.2 dX3_kindOf_61
        · have hv := hv.2 c33
          refine lv_iconst (v := 3) hx hb dX3_kindOf_36 (by decide) ?_
          refine lv_goto (tgt := 61) hx hb dX3_kindOf_37 (by decide) ?_
          exact W.iret (v := 3) hx hb hr (fun t ht hW => ⟨⟨3, (), rfl, hv, trivial⟩, hS.F ht⟩) hS.2.2 dX3_kindOf_61
      · have hv := hv.2 c23
        refine lv_iconst (v := 2) hx hb dX3_kindOf_26 (by decide) ?_
        refine lv_goto (tgt := 61) hx hb dX3_kindOf_27 (by decide) ?_
        exact W.iret (v := 2) hx hb hr (fun t ht hW => ⟨⟨2, (), rfl, hv, trivial⟩, hS.F ht⟩) hS.2.2 dX3_kindOf_61
    · have hv := hv.2 c13
      refine lv_iconst (v := 1) hx hb dX3_kindOf_16 (by decide) ?_
      refine lv_goto (tgt := 61) hx hb dX3_kindOf_17 (by decide) ?_
      exact W.iret (v := 1) hx hb hr (fun t ht hW => ⟨⟨1, (), rfl, hv, trivial⟩, hS.F ht⟩) hS.2.2 dX3_kindOf_61
  · have hv := hv.2 c3
    refine lv_iconst (v := 0) hx hb dX3_kindOf_6 (by decide) ?_
    refine lv_goto (tgt := 61) hx hb dX3_kindOf_7 (by decide) ?_
    exact W.iret (v := 0) hx hb hr (fun t ht hW => ⟨⟨0, (), rfl, hv, trivial⟩, hS.F ht⟩) hS.2.2 dX3_kindOf_61

set_option maxHeartbeats 4000000 in
set_option maxRecDepth 100000 in
theorem m_X3_readsDigits (l : Launch) (h_X3_isIn : C_X3_isIn l) (h_X3_next : C_X3_next l) (g : CX) (ad : Nat → Nat) (σ : KM) (p0 : Int32) (p1 : Int32) (Post : Int32 → KM → Prop) (hv : vc_X3_readsDigits σ p0 p1 Post) : Met l yX3_readsDigits wsX3_readsDigits { frames := 1, cells := 0, slots := 0, locals := 22 } (va_Pc [.ref (ad 0), .int p0, .int p1] (RW g (AD ad 0 21) (wM g ad σ))) (va_Qi (fun (r : Int32) (u : KM) => Post r u) (fun u t => va_P (gD g) vwCl (wM g ad u) t.heap) (AD ad 0 21)) 0 0 (AD ad 0 21) := by
  unfold vc_X3_readsDigits at hv
  refine Met.ofW (cc := cX3_readsDigits) (maxL := 5) (ret := (some .boolean)) (by decide) rfl ?_
  intro p e s m args below meth c s₁ B hml hv0
  obtain ⟨rfl, hP, hK, hE, hD⟩ := hv0
  have hx := B.exec
  have hb := B.bytes
  have hr := B.returns
  have hts := atoms_spec (ws := wsX3_readsDigits) B.pre
  have hown : s.vm.findClass RX3 = some m.cls := findClass_of_methodNamed B.named
  have hlocks := B.notSynchronized
  have hi3 : ∀ w ∈ wsX30, w ∈ wsX3_readsDigits := by decide +kernel
  have k0 := hts (.fieldLink RX3 52 "JuryHearsAnswersModel" "told" "[I") (by decide +kernel)
  have k1 := hts (.fieldLink RX3 90 "JuryHearsAnswersModel" "at" "I") (by decide +kernel)
  have hS : va_S (AD ad 0 21) s.heap s.heap [] := va_S.rf
  have hP : va_P (gD g) vwCl (wM g ad σ) s.heap := hP
  have hl := lv_entry ([.ref (ad 0), .int p0, .int p1]) (n := 5) (Nat.le_of_ble_eq_true rfl)
  rw [lg_entry_eq]
  generalize (lg_sl ([.ref (ad 0), .int p0, .int p1]) ++ List.replicate (5 - (lg_sl ([.ref (ad 0), .int p0, .int p1])).length) Slot.unset).toArray = ls at hl ⊢
  have hl : lv_has ls 5 [(0, .ref (ad 0)), (1, .int p0), (2, .int p1)] := hl
  have hv := hv (fun (x3 : Int32) (x4 : Int32) (s_T_at : Int32) (s_T_told : FI) => ∀ (H : Heap) (locs : List Loc) (ls : Array Slot), va_P (gD g) vwCl (wM g ad ((mS σ), ((tTape (mT σ)), (tLetter (mT σ)), (tLetterAt (mT σ)), s_T_told, (tTaped (mT σ)), s_T_at, (tStm (mT σ))), (mK σ), (mF σ), (mRow σ), (mRowMany σ), (mLots σ), (mRefused σ))) H → va_D (AD ad 0 21) (wM g ad ((mS σ), ((tTape (mT σ)), (tLetter (mT σ)), (tLetterAt (mT σ)), s_T_told, (tTaped (mT σ)), s_T_at, (tStm (mT σ))), (mK σ), (mF σ), (mRow σ), (mRowMany σ), (mLots σ), (mRefused σ))) → va_S (AD ad 0 21) s.heap H locs → lv_has ls 5 [(0, .ref (ad 0)), (1, .int p0), (2, .int p1), (3, .int x3), (4, .int x4)] → W p l e { frames := 1, cells := 0, slots := 0, locals := 22 } s m ([.ref (ad 0), .int p0, .int p1] : List Value).toArray below meth c H locs 0 0 (MQ below (va_Qi (fun (r : Int32) (u : KM) => Post r u) (fun u t => va_P (gD g) vwCl (wM g ad u) t.heap) (AD ad 0 21)) ([.ref (ad 0), .int p0, .int p1] : List Value).toArray s 0 0 (AD ad 0 21)) (F0 m 5 ls []))
  have hv := hv (by
    intro x3 x4 s_T_at s_T_told hv H locs ls hP hD hS hl
    refine lv_iload hx hb dX3_readsDigits_5 (lv_at hl 4 rfl) ?_
    refine lv_iload_n hx hb dX3_readsDigits_7 rfl (lv_at hl 2 rfl) ?_
    refine lv_icmp_ge (tgt := 56) hx hb dX3_readsDigits_8 (by decide) (fun c8 => ?_) (fun c8 => ?_)
    · have hv := hv.1 c8
      refine lv_aload_n hx hb dX3_readsDigits_56 rfl (lv_at hl 0 rfl) ?_
      refine va_get (D := gD g) (ci := 3) (v := .ref (ad 15)) (C := RX3) (T := TX3) (N := 33) hx hb hts hi3 hown hK hP 0 rfl rfl 19 (by decide) k0 (fun _ h9 => h9) rfl dX3_readsDigits_57 ?_
      refine lv_iload_n hx hb dX3_readsDigits_60 rfl (lv_at hl 1 rfl) ?_
      refine lv_iload_n hx hb dX3_readsDigits_61 rfl (lv_at hl 3 rfl) ?_
      have h9 := hv.1
      have hv := hv.2
      refine va_iast (f := s_T_told) (n := 144) hx hb hK hP hD hS 15 0 rfl rfl h9 dX3_readsDigits_62 (fun H locs hP hD hS => ?_)
      have hP : va_P (gD g) vwCl (wM g ad ((mS σ), ((tTape (mT σ)), (tLetter (mT σ)), (tLetterAt (mT σ)), (upd s_T_told (p0).toNatClampNeg x3), (tTaped (mT σ)), s_T_at, (tStm (mT σ))), (mK σ), (mF σ), (mRow σ), (mRowMany σ), (mLots σ), (mRefused σ))) H := hP
      have hD : va_D (AD ad 0 21) (wM g ad ((mS σ), ((tTape (mT σ)), (tLetter (mT σ)), (tLetterAt (mT σ)), (upd s_T_told (p0).toNatClampNeg x3), (tTaped (mT σ)), s_T_at, (tStm (mT σ))), (mK σ), (mF σ), (mRow σ), (mRowMany σ), (mLots σ), (mRefused σ))) := hD
      refine lv_iconst (v := 1) hx hb dX3_readsDigits_63 (by decide) ?_
      exact W.zret (v := 1) hx hb hr rfl (fun t ht hW => ⟨⟨1, ((mS σ), ((tTape (mT σ)), (tLetter (mT σ)), (tLetterAt (mT σ)), (upd s_T_told (p0).toNatClampNeg x3), (tTaped (mT σ)), s_T_at, (tStm (mT σ))), (mK σ), (mF σ), (mRow σ), (mRowMany σ), (mLots σ), (mRefused σ)), rfl, hv, P_at ht hP⟩, hS.F ht⟩) hS.2.2 dX3_readsDigits_64
    · have hv := hv.2 c8
      refine lv_aload_n hx hb dX3_readsDigits_11 rfl (lv_at hl 0 rfl) ?_
      have h8 := hv.1
      have hv := hv.2
      have hPc := hP
      refine ro_int (va_runV (As := []) (rest := []) ⟨hx, hb, hml, hown, hts⟩ (h_X3_next g ad ((mS σ), ((tTape (mT σ)), (tLetter (mT σ)), (tLetterAt (mT σ)), s_T_told, (tTaped (mT σ)), s_T_at, (tStm (mT σ))), (mK σ), (mF σ), (mRow σ), (mRowMany σ), (mLots σ), (mRefused σ)) h8) (cwV 0 hts gX3_readsDigits_X3_next rfl rfl rfl (by decide +kernel) ⟨Nat.le_of_ble_eq_true rfl, Nat.le_of_ble_eq_true rfl⟩) ⟨RO_blind, va_recv hK hP (ci := 3) (q0 := 0) rfl rfl, fun U hU hW => ⟨rfl, by rw [hU]; exact hPc, va_K.moved hW.alike hK, hE.call hW hU hS (fun _ h => h.elim)⟩⟩ rfl rfl hl.1 rfl (lv_room (Nat.le_of_ble_eq_true rfl)) dX3_readsDigits_12 ⟨Nat.le_of_ble_eq_true rfl, Nat.le_of_ble_eq_true rfl⟩) hS hP (fun r H locs hw hP hS => ?_)
      subst r
      refine lv_bipush (v := 48) hx hb dX3_readsDigits_15 (by decide) ?_
      refine lv_bipush (v := 57) hx hb dX3_readsDigits_17 (by decide) ?_
      have hPc : va_P (gD g) vwCl [] H := fun k q h => by simp at h
      refine ro_int (va_runS (As := [.int (nxt ((tTape (mT σ)), (tLetter (mT σ)), (tLetterAt (mT σ)), s_T_told, (tTaped (mT σ)), s_T_at, (tStm (mT σ))) s_T_at), .int 48, .int 57]) (rest := []) ⟨hx, hb, hml, hown, hts⟩ (h_X3_isIn g (nxt ((tTape (mT σ)), (tLetter (mT σ)), (tLetterAt (mT σ)), s_T_told, (tTaped (mT σ)), s_T_at, (tStm (mT σ))) s_T_at) 48 57) (va_cwS 3 hts gX3_readsDigits_X3_isIn rfl rfl rfl (by decide +kernel) ⟨Nat.le_of_ble_eq_true rfl, Nat.le_of_ble_eq_true rfl⟩) ⟨RO_blind, fun U hU hW => ⟨rfl, by rw [hU]; exact hPc, va_K.moved hW.alike hK, hE.call hW hU hS (fun _ h => h.elim)⟩⟩ rfl rfl hl.1 rfl (lv_room (Nat.le_of_ble_eq_true rfl)) dX3_readsDigits_19 ⟨Nat.le_of_ble_eq_true rfl, Nat.le_of_ble_eq_true rfl⟩) hS hP (fun r H locs hw hP hS => ?_)
      subst r
      refine lv_if_ne (tgt := 27) hx hb dX3_readsDigits_22 (by decide) (fun c22 => ?_) (fun c22 => ?_)
      · have hv := hv.1 c22
        refine lv_bipush (v := 10) hx hb dX3_readsDigits_27 (by decide) ?_
        refine lv_iload_n hx hb dX3_readsDigits_29 rfl (lv_at hl 3 rfl) ?_
        refine lv_imul hx hb dX3_readsDigits_30 ?_
        refine lv_aload_n hx hb dX3_readsDigits_31 rfl (lv_at hl 0 rfl) ?_
        have h8 := hv.1
        have hv := hv.2
        have hPc := hP
        refine ro_int (va_runV (As := []) (rest := [.int (10 * x3)]) ⟨hx, hb, hml, hown, hts⟩ (h_X3_next g ad ((mS σ), ((tTape (mT σ)), (tLetter (mT σ)), (tLetterAt (mT σ)), s_T_told, (tTaped (mT σ)), s_T_at, (tStm (mT σ))), (mK σ), (mF σ), (mRow σ), (mRowMany σ), (mLots σ), (mRefused σ)) h8) (cwV 0 hts gX3_readsDigits_X3_next rfl rfl rfl (by decide +kernel) ⟨Nat.le_of_ble_eq_true rfl, Nat.le_of_ble_eq_true rfl⟩) ⟨RO_blind, va_recv hK hP (ci := 3) (q0 := 0) rfl rfl, fun U hU hW => ⟨rfl, by rw [hU]; exact hPc, va_K.moved hW.alike hK, hE.call hW hU hS (fun _ h => h.elim)⟩⟩ rfl rfl hl.1 rfl (lv_room (Nat.le_of_ble_eq_true rfl)) dX3_readsDigits_32 ⟨Nat.le_of_ble_eq_true rfl, Nat.le_of_ble_eq_true rfl⟩) hS hP (fun r H locs hw hP hS => ?_)
        subst r
        refine lv_iadd hx hb dX3_readsDigits_35 ?_
        refine lv_bipush (v := 48) hx hb dX3_readsDigits_36 (by decide) ?_
        refine lv_isub hx hb dX3_readsDigits_38 ?_
        refine lv_istore_n (lv' := [(3, .int (((10 * x3) + (nxt ((tTape (mT σ)), (tLetter (mT σ)), (tLetterAt (mT σ)), s_T_told, (tTaped (mT σ)), s_T_at, (tStm (mT σ))) s_T_at)) - 48)), (0, .ref (ad 0)), (1, .int p0), (2, .int p1), (4, .int x4)]) hx hb dX3_readsDigits_39 rfl hl (by decide) rfl (fun ls hl => ?_)
        refine lv_aload_n hx hb dX3_readsDigits_40 rfl (lv_at hl 1 rfl) ?_
        refine lv_dup hx hb dX3_readsDigits_41 rfl ?_
        refine va_get (D := gD g) (ci := 3) (v := .int s_T_at) (C := RX3) (T := TX3) (N := 33) hx hb hts hi3 hown hK hP 0 rfl rfl 21 (by decide) k1 (fun _ h9 => h9) rfl dX3_readsDigits_42 ?_
        refine lv_iconst (v := 1) hx hb dX3_readsDigits_45 (by decide) ?_
        refine lv_iadd hx hb dX3_readsDigits_46 ?_
        refine va_put (D := gD g) (ci := 3) (v := .int (s_T_at + 1)) (ty := .int) (C := RX3) (T := TX3) (N := 33) hx hb hts hi3 tyX3 tyX3_ok nmX3 hown hK hP hD hS 0 rfl rfl 21 (by decide) k1 (fun _ h9 => h9) rfl (by decide +kernel) rfl rfl (Nat.le_of_ble_eq_true rfl) dX3_readsDigits_47 (fun H locs hP hD hS => ?_)
        have hP : va_P (gD g) vwCl (wM g ad ((mS σ), ((tTape (mT σ)), (tLetter (mT σ)), (tLetterAt (mT σ)), s_T_told, (tTaped (mT σ)), (s_T_at + 1), (tStm (mT σ))), (mK σ), (mF σ), (mRow σ), (mRowMany σ), (mLots σ), (mRefused σ))) H := hP
        have hD : va_D (AD ad 0 21) (wM g ad ((mS σ), ((tTape (mT σ)), (tLetter (mT σ)), (tLetterAt (mT σ)), s_T_told, (tTaped (mT σ)), (s_T_at + 1), (tStm (mT σ))), (mK σ), (mF σ), (mRow σ), (mRowMany σ), (mLots σ), (mRefused σ))) := hD
        refine lv_iinc (v := (x4 + 1)) (lv' := [(4, .int (x4 + 1)), (3, .int (((10 * x3) + (nxt ((tTape (mT σ)), (tLetter (mT σ)), (tLetterAt (mT σ)), s_T_told, (tTaped (mT σ)), s_T_at, (tStm (mT σ))) s_T_at)) - 48)), (0, .ref (ad 0)), (1, .int p0), (2, .int p1)]) hx hb dX3_readsDigits_50 hl (k := 4) rfl (by first | rfl | exact congrArg _ (by decide)) (by decide) rfl (fun ls hl => ?_)
        refine lv_goto (tgt := 5) hx hb dX3_readsDigits_53 (by decide) ?_
        exact hv H locs ls hP hD hS (lv_sub hl [2, 3, 4, 1, 0] rfl)
      · have hv := hv.2 c22
        refine lv_iconst (v := 0) hx hb dX3_readsDigits_25 (by decide) ?_
        exact W.zret (v := 0) hx hb hr rfl (fun t ht hW => ⟨⟨0, ((mS σ), ((tTape (mT σ)), (tLetter (mT σ)), (tLetterAt (mT σ)), s_T_told, (tTaped (mT σ)), s_T_at, (tStm (mT σ))), (mK σ), (mF σ), (mRow σ), (mRowMany σ), (mLots σ), (mRefused σ)), rfl, hv, P_at ht hP⟩, hS.F ht⟩) hS.2.2 dX3_readsDigits_26)
  obtain ⟨H, hH⟩ : ∃ z, z = s.heap := ⟨_, rfl⟩
  obtain ⟨locs, hL⟩ : ∃ z : List Loc, z = [] := ⟨_, rfl⟩
  rw [← hL] at hS ⊢
  have hS : va_S (AD ad 0 21) s.heap H locs := by rw [hH]; exact hS
  rw [← hH] at hP ⊢
  clear hH hL
  refine lv_iconst (v := 0) hx hb dX3_readsDigits_0 (by decide) ?_
  refine lv_istore_n (lv' := [(3, .int 0), (0, .ref (ad 0)), (1, .int p0), (2, .int p1)]) hx hb dX3_readsDigits_1 rfl hl (by decide) rfl (fun ls hl => ?_)
  refine lv_iconst (v := 0) hx hb dX3_readsDigits_2 (by decide) ?_
  refine lv_istore (lv' := [(4, .int 0), (3, .int 0), (0, .ref (ad 0)), (1, .int p0), (2, .int p1)]) hx hb dX3_readsDigits_3 hl (by decide) rfl (fun ls hl => ?_)
  exact hv H locs ls hP hD hS (lv_sub hl [2, 3, 4, 1, 0] rfl)

set_option maxHeartbeats 4000000 in
set_option maxRecDepth 100000 in
theorem m_X3_readsWitness (l : Launch) (h_X3_kindOf : C_X3_kindOf l) (h_X3_next : C_X3_next l) (h_X3_readsDigits : C_X3_readsDigits l) (g : CX) (ad : Nat → Nat) (σ : KM) (p0 : Int32) (Post : Int32 → KM → Prop) (hv : vc_X3_readsWitness σ p0 Post) : Met l yX3_readsWitness wsX3_readsWitness { frames := 2, cells := 0, slots := 0, locals := 46 } (va_Pc [.ref (ad 0), .int p0] (RW g (AD ad 0 21) (wM g ad σ))) (va_Qi (fun (r : Int32) (u : KM) => Post r u) (fun u t => va_P (gD g) vwCl (wM g ad u) t.heap) (AD ad 0 21)) 0 0 (AD ad 0 21) := by
  unfold vc_X3_readsWitness at hv
  refine Met.ofW (cc := cX3_readsWitness) (maxL := 2) (ret := (some .boolean)) (by decide) rfl ?_
  intro p e s m args below meth c s₁ B hml hv0
  obtain ⟨rfl, hP, hK, hE, hD⟩ := hv0
  have hx := B.exec
  have hb := B.bytes
  have hr := B.returns
  have hts := atoms_spec (ws := wsX3_readsWitness) B.pre
  have hown : s.vm.findClass RX3 = some m.cls := findClass_of_methodNamed B.named
  have hlocks := B.notSynchronized
  have hi3 : ∀ w ∈ wsX30, w ∈ wsX3_readsWitness := by decide +kernel
  have k0 := hts (.fieldLink RX3 52 "JuryHearsAnswersModel" "told" "[I") (by decide +kernel)
  have k1 := hts (.fieldLink RX3 90 "JuryHearsAnswersModel" "at" "I") (by decide +kernel)
  have hS : va_S (AD ad 0 21) s.heap s.heap [] := va_S.rf
  have hP : va_P (gD g) vwCl (wM g ad σ) s.heap := hP
  have hl := lv_entry ([.ref (ad 0), .int p0]) (n := 2) (Nat.le_of_ble_eq_true rfl)
  rw [lg_entry_eq]
  generalize (lg_sl ([.ref (ad 0), .int p0]) ++ List.replicate (2 - (lg_sl ([.ref (ad 0), .int p0])).length) Slot.unset).toArray = ls at hl ⊢
  have hl : lv_has ls 2 [(0, .ref (ad 0)), (1, .int p0)] := hl
  obtain ⟨H, hH⟩ : ∃ z, z = s.heap := ⟨_, rfl⟩
  obtain ⟨locs, hL⟩ : ∃ z : List Loc, z = [] := ⟨_, rfl⟩
  rw [← hL] at hS ⊢
  have hS : va_S (AD ad 0 21) s.heap H locs := by rw [hH]; exact hS
  rw [← hH] at hP ⊢
  clear hH hL
  refine lv_aload_n hx hb dX3_readsWitness_0 rfl (lv_at hl 0 rfl) ?_
  refine va_get (D := gD g) (ci := 3) (v := .ref (ad 15)) (C := RX3) (T := TX3) (N := 33) hx hb hts hi3 hown hK hP 0 rfl rfl 19 (by decide) k0 (fun _ h9 => h9) rfl dX3_readsWitness_1 ?_
  refine lv_iload_n hx hb dX3_readsWitness_4 rfl (lv_at hl 1 rfl) ?_
  refine lv_aload_n hx hb dX3_readsWitness_5 rfl (lv_at hl 0 rfl) ?_
  have h8 := hv.1
  have hv := hv.2
  have hPc := hP
  refine ro_int (va_runV (As := []) (rest := [.int p0, .ref (ad 15)]) ⟨hx, hb, hml, hown, hts⟩ (h_X3_next g ad σ h8) (cwV 0 hts gX3_readsWitness_X3_next rfl rfl rfl (by decide +kernel) ⟨Nat.le_of_ble_eq_true rfl, Nat.le_of_ble_eq_true rfl⟩) ⟨RO_blind, va_recv hK hP (ci := 3) (q0 := 0) rfl rfl, fun U hU hW => ⟨rfl, by rw [hU]; exact hPc, va_K.moved hW.alike hK, hE.call hW hU hS (fun _ h => h.elim)⟩⟩ rfl rfl hl.1 rfl (lv_room (Nat.le_of_ble_eq_true rfl)) dX3_readsWitness_6 ⟨Nat.le_of_ble_eq_true rfl, Nat.le_of_ble_eq_true rfl⟩) hS hP (fun r H locs hw hP hS => ?_)
  subst r
  have hPc : va_P (gD g) vwCl [] H := fun k q h => by simp at h
  refine ro_int (va_runS (As := [.int (nxt (mT σ) (tAt (mT σ)))]) (rest := [.int p0, .ref (ad 15)]) ⟨hx, hb, hml, hown, hts⟩ (h_X3_kindOf g (nxt (mT σ) (tAt (mT σ)))) (va_cwS 1 hts gX3_readsWitness_X3_kindOf rfl rfl rfl (by decide +kernel) ⟨Nat.le_of_ble_eq_true rfl, Nat.le_of_ble_eq_true rfl⟩) ⟨RO_blind, fun U hU hW => ⟨rfl, by rw [hU]; exact hPc, va_K.moved hW.alike hK, hE.call hW hU hS (fun _ h => h.elim)⟩⟩ rfl rfl hl.1 rfl (lv_room (Nat.le_of_ble_eq_true rfl)) dX3_readsWitness_9 ⟨Nat.le_of_ble_eq_true rfl, Nat.le_of_ble_eq_true rfl⟩) hS hP (fun r H locs hw hP hS => ?_)
  subst r
  have h9 := hv.1
  have hv := hv.2
  refine va_iast (f := (tTold (mT σ))) (n := 144) hx hb hK hP hD hS 15 0 rfl rfl h9 dX3_readsWitness_12 (fun H locs hP hD hS => ?_)
  have hP : va_P (gD g) vwCl (wM g ad ((mS σ), ((tTape (mT σ)), (tLetter (mT σ)), (tLetterAt (mT σ)), (upd (tTold (mT σ)) (p0).toNatClampNeg (kindOfI (nxt (mT σ) (tAt (mT σ))))), (tTaped (mT σ)), (tAt (mT σ)), (tStm (mT σ))), (mK σ), (mF σ), (mRow σ), (mRowMany σ), (mLots σ), (mRefused σ))) H := hP
  have hD : va_D (AD ad 0 21) (wM g ad ((mS σ), ((tTape (mT σ)), (tLetter (mT σ)), (tLetterAt (mT σ)), (upd (tTold (mT σ)) (p0).toNatClampNeg (kindOfI (nxt (mT σ) (tAt (mT σ))))), (tTaped (mT σ)), (tAt (mT σ)), (tStm (mT σ))), (mK σ), (mF σ), (mRow σ), (mRowMany σ), (mLots σ), (mRefused σ))) := hD
  refine lv_aload_n hx hb dX3_readsWitness_13 rfl (lv_at hl 0 rfl) ?_
  refine va_get (D := gD g) (ci := 3) (v := .ref (ad 15)) (C := RX3) (T := TX3) (N := 33) hx hb hts hi3 hown hK hP 0 rfl rfl 19 (by decide) k0 (fun _ h9 => h9) rfl dX3_readsWitness_14 ?_
  refine lv_iload_n hx hb dX3_readsWitness_17 rfl (lv_at hl 1 rfl) ?_
  have h9 := hv.1
  have hv := hv.2
  refine va_iald (f := (upd (tTold (mT σ)) (p0).toNatClampNeg (kindOfI (nxt (mT σ) (tAt (mT σ)))))) (n := 144) hx hb hK hP 15 0 rfl rfl h9 dX3_readsWitness_18 ?_
  refine lv_if_ge (tgt := 24) hx hb dX3_readsWitness_19 (by decide) (fun c19 => ?_) (fun c19 => ?_)
  · have hv := hv.1 c19
    refine lv_aload_n hx hb dX3_readsWitness_24 rfl (lv_at hl 0 rfl) ?_
    refine lv_dup hx hb dX3_readsWitness_25 rfl ?_
    refine va_get (D := gD g) (ci := 3) (v := .int (tAt (mT σ))) (C := RX3) (T := TX3) (N := 33) hx hb hts hi3 hown hK hP 0 rfl rfl 21 (by decide) k1 (fun _ h9 => h9) rfl dX3_readsWitness_26 ?_
    refine lv_iconst (v := 1) hx hb dX3_readsWitness_29 (by decide) ?_
    refine lv_iadd hx hb dX3_readsWitness_30 ?_
    refine va_put (D := gD g) (ci := 3) (v := .int ((tAt (mT σ)) + 1)) (ty := .int) (C := RX3) (T := TX3) (N := 33) hx hb hts hi3 tyX3 tyX3_ok nmX3 hown hK hP hD hS 0 rfl rfl 21 (by decide) k1 (fun _ h9 => h9) rfl (by decide +kernel) rfl rfl (Nat.le_of_ble_eq_true rfl) dX3_readsWitness_31 (fun H locs hP hD hS => ?_)
    have hP : va_P (gD g) vwCl (wM g ad ((mS σ), ((tTape (mT σ)), (tLetter (mT σ)), (tLetterAt (mT σ)), (upd (tTold (mT σ)) (p0).toNatClampNeg (kindOfI (nxt (mT σ) (tAt (mT σ))))), (tTaped (mT σ)), ((tAt (mT σ)) + 1), (tStm (mT σ))), (mK σ), (mF σ), (mRow σ), (mRowMany σ), (mLots σ), (mRefused σ))) H := hP
    have hD : va_D (AD ad 0 21) (wM g ad ((mS σ), ((tTape (mT σ)), (tLetter (mT σ)), (tLetterAt (mT σ)), (upd (tTold (mT σ)) (p0).toNatClampNeg (kindOfI (nxt (mT σ) (tAt (mT σ))))), (tTaped (mT σ)), ((tAt (mT σ)) + 1), (tStm (mT σ))), (mK σ), (mF σ), (mRow σ), (mRowMany σ), (mLots σ), (mRefused σ))) := hD
    refine lv_aload_n hx hb dX3_readsWitness_34 rfl (lv_at hl 0 rfl) ?_
    refine lv_iload_n hx hb dX3_readsWitness_35 rfl (lv_at hl 1 rfl) ?_
    refine lv_iconst (v := 1) hx hb dX3_readsWitness_36 (by decide) ?_
    refine lv_iadd hx hb dX3_readsWitness_37 ?_
    refine lv_iconst (v := 1) hx hb dX3_readsWitness_38 (by decide) ?_
    have h8 := hv.1
    have hv := hv.2
    have hPc := hP
    have hDc := hD
    refine rw_int (va_runV (As := [.int (p0 + 1), .int 1]) (rest := []) ⟨hx, hb, hml, hown, hts⟩ (h_X3_readsDigits g ad ((mS σ), ((tTape (mT σ)), (tLetter (mT σ)), (tLetterAt (mT σ)), (upd (tTold (mT σ)) (p0).toNatClampNeg (kindOfI (nxt (mT σ) (tAt (mT σ))))), (tTaped (mT σ)), ((tAt (mT σ)) + 1), (tStm (mT σ))), (mK σ), (mF σ), (mRow σ), (mRowMany σ), (mLots σ), (mRefused σ)) (p0 + 1) 1 h8) (cwV 2 hts gX3_readsWitness_X3_readsDigits rfl rfl rfl (by decide +kernel) ⟨Nat.le_of_ble_eq_true rfl, Nat.le_of_ble_eq_true rfl⟩) ⟨RW_blind, va_recv hK hP (ci := 3) (q0 := 0) rfl rfl, fun U hU hW => ⟨rfl, by rw [hU]; exact hPc, va_K.moved hW.alike hK, hE.call hW hU hS (fun _ h => h), hDc⟩⟩ rfl rfl hl.1 rfl (lv_room (Nat.le_of_ble_eq_true rfl)) dX3_readsWitness_39 ⟨Nat.le_of_ble_eq_true rfl, Nat.le_of_ble_eq_true rfl⟩) hS (fun _ h => h) (fun r u H1 locs hw hP1 hk hS => ?_)
    obtain ⟨hw1, hw⟩ := hw; subst r; subst u
    have hP := hP1
    generalize H1 = H at hP hS ⊢
    have hP : va_P (gD g) vwCl (wM g ad ((mS σ), ((rdD ((tTape (mT σ)), (tLetter (mT σ)), (tLetterAt (mT σ)), (upd (tTold (mT σ)) (p0).toNatClampNeg (kindOfI (nxt (mT σ) (tAt (mT σ))))), (tTaped (mT σ)), ((tAt (mT σ)) + 1), (tStm (mT σ))) (p0 + 1) (1 : Int32)).2), (mK σ), (mF σ), (mRow σ), (mRowMany σ), (mLots σ), (mRefused σ))) H := hP
    have hD : va_D (AD ad 0 21) (wM g ad ((mS σ), ((rdD ((tTape (mT σ)), (tLetter (mT σ)), (tLetterAt (mT σ)), (upd (tTold (mT σ)) (p0).toNatClampNeg (kindOfI (nxt (mT σ) (tAt (mT σ))))), (tTaped (mT σ)), ((tAt (mT σ)) + 1), (tStm (mT σ))) (p0 + 1) (1 : Int32)).2), (mK σ), (mF σ), (mRow σ), (mRowMany σ), (mLots σ), (mRefused σ))) := hD.addr (by rfl)
    refine lv_if_eq (tgt := 60) hx hb dX3_readsWitness_42 (by decide) (fun c42 => ?_) (fun c42 => ?_)
    · have hv := hv.1 c42
      refine lv_iconst (v := 0) hx hb dX3_readsWitness_60 (by decide) ?_
      exact W.zret (v := 0) hx hb hr rfl (fun t ht hW => ⟨⟨0, ((mS σ), ((rdD ((tTape (mT σ)), (tLetter (mT σ)), (tLetterAt (mT σ)), (upd (tTold (mT σ)) (p0).toNatClampNeg (kindOfI (nxt (mT σ) (tAt (mT σ))))), (tTaped (mT σ)), ((tAt (mT σ)) + 1), (tStm (mT σ))) (p0 + 1) (1 : Int32)).2), (mK σ), (mF σ), (mRow σ), (mRowMany σ), (mLots σ), (mRefused σ)), rfl, hv, P_at ht hP⟩, hS.F ht⟩) hS.2.2 dX3_readsWitness_61
    · have hv := hv.2 c42
      refine lv_aload_n hx hb dX3_readsWitness_45 rfl (lv_at hl 0 rfl) ?_
      refine lv_iload_n hx hb dX3_readsWitness_46 rfl (lv_at hl 1 rfl) ?_
      refine lv_iconst (v := 2) hx hb dX3_readsWitness_47 (by decide) ?_
      refine lv_iadd hx hb dX3_readsWitness_48 ?_
      refine lv_iconst (v := 2) hx hb dX3_readsWitness_49 (by decide) ?_
      have h8 := hv.1
      have hv := hv.2
      have hPc := hP
      have hDc := hD
      refine rw_int (va_runV (As := [.int (p0 + 2), .int 2]) (rest := []) ⟨hx, hb, hml, hown, hts⟩ (h_X3_readsDigits g ad ((mS σ), ((rdD ((tTape (mT σ)), (tLetter (mT σ)), (tLetterAt (mT σ)), (upd (tTold (mT σ)) (p0).toNatClampNeg (kindOfI (nxt (mT σ) (tAt (mT σ))))), (tTaped (mT σ)), ((tAt (mT σ)) + 1), (tStm (mT σ))) (p0 + 1) (1 : Int32)).2), (mK σ), (mF σ), (mRow σ), (mRowMany σ), (mLots σ), (mRefused σ)) (p0 + 2) 2 h8) (cwV 2 hts gX3_readsWitness_X3_readsDigits rfl rfl rfl (by decide +kernel) ⟨Nat.le_of_ble_eq_true rfl, Nat.le_of_ble_eq_true rfl⟩) ⟨RW_blind, va_recv hK hP (ci := 3) (q0 := 0) rfl rfl, fun U hU hW => ⟨rfl, by rw [hU]; exact hPc, va_K.moved hW.alike hK, hE.call hW hU hS (fun _ h => h), hDc⟩⟩ rfl rfl hl.1 rfl (lv_room (Nat.le_of_ble_eq_true rfl)) dX3_readsWitness_50 ⟨Nat.le_of_ble_eq_true rfl, Nat.le_of_ble_eq_true rfl⟩) hS (fun _ h => h) (fun r u H1 locs hw hP1 hk hS => ?_)
      obtain ⟨hw1, hw⟩ := hw; subst r; subst u
      have hP := hP1
      generalize H1 = H at hP hS ⊢
      have hP : va_P (gD g) vwCl (wM g ad ((mS σ), ((rdD ((rdD ((tTape (mT σ)), (tLetter (mT σ)), (tLetterAt (mT σ)), (upd (tTold (mT σ)) (p0).toNatClampNeg (kindOfI (nxt (mT σ) (tAt (mT σ))))), (tTaped (mT σ)), ((tAt (mT σ)) + 1), (tStm (mT σ))) (p0 + 1) (1 : Int32)).2) (p0 + 2) (2 : Int32)).2), (mK σ), (mF σ), (mRow σ), (mRowMany σ), (mLots σ), (mRefused σ))) H := hP
      have hD : va_D (AD ad 0 21) (wM g ad ((mS σ), ((rdD ((rdD ((tTape (mT σ)), (tLetter (mT σ)), (tLetterAt (mT σ)), (upd (tTold (mT σ)) (p0).toNatClampNeg (kindOfI (nxt (mT σ) (tAt (mT σ))))), (tTaped (mT σ)), ((tAt (mT σ)) + 1), (tStm (mT σ))) (p0 + 1) (1 : Int32)).2) (p0 + 2) (2 : Int32)).2), (mK σ), (mF σ), (mRow σ), (mRowMany σ), (mLots σ), (mRefused σ))) := hD.addr (by rfl)
      refine lv_if_eq (tgt := 60) hx hb dX3_readsWitness_53 (by decide) (fun c53 => ?_) (fun c53 => ?_)
      · have hv := hv.1 c53
        refine lv_iconst (v := 0) hx hb dX3_readsWitness_60 (by decide) ?_
        exact W.zret (v := 0) hx hb hr rfl (fun t ht hW => ⟨⟨0, ((mS σ), ((rdD ((rdD ((tTape (mT σ)), (tLetter (mT σ)), (tLetterAt (mT σ)), (upd (tTold (mT σ)) (p0).toNatClampNeg (kindOfI (nxt (mT σ) (tAt (mT σ))))), (tTaped (mT σ)), ((tAt (mT σ)) + 1), (tStm (mT σ))) (p0 + 1) (1 : Int32)).2) (p0 + 2) (2 : Int32)).2), (mK σ), (mF σ), (mRow σ), (mRowMany σ), (mLots σ), (mRefused σ)), rfl, hv, P_at ht hP⟩, hS.F ht⟩) hS.2.2 dX3_readsWitness_61
      · have hv := hv.2 c53
        refine lv_iconst (v := 1) hx hb dX3_readsWitness_56 (by decide) ?_
        refine lv_goto (tgt := 61) hx hb dX3_readsWitness_57 (by decide) ?_
        exact W.zret (v := 1) hx hb hr rfl (fun t ht hW => ⟨⟨1, ((mS σ), ((rdD ((rdD ((tTape (mT σ)), (tLetter (mT σ)), (tLetterAt (mT σ)), (upd (tTold (mT σ)) (p0).toNatClampNeg (kindOfI (nxt (mT σ) (tAt (mT σ))))), (tTaped (mT σ)), ((tAt (mT σ)) + 1), (tStm (mT σ))) (p0 + 1) (1 : Int32)).2) (p0 + 2) (2 : Int32)).2), (mK σ), (mF σ), (mRow σ), (mRowMany σ), (mLots σ), (mRefused σ)), rfl, hv, P_at ht hP⟩, hS.F ht⟩) hS.2.2 dX3_readsWitness_61
  · have hv := hv.2 c19
    refine lv_iconst (v := 0) hx hb dX3_readsWitness_22 (by decide) ?_
    exact W.zret (v := 0) hx hb hr rfl (fun t ht hW => ⟨⟨0, ((mS σ), ((tTape (mT σ)), (tLetter (mT σ)), (tLetterAt (mT σ)), (upd (tTold (mT σ)) (p0).toNatClampNeg (kindOfI (nxt (mT σ) (tAt (mT σ))))), (tTaped (mT σ)), (tAt (mT σ)), (tStm (mT σ))), (mK σ), (mF σ), (mRow σ), (mRowMany σ), (mLots σ), (mRefused σ)), rfl, hv, P_at ht hP⟩, hS.F ht⟩) hS.2.2 dX3_readsWitness_23

set_option maxHeartbeats 4000000 in
set_option maxRecDepth 100000 in
theorem m_X3_readsAll (l : Launch) (h_X3_readsDigits : C_X3_readsDigits l) (h_X3_readsWitness : C_X3_readsWitness l) (g : CX) (ad : Nat → Nat) (σ : KM) (p0 : Int32) (p1 : Int32) (Post : Int32 → KM → Prop) (hv : vc_X3_readsAll σ p0 p1 Post) : Met l yX3_readsAll wsX3_readsAll { frames := 3, cells := 0, slots := 0, locals := 67 } (va_Pc [.ref (ad 0), .int p0, .int p1] (RW g (AD ad 0 21) (wM g ad σ))) (va_Qi (fun (r : Int32) (u : KM) => Post r u) (fun u t => va_P (gD g) vwCl (wM g ad u) t.heap) (AD ad 0 21)) 0 0 (AD ad 0 21) := by
  unfold vc_X3_readsAll at hv
  refine Met.ofW (cc := cX3_readsAll) (maxL := 3) (ret := (some .boolean)) (by decide) rfl ?_
  intro p e s m args below meth c s₁ B hml hv0
  obtain ⟨rfl, hP, hK, hE, hD⟩ := hv0
  have hx := B.exec
  have hb := B.bytes
  have hr := B.returns
  have hts := atoms_spec (ws := wsX3_readsAll) B.pre
  have hown : s.vm.findClass RX3 = some m.cls := findClass_of_methodNamed B.named
  have hlocks := B.notSynchronized
  have hS : va_S (AD ad 0 21) s.heap s.heap [] := va_S.rf
  have hP : va_P (gD g) vwCl (wM g ad σ) s.heap := hP
  have hl := lv_entry ([.ref (ad 0), .int p0, .int p1]) (n := 3) (Nat.le_of_ble_eq_true rfl)
  rw [lg_entry_eq]
  generalize (lg_sl ([.ref (ad 0), .int p0, .int p1]) ++ List.replicate (3 - (lg_sl ([.ref (ad 0), .int p0, .int p1])).length) Slot.unset).toArray = ls at hl ⊢
  have hl : lv_has ls 3 [(0, .ref (ad 0)), (1, .int p0), (2, .int p1)] := hl
  obtain ⟨H, hH⟩ : ∃ z, z = s.heap := ⟨_, rfl⟩
  obtain ⟨locs, hL⟩ : ∃ z : List Loc, z = [] := ⟨_, rfl⟩
  rw [← hL] at hS ⊢
  have hS : va_S (AD ad 0 21) s.heap H locs := by rw [hH]; exact hS
  rw [← hH] at hP ⊢
  clear hH hL
  refine lv_iload_n hx hb dX3_readsAll_0 rfl (lv_at hl 1 rfl) ?_
  by_cases d1_102 : p0 = 102
  · have hv := hv.1 d1_102
    refine lv_lookup (off := 43) (tgt := 44) hx hb dX3_readsAll_1 (by decide +kernel) (by rw [d1_102]; decide +kernel) (by decide) ?_
    refine lv_aload_n hx hb dX3_readsAll_44 rfl (lv_at hl 0 rfl) ?_
    refine lv_iload_n hx hb dX3_readsAll_45 rfl (lv_at hl 2 rfl) ?_
    refine lv_iconst (v := 1) hx hb dX3_readsAll_46 (by decide) ?_
    have h8 := hv.1
    have hv := hv.2
    have hPc := hP
    have hDc := hD
    refine rw_int (va_runV (As := [.int p1, .int 1]) (rest := []) ⟨hx, hb, hml, hown, hts⟩ (h_X3_readsDigits g ad σ p1 1 h8) (cwV 2 hts gX3_readsAll_X3_readsDigits rfl rfl rfl (by decide +kernel) ⟨Nat.le_of_ble_eq_true rfl, Nat.le_of_ble_eq_true rfl⟩) ⟨RW_blind, va_recv hK hP (ci := 3) (q0 := 0) rfl rfl, fun U hU hW => ⟨rfl, by rw [hU]; exact hPc, va_K.moved hW.alike hK, hE.call hW hU hS (fun _ h => h), hDc⟩⟩ rfl rfl hl.1 rfl (lv_room (Nat.le_of_ble_eq_true rfl)) dX3_readsAll_47 ⟨Nat.le_of_ble_eq_true rfl, Nat.le_of_ble_eq_true rfl⟩) hS (fun _ h => h) (fun r u H1 locs hw hP1 hk hS => ?_)
    obtain ⟨hw1, hw⟩ := hw; subst r; subst u
    have hP := hP1
    generalize H1 = H at hP hS ⊢
    have hP : va_P (gD g) vwCl (wM g ad ((mS σ), ((rdD (mT σ) p1 (1 : Int32)).2), (mK σ), (mF σ), (mRow σ), (mRowMany σ), (mLots σ), (mRefused σ))) H := hP
    have hD : va_D (AD ad 0 21) (wM g ad ((mS σ), ((rdD (mT σ) p1 (1 : Int32)).2), (mK σ), (mF σ), (mRow σ), (mRowMany σ), (mLots σ), (mRefused σ))) := hD.addr (by rfl)
    have hn := hv.1
    have hv := hv.2
    exact W.zret (v := ((rdD (mT σ) p1 (1 : Int32)).1)) hx hb hr hn (fun t ht hW => ⟨⟨((rdD (mT σ) p1 (1 : Int32)).1), ((mS σ), ((rdD (mT σ) p1 (1 : Int32)).2), (mK σ), (mF σ), (mRow σ), (mRowMany σ), (mLots σ), (mRefused σ)), rfl, hv, P_at ht hP⟩, hS.F ht⟩) hS.2.2 dX3_readsAll_50
  · have hv := hv.2 d1_102
    by_cases d1_110 : p0 = 110
    · have hv := hv.1 d1_110
      refine lv_lookup (off := 93) (tgt := 94) hx hb dX3_readsAll_1 (by decide +kernel) (by rw [d1_110]; decide +kernel) (by decide) ?_
      refine lv_iconst (v := 1) hx hb dX3_readsAll_94 (by decide) ?_
      exact W.zret (v := 1) hx hb hr rfl (fun t ht hW => ⟨⟨1, σ, rfl, hv, P_at ht hP⟩, hS.F ht⟩) hS.2.2 dX3_readsAll_95
    · have hv := hv.2 d1_110
      by_cases d1_113 : p0 = 113
      · have hv := hv.1 d1_113
        refine lv_lookup (off := 50) (tgt := 51) hx hb dX3_readsAll_1 (by decide +kernel) (by rw [d1_113]; decide +kernel) (by decide) ?_
        refine lv_aload_n hx hb dX3_readsAll_51 rfl (lv_at hl 0 rfl) ?_
        refine lv_iload_n hx hb dX3_readsAll_52 rfl (lv_at hl 2 rfl) ?_
        refine lv_iconst (v := 1) hx hb dX3_readsAll_53 (by decide) ?_
        have h8 := hv.1
        have hv := hv.2
        have hPc := hP
        have hDc := hD
        refine rw_int (va_runV (As := [.int p1, .int 1]) (rest := []) ⟨hx, hb, hml, hown, hts⟩ (h_X3_readsDigits g ad σ p1 1 h8) (cwV 2 hts gX3_readsAll_X3_readsDigits rfl rfl rfl (by decide +kernel) ⟨Nat.le_of_ble_eq_true rfl, Nat.le_of_ble_eq_true rfl⟩) ⟨RW_blind, va_recv hK hP (ci := 3) (q0 := 0) rfl rfl, fun U hU hW => ⟨rfl, by rw [hU]; exact hPc, va_K.moved hW.alike hK, hE.call hW hU hS (fun _ h => h), hDc⟩⟩ rfl rfl hl.1 rfl (lv_room (Nat.le_of_ble_eq_true rfl)) dX3_readsAll_54 ⟨Nat.le_of_ble_eq_true rfl, Nat.le_of_ble_eq_true rfl⟩) hS (fun _ h => h) (fun r u H1 locs hw hP1 hk hS => ?_)
        obtain ⟨hw1, hw⟩ := hw; subst r; subst u
        have hP := hP1
        generalize H1 = H at hP hS ⊢
        have hP : va_P (gD g) vwCl (wM g ad ((mS σ), ((rdD (mT σ) p1 (1 : Int32)).2), (mK σ), (mF σ), (mRow σ), (mRowMany σ), (mLots σ), (mRefused σ))) H := hP
        have hD : va_D (AD ad 0 21) (wM g ad ((mS σ), ((rdD (mT σ) p1 (1 : Int32)).2), (mK σ), (mF σ), (mRow σ), (mRowMany σ), (mLots σ), (mRefused σ))) := hD.addr (by rfl)
        refine lv_if_eq (tgt := 86) hx hb dX3_readsAll_57 (by decide) (fun c57 => ?_) (fun c57 => ?_)
        · have hv := hv.1 c57
          refine lv_iconst (v := 0) hx hb dX3_readsAll_86 (by decide) ?_
          exact W.zret (v := 0) hx hb hr rfl (fun t ht hW => ⟨⟨0, ((mS σ), ((rdD (mT σ) p1 (1 : Int32)).2), (mK σ), (mF σ), (mRow σ), (mRowMany σ), (mLots σ), (mRefused σ)), rfl, hv, P_at ht hP⟩, hS.F ht⟩) hS.2.2 dX3_readsAll_87
        · have hv := hv.2 c57
          refine lv_aload_n hx hb dX3_readsAll_60 rfl (lv_at hl 0 rfl) ?_
          refine lv_iload_n hx hb dX3_readsAll_61 rfl (lv_at hl 2 rfl) ?_
          refine lv_iconst (v := 1) hx hb dX3_readsAll_62 (by decide) ?_
          refine lv_iadd hx hb dX3_readsAll_63 ?_
          refine lv_iconst (v := 1) hx hb dX3_readsAll_64 (by decide) ?_
          have h8 := hv.1
          have hv := hv.2
          have hPc := hP
          have hDc := hD
          refine rw_int (va_runV (As := [.int (p1 + 1), .int 1]) (rest := []) ⟨hx, hb, hml, hown, hts⟩ (h_X3_readsDigits g ad ((mS σ), ((rdD (mT σ) p1 (1 : Int32)).2), (mK σ), (mF σ), (mRow σ), (mRowMany σ), (mLots σ), (mRefused σ)) (p1 + 1) 1 h8) (cwV 2 hts gX3_readsAll_X3_readsDigits rfl rfl rfl (by decide +kernel) ⟨Nat.le_of_ble_eq_true rfl, Nat.le_of_ble_eq_true rfl⟩) ⟨RW_blind, va_recv hK hP (ci := 3) (q0 := 0) rfl rfl, fun U hU hW => ⟨rfl, by rw [hU]; exact hPc, va_K.moved hW.alike hK, hE.call hW hU hS (fun _ h => h), hDc⟩⟩ rfl rfl hl.1 rfl (lv_room (Nat.le_of_ble_eq_true rfl)) dX3_readsAll_65 ⟨Nat.le_of_ble_eq_true rfl, Nat.le_of_ble_eq_true rfl⟩) hS (fun _ h => h) (fun r u H1 locs hw hP1 hk hS => ?_)
          obtain ⟨hw1, hw⟩ := hw; subst r; subst u
          have hP := hP1
          generalize H1 = H at hP hS ⊢
          have hP : va_P (gD g) vwCl (wM g ad ((mS σ), ((rdD ((rdD (mT σ) p1 (1 : Int32)).2) (p1 + 1) (1 : Int32)).2), (mK σ), (mF σ), (mRow σ), (mRowMany σ), (mLots σ), (mRefused σ))) H := hP
          have hD : va_D (AD ad 0 21) (wM g ad ((mS σ), ((rdD ((rdD (mT σ) p1 (1 : Int32)).2) (p1 + 1) (1 : Int32)).2), (mK σ), (mF σ), (mRow σ), (mRowMany σ), (mLots σ), (mRefused σ))) := hD.addr (by rfl)
          refine lv_if_eq (tgt := 86) hx hb dX3_readsAll_68 (by decide) (fun c68 => ?_) (fun c68 => ?_)
          · have hv := hv.1 c68
            refine lv_iconst (v := 0) hx hb dX3_readsAll_86 (by decide) ?_
            exact W.zret (v := 0) hx hb hr rfl (fun t ht hW => ⟨⟨0, ((mS σ), ((rdD ((rdD (mT σ) p1 (1 : Int32)).2) (p1 + 1) (1 : Int32)).2), (mK σ), (mF σ), (mRow σ), (mRowMany σ), (mLots σ), (mRefused σ)), rfl, hv, P_at ht hP⟩, hS.F ht⟩) hS.2.2 dX3_readsAll_87
          · have hv := hv.2 c68
            refine lv_aload_n hx hb dX3_readsAll_71 rfl (lv_at hl 0 rfl) ?_
            refine lv_iload_n hx hb dX3_readsAll_72 rfl (lv_at hl 2 rfl) ?_
            refine lv_iconst (v := 2) hx hb dX3_readsAll_73 (by decide) ?_
            refine lv_iadd hx hb dX3_readsAll_74 ?_
            refine lv_iconst (v := 1) hx hb dX3_readsAll_75 (by decide) ?_
            have h8 := hv.1
            have hv := hv.2
            have hPc := hP
            have hDc := hD
            refine rw_int (va_runV (As := [.int (p1 + 2), .int 1]) (rest := []) ⟨hx, hb, hml, hown, hts⟩ (h_X3_readsDigits g ad ((mS σ), ((rdD ((rdD (mT σ) p1 (1 : Int32)).2) (p1 + 1) (1 : Int32)).2), (mK σ), (mF σ), (mRow σ), (mRowMany σ), (mLots σ), (mRefused σ)) (p1 + 2) 1 h8) (cwV 2 hts gX3_readsAll_X3_readsDigits rfl rfl rfl (by decide +kernel) ⟨Nat.le_of_ble_eq_true rfl, Nat.le_of_ble_eq_true rfl⟩) ⟨RW_blind, va_recv hK hP (ci := 3) (q0 := 0) rfl rfl, fun U hU hW => ⟨rfl, by rw [hU]; exact hPc, va_K.moved hW.alike hK, hE.call hW hU hS (fun _ h => h), hDc⟩⟩ rfl rfl hl.1 rfl (lv_room (Nat.le_of_ble_eq_true rfl)) dX3_readsAll_76 ⟨Nat.le_of_ble_eq_true rfl, Nat.le_of_ble_eq_true rfl⟩) hS (fun _ h => h) (fun r u H1 locs hw hP1 hk hS => ?_)
            obtain ⟨hw1, hw⟩ := hw; subst r; subst u
            have hP := hP1
            generalize H1 = H at hP hS ⊢
            have hP : va_P (gD g) vwCl (wM g ad ((mS σ), ((rdD ((rdD ((rdD (mT σ) p1 (1 : Int32)).2) (p1 + 1) (1 : Int32)).2) (p1 + 2) (1 : Int32)).2), (mK σ), (mF σ), (mRow σ), (mRowMany σ), (mLots σ), (mRefused σ))) H := hP
            have hD : va_D (AD ad 0 21) (wM g ad ((mS σ), ((rdD ((rdD ((rdD (mT σ) p1 (1 : Int32)).2) (p1 + 1) (1 : Int32)).2) (p1 + 2) (1 : Int32)).2), (mK σ), (mF σ), (mRow σ), (mRowMany σ), (mLots σ), (mRefused σ))) := hD.addr (by rfl)
            refine lv_if_eq (tgt := 86) hx hb dX3_readsAll_79 (by decide) (fun c79 => ?_) (fun c79 => ?_)
            · have hv := hv.1 c79
              refine lv_iconst (v := 0) hx hb dX3_readsAll_86 (by decide) ?_
              exact W.zret (v := 0) hx hb hr rfl (fun t ht hW => ⟨⟨0, ((mS σ), ((rdD ((rdD ((rdD (mT σ) p1 (1 : Int32)).2) (p1 + 1) (1 : Int32)).2) (p1 + 2) (1 : Int32)).2), (mK σ), (mF σ), (mRow σ), (mRowMany σ), (mLots σ), (mRefused σ)), rfl, hv, P_at ht hP⟩, hS.F ht⟩) hS.2.2 dX3_readsAll_87
            · have hv := hv.2 c79
              refine lv_iconst (v := 1) hx hb dX3_readsAll_82 (by decide) ?_
              refine lv_goto (tgt := 87) hx hb dX3_readsAll_83 (by decide) ?_
              exact W.zret (v := 1) hx hb hr rfl (fun t ht hW => ⟨⟨1, ((mS σ), ((rdD ((rdD ((rdD (mT σ) p1 (1 : Int32)).2) (p1 + 1) (1 : Int32)).2) (p1 + 2) (1 : Int32)).2), (mK σ), (mF σ), (mRow σ), (mRowMany σ), (mLots σ), (mRefused σ)), rfl, hv, P_at ht hP⟩, hS.F ht⟩) hS.2.2 dX3_readsAll_87
      · have hv := hv.2 d1_113
        by_cases d1_119 : p0 = 119
        · have hv := hv.1 d1_119
          refine lv_lookup (off := 87) (tgt := 88) hx hb dX3_readsAll_1 (by decide +kernel) (by rw [d1_119]; decide +kernel) (by decide) ?_
          refine lv_aload_n hx hb dX3_readsAll_88 rfl (lv_at hl 0 rfl) ?_
          refine lv_iload_n hx hb dX3_readsAll_89 rfl (lv_at hl 2 rfl) ?_
          have h8 := hv.1
          have hv := hv.2
          have hPc := hP
          have hDc := hD
          refine rw_int (va_runV (As := [.int p1]) (rest := []) ⟨hx, hb, hml, hown, hts⟩ (h_X3_readsWitness g ad σ p1 h8) (cwV 1 hts gX3_readsAll_X3_readsWitness rfl rfl rfl (by decide +kernel) ⟨Nat.le_of_ble_eq_true rfl, Nat.le_of_ble_eq_true rfl⟩) ⟨RW_blind, va_recv hK hP (ci := 3) (q0 := 0) rfl rfl, fun U hU hW => ⟨rfl, by rw [hU]; exact hPc, va_K.moved hW.alike hK, hE.call hW hU hS (fun _ h => h), hDc⟩⟩ rfl rfl hl.1 rfl (lv_room (Nat.le_of_ble_eq_true rfl)) dX3_readsAll_90 ⟨Nat.le_of_ble_eq_true rfl, Nat.le_of_ble_eq_true rfl⟩) hS (fun _ h => h) (fun r u H1 locs hw hP1 hk hS => ?_)
          obtain ⟨hw1, hw⟩ := hw; subst r; subst u
          have hP := hP1
          generalize H1 = H at hP hS ⊢
          have hP : va_P (gD g) vwCl (wM g ad ((mS σ), ((rdW (mT σ) p1).2), (mK σ), (mF σ), (mRow σ), (mRowMany σ), (mLots σ), (mRefused σ))) H := hP
          have hD : va_D (AD ad 0 21) (wM g ad ((mS σ), ((rdW (mT σ) p1).2), (mK σ), (mF σ), (mRow σ), (mRowMany σ), (mLots σ), (mRefused σ))) := hD.addr (by rfl)
          have hn := hv.1
          have hv := hv.2
          exact W.zret (v := ((rdW (mT σ) p1).1)) hx hb hr hn (fun t ht hW => ⟨⟨((rdW (mT σ) p1).1), ((mS σ), ((rdW (mT σ) p1).2), (mK σ), (mF σ), (mRow σ), (mRowMany σ), (mLots σ), (mRefused σ)), rfl, hv, P_at ht hP⟩, hS.F ht⟩) hS.2.2 dX3_readsAll_93
        · have hv := hv.2 d1_119
          refine lv_lookup (off := 95) (tgt := 96) hx hb dX3_readsAll_1 (by decide +kernel) (by first | (rw [lv_osw d1_102 (by decide), lv_osw d1_110 (by decide), lv_osw d1_113 (by decide), lv_osw d1_119 (by decide)]; rfl) | (show Op.lookupswitch.offset [(102, 43), (110, 93), (113, 50), (119, 87)] 95 _ = _; rw [lv_osw d1_102 (by decide), lv_osw d1_110 (by decide), lv_osw d1_113 (by decide), lv_osw d1_119 (by decide)]; rfl)) (by decide) ?_
          refine lv_aload_n hx hb dX3_readsAll_96 rfl (lv_at hl 0 rfl) ?_
          refine lv_iload_n hx hb dX3_readsAll_97 rfl (lv_at hl 2 rfl) ?_
          refine lv_iconst (v := 1) hx hb dX3_readsAll_98 (by decide) ?_
          have h8 := hv.1
          have hv := hv.2
          have hPc := hP
          have hDc := hD
          refine rw_int (va_runV (As := [.int p1, .int 1]) (rest := []) ⟨hx, hb, hml, hown, hts⟩ (h_X3_readsDigits g ad σ p1 1 h8) (cwV 2 hts gX3_readsAll_X3_readsDigits rfl rfl rfl (by decide +kernel) ⟨Nat.le_of_ble_eq_true rfl, Nat.le_of_ble_eq_true rfl⟩) ⟨RW_blind, va_recv hK hP (ci := 3) (q0 := 0) rfl rfl, fun U hU hW => ⟨rfl, by rw [hU]; exact hPc, va_K.moved hW.alike hK, hE.call hW hU hS (fun _ h => h), hDc⟩⟩ rfl rfl hl.1 rfl (lv_room (Nat.le_of_ble_eq_true rfl)) dX3_readsAll_99 ⟨Nat.le_of_ble_eq_true rfl, Nat.le_of_ble_eq_true rfl⟩) hS (fun _ h => h) (fun r u H1 locs hw hP1 hk hS => ?_)
          obtain ⟨hw1, hw⟩ := hw; subst r; subst u
          have hP := hP1
          generalize H1 = H at hP hS ⊢
          have hP : va_P (gD g) vwCl (wM g ad ((mS σ), ((rdD (mT σ) p1 (1 : Int32)).2), (mK σ), (mF σ), (mRow σ), (mRowMany σ), (mLots σ), (mRefused σ))) H := hP
          have hD : va_D (AD ad 0 21) (wM g ad ((mS σ), ((rdD (mT σ) p1 (1 : Int32)).2), (mK σ), (mF σ), (mRow σ), (mRowMany σ), (mLots σ), (mRefused σ))) := hD.addr (by rfl)
          refine lv_if_eq (tgt := 120) hx hb dX3_readsAll_102 (by decide) (fun c102 => ?_) (fun c102 => ?_)
          · have hv := hv.1 c102
            refine lv_iconst (v := 0) hx hb dX3_readsAll_120 (by decide) ?_
            exact W.zret (v := 0) hx hb hr rfl (fun t ht hW => ⟨⟨0, ((mS σ), ((rdD (mT σ) p1 (1 : Int32)).2), (mK σ), (mF σ), (mRow σ), (mRowMany σ), (mLots σ), (mRefused σ)), rfl, hv, P_at ht hP⟩, hS.F ht⟩) hS.2.2 dX3_readsAll_121
          · have hv := hv.2 c102
            refine lv_aload_n hx hb dX3_readsAll_105 rfl (lv_at hl 0 rfl) ?_
            refine lv_iload_n hx hb dX3_readsAll_106 rfl (lv_at hl 2 rfl) ?_
            refine lv_iconst (v := 1) hx hb dX3_readsAll_107 (by decide) ?_
            refine lv_iadd hx hb dX3_readsAll_108 ?_
            refine lv_iconst (v := 1) hx hb dX3_readsAll_109 (by decide) ?_
            have h8 := hv.1
            have hv := hv.2
            have hPc := hP
            have hDc := hD
            refine rw_int (va_runV (As := [.int (p1 + 1), .int 1]) (rest := []) ⟨hx, hb, hml, hown, hts⟩ (h_X3_readsDigits g ad ((mS σ), ((rdD (mT σ) p1 (1 : Int32)).2), (mK σ), (mF σ), (mRow σ), (mRowMany σ), (mLots σ), (mRefused σ)) (p1 + 1) 1 h8) (cwV 2 hts gX3_readsAll_X3_readsDigits rfl rfl rfl (by decide +kernel) ⟨Nat.le_of_ble_eq_true rfl, Nat.le_of_ble_eq_true rfl⟩) ⟨RW_blind, va_recv hK hP (ci := 3) (q0 := 0) rfl rfl, fun U hU hW => ⟨rfl, by rw [hU]; exact hPc, va_K.moved hW.alike hK, hE.call hW hU hS (fun _ h => h), hDc⟩⟩ rfl rfl hl.1 rfl (lv_room (Nat.le_of_ble_eq_true rfl)) dX3_readsAll_110 ⟨Nat.le_of_ble_eq_true rfl, Nat.le_of_ble_eq_true rfl⟩) hS (fun _ h => h) (fun r u H1 locs hw hP1 hk hS => ?_)
            obtain ⟨hw1, hw⟩ := hw; subst r; subst u
            have hP := hP1
            generalize H1 = H at hP hS ⊢
            have hP : va_P (gD g) vwCl (wM g ad ((mS σ), ((rdD ((rdD (mT σ) p1 (1 : Int32)).2) (p1 + 1) (1 : Int32)).2), (mK σ), (mF σ), (mRow σ), (mRowMany σ), (mLots σ), (mRefused σ))) H := hP
            have hD : va_D (AD ad 0 21) (wM g ad ((mS σ), ((rdD ((rdD (mT σ) p1 (1 : Int32)).2) (p1 + 1) (1 : Int32)).2), (mK σ), (mF σ), (mRow σ), (mRowMany σ), (mLots σ), (mRefused σ))) := hD.addr (by rfl)
            refine lv_if_eq (tgt := 120) hx hb dX3_readsAll_113 (by decide) (fun c113 => ?_) (fun c113 => ?_)
            · have hv := hv.1 c113
              refine lv_iconst (v := 0) hx hb dX3_readsAll_120 (by decide) ?_
              exact W.zret (v := 0) hx hb hr rfl (fun t ht hW => ⟨⟨0, ((mS σ), ((rdD ((rdD (mT σ) p1 (1 : Int32)).2) (p1 + 1) (1 : Int32)).2), (mK σ), (mF σ), (mRow σ), (mRowMany σ), (mLots σ), (mRefused σ)), rfl, hv, P_at ht hP⟩, hS.F ht⟩) hS.2.2 dX3_readsAll_121
            · have hv := hv.2 c113
              refine lv_iconst (v := 1) hx hb dX3_readsAll_116 (by decide) ?_
              refine lv_goto (tgt := 121) hx hb dX3_readsAll_117 (by decide) ?_
              exact W.zret (v := 1) hx hb hr rfl (fun t ht hW => ⟨⟨1, ((mS σ), ((rdD ((rdD (mT σ) p1 (1 : Int32)).2) (p1 + 1) (1 : Int32)).2), (mK σ), (mF σ), (mRow σ), (mRowMany σ), (mLots σ), (mRefused σ)), rfl, hv, P_at ht hP⟩, hS.F ht⟩) hS.2.2 dX3_readsAll_121

set_option maxHeartbeats 4000000 in
set_option maxRecDepth 100000 in
theorem m_X3_statement (l : Launch) (h_X3_next : C_X3_next l) (h_X3_readsAll : C_X3_readsAll l) (g : CX) (ad : Nat → Nat) (σ : KM)  (Post : Int32 → KM → Prop) (hv : vc_X3_statement σ Post) : Met l yX3_statement wsX3_statement { frames := 4, cells := 0, slots := 0, locals := 89 } (va_Pc [.ref (ad 0)] (RW g (AD ad 0 21) (wM g ad σ))) (va_Qi (fun (r : Int32) (u : KM) => Post r u) (fun u t => va_P (gD g) vwCl (wM g ad u) t.heap) (AD ad 0 21)) 0 0 (AD ad 0 21) := by
  unfold vc_X3_statement at hv
  refine Met.ofW (cc := cX3_statement) (maxL := 2) (ret := (some .boolean)) (by decide) rfl ?_
  intro p e s m args below meth c s₁ B hml hv0
  obtain ⟨rfl, hP, hK, hE, hD⟩ := hv0
  have hx := B.exec
  have hb := B.bytes
  have hr := B.returns
  have hts := atoms_spec (ws := wsX3_statement) B.pre
  have hown : s.vm.findClass RX3 = some m.cls := findClass_of_methodNamed B.named
  have hlocks := B.notSynchronized
  have hi3 : ∀ w ∈ wsX30, w ∈ wsX3_statement := by decide +kernel
  have k0 := hts (.fieldLink RX3 46 "JuryHearsAnswersModel" "letter" "[I") (by decide +kernel)
  have k1 := hts (.fieldLink RX3 112 "JuryHearsAnswersModel" "statements" "I") (by decide +kernel)
  have k2 := hts (.fieldLink RX3 49 "JuryHearsAnswersModel" "letterAt" "[I") (by decide +kernel)
  have k3 := hts (.fieldLink RX3 90 "JuryHearsAnswersModel" "at" "I") (by decide +kernel)
  have hS : va_S (AD ad 0 21) s.heap s.heap [] := va_S.rf
  have hP : va_P (gD g) vwCl (wM g ad σ) s.heap := hP
  have hl := lv_entry ([.ref (ad 0)]) (n := 2) (Nat.le_of_ble_eq_true rfl)
  rw [lg_entry_eq]
  generalize (lg_sl ([.ref (ad 0)]) ++ List.replicate (2 - (lg_sl ([.ref (ad 0)])).length) Slot.unset).toArray = ls at hl ⊢
  have hl : lv_has ls 2 [(0, .ref (ad 0))] := hl
  obtain ⟨H, hH⟩ : ∃ z, z = s.heap := ⟨_, rfl⟩
  obtain ⟨locs, hL⟩ : ∃ z : List Loc, z = [] := ⟨_, rfl⟩
  rw [← hL] at hS ⊢
  have hS : va_S (AD ad 0 21) s.heap H locs := by rw [hH]; exact hS
  rw [← hH] at hP ⊢
  clear hH hL
  refine lv_aload_n hx hb dX3_statement_0 rfl (lv_at hl 0 rfl) ?_
  have h8 := hv.1
  have hv := hv.2
  have hPc := hP
  refine ro_int (va_runV (As := []) (rest := []) ⟨hx, hb, hml, hown, hts⟩ (h_X3_next g ad σ h8) (cwV 0 hts gX3_statement_X3_next rfl rfl rfl (by decide +kernel) ⟨Nat.le_of_ble_eq_true rfl, Nat.le_of_ble_eq_true rfl⟩) ⟨RO_blind, va_recv hK hP (ci := 3) (q0 := 0) rfl rfl, fun U hU hW => ⟨rfl, by rw [hU]; exact hPc, va_K.moved hW.alike hK, hE.call hW hU hS (fun _ h => h.elim)⟩⟩ rfl rfl hl.1 rfl (lv_room (Nat.le_of_ble_eq_true rfl)) dX3_statement_1 ⟨Nat.le_of_ble_eq_true rfl, Nat.le_of_ble_eq_true rfl⟩) hS hP (fun r H locs hw hP hS => ?_)
  subst r
  refine lv_istore_n (lv' := [(1, .int (nxt (mT σ) (tAt (mT σ)))), (0, .ref (ad 0))]) hx hb dX3_statement_4 rfl hl (by decide) rfl (fun ls hl => ?_)
  refine lv_iload_n hx hb dX3_statement_5 rfl (lv_at hl 0 rfl) ?_
  refine lv_bipush (v := 102) hx hb dX3_statement_6 (by decide) ?_
  refine lv_icmp_eq (tgt := 43) hx hb dX3_statement_8 (by decide) (fun c8 => ?_) (fun c8 => ?_)
  · have hv := hv.1 c8
    refine lv_aload_n hx hb dX3_statement_43 rfl (lv_at hl 1 rfl) ?_
    refine va_get (D := gD g) (ci := 3) (v := .ref (ad 13)) (C := RX3) (T := TX3) (N := 33) hx hb hts hi3 hown hK hP 0 rfl rfl 17 (by decide) k0 (fun _ h9 => h9) rfl dX3_statement_44 ?_
    refine lv_aload_n hx hb dX3_statement_47 rfl (lv_at hl 1 rfl) ?_
    refine va_get (D := gD g) (ci := 3) (v := .int (tStm (mT σ))) (C := RX3) (T := TX3) (N := 33) hx hb hts hi3 hown hK hP 0 rfl rfl 22 (by decide) k1 (fun _ h9 => h9) rfl dX3_statement_48 ?_
    refine lv_iload_n hx hb dX3_statement_51 rfl (lv_at hl 0 rfl) ?_
    have h9 := hv.1
    have hv := hv.2
    refine va_iast (f := (tLetter (mT σ))) (n := 48) hx hb hK hP hD hS 13 0 rfl rfl h9 dX3_statement_52 (fun H locs hP hD hS => ?_)
    have hP : va_P (gD g) vwCl (wM g ad ((mS σ), ((tTape (mT σ)), (upd (tLetter (mT σ)) ((tStm (mT σ))).toNatClampNeg (nxt (mT σ) (tAt (mT σ)))), (tLetterAt (mT σ)), (tTold (mT σ)), (tTaped (mT σ)), (tAt (mT σ)), (tStm (mT σ))), (mK σ), (mF σ), (mRow σ), (mRowMany σ), (mLots σ), (mRefused σ))) H := hP
    have hD : va_D (AD ad 0 21) (wM g ad ((mS σ), ((tTape (mT σ)), (upd (tLetter (mT σ)) ((tStm (mT σ))).toNatClampNeg (nxt (mT σ) (tAt (mT σ)))), (tLetterAt (mT σ)), (tTold (mT σ)), (tTaped (mT σ)), (tAt (mT σ)), (tStm (mT σ))), (mK σ), (mF σ), (mRow σ), (mRowMany σ), (mLots σ), (mRefused σ))) := hD
    refine lv_aload_n hx hb dX3_statement_53 rfl (lv_at hl 1 rfl) ?_
    refine va_get (D := gD g) (ci := 3) (v := .ref (ad 14)) (C := RX3) (T := TX3) (N := 33) hx hb hts hi3 hown hK hP 0 rfl rfl 18 (by decide) k2 (fun _ h9 => h9) rfl dX3_statement_54 ?_
    refine lv_aload_n hx hb dX3_statement_57 rfl (lv_at hl 1 rfl) ?_
    refine va_get (D := gD g) (ci := 3) (v := .int (tStm (mT σ))) (C := RX3) (T := TX3) (N := 33) hx hb hts hi3 hown hK hP 0 rfl rfl 22 (by decide) k1 (fun _ h9 => h9) rfl dX3_statement_58 ?_
    refine lv_aload_n hx hb dX3_statement_61 rfl (lv_at hl 1 rfl) ?_
    refine va_get (D := gD g) (ci := 3) (v := .int (tAt (mT σ))) (C := RX3) (T := TX3) (N := 33) hx hb hts hi3 hown hK hP 0 rfl rfl 21 (by decide) k3 (fun _ h9 => h9) rfl dX3_statement_62 ?_
    have h9 := hv.1
    have hv := hv.2
    refine va_iast (f := (tLetterAt (mT σ))) (n := 48) hx hb hK hP hD hS 14 0 rfl rfl h9 dX3_statement_65 (fun H locs hP hD hS => ?_)
    have hP : va_P (gD g) vwCl (wM g ad ((mS σ), ((tTape (mT σ)), (upd (tLetter (mT σ)) ((tStm (mT σ))).toNatClampNeg (nxt (mT σ) (tAt (mT σ)))), (upd (tLetterAt (mT σ)) ((tStm (mT σ))).toNatClampNeg (tAt (mT σ))), (tTold (mT σ)), (tTaped (mT σ)), (tAt (mT σ)), (tStm (mT σ))), (mK σ), (mF σ), (mRow σ), (mRowMany σ), (mLots σ), (mRefused σ))) H := hP
    have hD : va_D (AD ad 0 21) (wM g ad ((mS σ), ((tTape (mT σ)), (upd (tLetter (mT σ)) ((tStm (mT σ))).toNatClampNeg (nxt (mT σ) (tAt (mT σ)))), (upd (tLetterAt (mT σ)) ((tStm (mT σ))).toNatClampNeg (tAt (mT σ))), (tTold (mT σ)), (tTaped (mT σ)), (tAt (mT σ)), (tStm (mT σ))), (mK σ), (mF σ), (mRow σ), (mRowMany σ), (mLots σ), (mRefused σ))) := hD
    refine lv_aload_n hx hb dX3_statement_66 rfl (lv_at hl 1 rfl) ?_
    refine lv_dup hx hb dX3_statement_67 rfl ?_
    refine va_get (D := gD g) (ci := 3) (v := .int (tAt (mT σ))) (C := RX3) (T := TX3) (N := 33) hx hb hts hi3 hown hK hP 0 rfl rfl 21 (by decide) k3 (fun _ h9 => h9) rfl dX3_statement_68 ?_
    refine lv_iconst (v := 1) hx hb dX3_statement_71 (by decide) ?_
    refine lv_iadd hx hb dX3_statement_72 ?_
    refine va_put (D := gD g) (ci := 3) (v := .int ((tAt (mT σ)) + 1)) (ty := .int) (C := RX3) (T := TX3) (N := 33) hx hb hts hi3 tyX3 tyX3_ok nmX3 hown hK hP hD hS 0 rfl rfl 21 (by decide) k3 (fun _ h9 => h9) rfl (by decide +kernel) rfl rfl (Nat.le_of_ble_eq_true rfl) dX3_statement_73 (fun H locs hP hD hS => ?_)
    have hP : va_P (gD g) vwCl (wM g ad ((mS σ), ((tTape (mT σ)), (upd (tLetter (mT σ)) ((tStm (mT σ))).toNatClampNeg (nxt (mT σ) (tAt (mT σ)))), (upd (tLetterAt (mT σ)) ((tStm (mT σ))).toNatClampNeg (tAt (mT σ))), (tTold (mT σ)), (tTaped (mT σ)), ((tAt (mT σ)) + 1), (tStm (mT σ))), (mK σ), (mF σ), (mRow σ), (mRowMany σ), (mLots σ), (mRefused σ))) H := hP
    have hD : va_D (AD ad 0 21) (wM g ad ((mS σ), ((tTape (mT σ)), (upd (tLetter (mT σ)) ((tStm (mT σ))).toNatClampNeg (nxt (mT σ) (tAt (mT σ)))), (upd (tLetterAt (mT σ)) ((tStm (mT σ))).toNatClampNeg (tAt (mT σ))), (tTold (mT σ)), (tTaped (mT σ)), ((tAt (mT σ)) + 1), (tStm (mT σ))), (mK σ), (mF σ), (mRow σ), (mRowMany σ), (mLots σ), (mRefused σ))) := hD
    refine lv_aload_n hx hb dX3_statement_76 rfl (lv_at hl 1 rfl) ?_
    refine lv_iload_n hx hb dX3_statement_77 rfl (lv_at hl 0 rfl) ?_
    refine lv_iconst (v := 3) hx hb dX3_statement_78 (by decide) ?_
    refine lv_aload_n hx hb dX3_statement_79 rfl (lv_at hl 1 rfl) ?_
    refine va_get (D := gD g) (ci := 3) (v := .int (tStm (mT σ))) (C := RX3) (T := TX3) (N := 33) hx hb hts hi3 hown hK hP 0 rfl rfl 22 (by decide) k1 (fun _ h9 => h9) rfl dX3_statement_80 ?_
    refine lv_imul hx hb dX3_statement_83 ?_
    have h8 := hv.1
    have hv := hv.2
    have hPc := hP
    have hDc := hD
    refine rw_int (va_runV (As := [.int (nxt (mT σ) (tAt (mT σ))), .int (3 * (tStm (mT σ)))]) (rest := []) ⟨hx, hb, hml, hown, hts⟩ (h_X3_readsAll g ad ((mS σ), ((tTape (mT σ)), (upd (tLetter (mT σ)) ((tStm (mT σ))).toNatClampNeg (nxt (mT σ) (tAt (mT σ)))), (upd (tLetterAt (mT σ)) ((tStm (mT σ))).toNatClampNeg (tAt (mT σ))), (tTold (mT σ)), (tTaped (mT σ)), ((tAt (mT σ)) + 1), (tStm (mT σ))), (mK σ), (mF σ), (mRow σ), (mRowMany σ), (mLots σ), (mRefused σ)) (nxt (mT σ) (tAt (mT σ))) (3 * (tStm (mT σ))) h8) (cwV 2 hts gX3_statement_X3_readsAll rfl rfl rfl (by decide +kernel) ⟨Nat.le_of_ble_eq_true rfl, Nat.le_of_ble_eq_true rfl⟩) ⟨RW_blind, va_recv hK hP (ci := 3) (q0 := 0) rfl rfl, fun U hU hW => ⟨rfl, by rw [hU]; exact hPc, va_K.moved hW.alike hK, hE.call hW hU hS (fun _ h => h), hDc⟩⟩ rfl rfl hl.1 rfl (lv_room (Nat.le_of_ble_eq_true rfl)) dX3_statement_84 ⟨Nat.le_of_ble_eq_true rfl, Nat.le_of_ble_eq_true rfl⟩) hS (fun _ h => h) (fun r u H1 locs hw hP1 hk hS => ?_)
    obtain ⟨hw1, hw⟩ := hw; subst r; subst u
    have hP := hP1
    generalize H1 = H at hP hS ⊢
    have hP : va_P (gD g) vwCl (wM g ad ((mS σ), ((rdAll ((tTape (mT σ)), (upd (tLetter (mT σ)) ((tStm (mT σ))).toNatClampNeg (nxt (mT σ) (tAt (mT σ)))), (upd (tLetterAt (mT σ)) ((tStm (mT σ))).toNatClampNeg (tAt (mT σ))), (tTold (mT σ)), (tTaped (mT σ)), ((tAt (mT σ)) + 1), (tStm (mT σ))) (nxt (mT σ) (tAt (mT σ))) (3 * (tStm (mT σ)))).2), (mK σ), (mF σ), (mRow σ), (mRowMany σ), (mLots σ), (mRefused σ))) H := hP
    have hD : va_D (AD ad 0 21) (wM g ad ((mS σ), ((rdAll ((tTape (mT σ)), (upd (tLetter (mT σ)) ((tStm (mT σ))).toNatClampNeg (nxt (mT σ) (tAt (mT σ)))), (upd (tLetterAt (mT σ)) ((tStm (mT σ))).toNatClampNeg (tAt (mT σ))), (tTold (mT σ)), (tTaped (mT σ)), ((tAt (mT σ)) + 1), (tStm (mT σ))) (nxt (mT σ) (tAt (mT σ))) (3 * (tStm (mT σ)))).2), (mK σ), (mF σ), (mRow σ), (mRowMany σ), (mLots σ), (mRefused σ))) := hD.addr (by rfl)
    refine lv_if_eq (tgt := 99) hx hb dX3_statement_87 (by decide) (fun c87 => ?_) (fun c87 => ?_)
    · have hv := hv.1 c87
      refine lv_iconst (v := 0) hx hb dX3_statement_99 (by decide) ?_
      exact W.zret (v := 0) hx hb hr rfl (fun t ht hW => ⟨⟨0, ((mS σ), ((rdAll ((tTape (mT σ)), (upd (tLetter (mT σ)) ((tStm (mT σ))).toNatClampNeg (nxt (mT σ) (tAt (mT σ)))), (upd (tLetterAt (mT σ)) ((tStm (mT σ))).toNatClampNeg (tAt (mT σ))), (tTold (mT σ)), (tTaped (mT σ)), ((tAt (mT σ)) + 1), (tStm (mT σ))) (nxt (mT σ) (tAt (mT σ))) (3 * (tStm (mT σ)))).2), (mK σ), (mF σ), (mRow σ), (mRowMany σ), (mLots σ), (mRefused σ)), rfl, hv, P_at ht hP⟩, hS.F ht⟩) hS.2.2 dX3_statement_100
    · have hv := hv.2 c87
      refine lv_aload_n hx hb dX3_statement_90 rfl (lv_at hl 1 rfl) ?_
      have h8 := hv.1
      have hv := hv.2
      have hPc := hP
      refine ro_int (va_runV (As := []) (rest := []) ⟨hx, hb, hml, hown, hts⟩ (h_X3_next g ad ((mS σ), ((rdAll ((tTape (mT σ)), (upd (tLetter (mT σ)) ((tStm (mT σ))).toNatClampNeg (nxt (mT σ) (tAt (mT σ)))), (upd (tLetterAt (mT σ)) ((tStm (mT σ))).toNatClampNeg (tAt (mT σ))), (tTold (mT σ)), (tTaped (mT σ)), ((tAt (mT σ)) + 1), (tStm (mT σ))) (nxt (mT σ) (tAt (mT σ))) (3 * (tStm (mT σ)))).2), (mK σ), (mF σ), (mRow σ), (mRowMany σ), (mLots σ), (mRefused σ)) h8) (cwV 0 hts gX3_statement_X3_next rfl rfl rfl (by decide +kernel) ⟨Nat.le_of_ble_eq_true rfl, Nat.le_of_ble_eq_true rfl⟩) ⟨RO_blind, va_recv hK hP (ci := 3) (q0 := 0) rfl rfl, fun U hU hW => ⟨rfl, by rw [hU]; exact hPc, va_K.moved hW.alike hK, hE.call hW hU hS (fun _ h => h.elim)⟩⟩ rfl rfl hl.1 rfl (lv_room (Nat.le_of_ble_eq_true rfl)) dX3_statement_91 ⟨Nat.le_of_ble_eq_true rfl, Nat.le_of_ble_eq_true rfl⟩) hS hP (fun r H locs hw hP hS => ?_)
      subst r
      refine lv_bipush (v := 59) hx hb dX3_statement_94 (by decide) ?_
      refine lv_icmp_eq (tgt := 101) hx hb dX3_statement_96 (by decide) (fun c96 => ?_) (fun c96 => ?_)
      · have hv := hv.1 c96
        refine lv_aload_n hx hb dX3_statement_101 rfl (lv_at hl 1 rfl) ?_
        refine lv_dup hx hb dX3_statement_102 rfl ?_
        refine va_get (D := gD g) (ci := 3) (v := .int (tAt ((rdAll ((tTape (mT σ)), (upd (tLetter (mT σ)) ((tStm (mT σ))).toNatClampNeg (nxt (mT σ) (tAt (mT σ)))), (upd (tLetterAt (mT σ)) ((tStm (mT σ))).toNatClampNeg (tAt (mT σ))), (tTold (mT σ)), (tTaped (mT σ)), ((tAt (mT σ)) + 1), (tStm (mT σ))) (nxt (mT σ) (tAt (mT σ))) (3 * (tStm (mT σ)))).2))) (C := RX3) (T := TX3) (N := 33) hx hb hts hi3 hown hK hP 0 rfl rfl 21 (by decide) k3 (fun _ h9 => h9) rfl dX3_statement_103 ?_
        refine lv_iconst (v := 1) hx hb dX3_statement_106 (by decide) ?_
        refine lv_iadd hx hb dX3_statement_107 ?_
        refine va_put (D := gD g) (ci := 3) (v := .int ((tAt ((rdAll ((tTape (mT σ)), (upd (tLetter (mT σ)) ((tStm (mT σ))).toNatClampNeg (nxt (mT σ) (tAt (mT σ)))), (upd (tLetterAt (mT σ)) ((tStm (mT σ))).toNatClampNeg (tAt (mT σ))), (tTold (mT σ)), (tTaped (mT σ)), ((tAt (mT σ)) + 1), (tStm (mT σ))) (nxt (mT σ) (tAt (mT σ))) (3 * (tStm (mT σ)))).2)) + 1)) (ty := .int) (C := RX3) (T := TX3) (N := 33) hx hb hts hi3 tyX3 tyX3_ok nmX3 hown hK hP hD hS 0 rfl rfl 21 (by decide) k3 (fun _ h9 => h9) rfl (by decide +kernel) rfl rfl (Nat.le_of_ble_eq_true rfl) dX3_statement_108 (fun H locs hP hD hS => ?_)
        have hP : va_P (gD g) vwCl (wM g ad ((mS σ), ((tTape ((rdAll ((tTape (mT σ)), (upd (tLetter (mT σ)) ((tStm (mT σ))).toNatClampNeg (nxt (mT σ) (tAt (mT σ)))), (upd (tLetterAt (mT σ)) ((tStm (mT σ))).toNatClampNeg (tAt (mT σ))), (tTold (mT σ)), (tTaped (mT σ)), ((tAt (mT σ)) + 1), (tStm (mT σ))) (nxt (mT σ) (tAt (mT σ))) (3 * (tStm (mT σ)))).2)), (tLetter ((rdAll ((tTape (mT σ)), (upd (tLetter (mT σ)) ((tStm (mT σ))).toNatClampNeg (nxt (mT σ) (tAt (mT σ)))), (upd (tLetterAt (mT σ)) ((tStm (mT σ))).toNatClampNeg (tAt (mT σ))), (tTold (mT σ)), (tTaped (mT σ)), ((tAt (mT σ)) + 1), (tStm (mT σ))) (nxt (mT σ) (tAt (mT σ))) (3 * (tStm (mT σ)))).2)), (tLetterAt ((rdAll ((tTape (mT σ)), (upd (tLetter (mT σ)) ((tStm (mT σ))).toNatClampNeg (nxt (mT σ) (tAt (mT σ)))), (upd (tLetterAt (mT σ)) ((tStm (mT σ))).toNatClampNeg (tAt (mT σ))), (tTold (mT σ)), (tTaped (mT σ)), ((tAt (mT σ)) + 1), (tStm (mT σ))) (nxt (mT σ) (tAt (mT σ))) (3 * (tStm (mT σ)))).2)), (tTold ((rdAll ((tTape (mT σ)), (upd (tLetter (mT σ)) ((tStm (mT σ))).toNatClampNeg (nxt (mT σ) (tAt (mT σ)))), (upd (tLetterAt (mT σ)) ((tStm (mT σ))).toNatClampNeg (tAt (mT σ))), (tTold (mT σ)), (tTaped (mT σ)), ((tAt (mT σ)) + 1), (tStm (mT σ))) (nxt (mT σ) (tAt (mT σ))) (3 * (tStm (mT σ)))).2)), (tTaped ((rdAll ((tTape (mT σ)), (upd (tLetter (mT σ)) ((tStm (mT σ))).toNatClampNeg (nxt (mT σ) (tAt (mT σ)))), (upd (tLetterAt (mT σ)) ((tStm (mT σ))).toNatClampNeg (tAt (mT σ))), (tTold (mT σ)), (tTaped (mT σ)), ((tAt (mT σ)) + 1), (tStm (mT σ))) (nxt (mT σ) (tAt (mT σ))) (3 * (tStm (mT σ)))).2)), ((tAt ((rdAll ((tTape (mT σ)), (upd (tLetter (mT σ)) ((tStm (mT σ))).toNatClampNeg (nxt (mT σ) (tAt (mT σ)))), (upd (tLetterAt (mT σ)) ((tStm (mT σ))).toNatClampNeg (tAt (mT σ))), (tTold (mT σ)), (tTaped (mT σ)), ((tAt (mT σ)) + 1), (tStm (mT σ))) (nxt (mT σ) (tAt (mT σ))) (3 * (tStm (mT σ)))).2)) + 1), (tStm ((rdAll ((tTape (mT σ)), (upd (tLetter (mT σ)) ((tStm (mT σ))).toNatClampNeg (nxt (mT σ) (tAt (mT σ)))), (upd (tLetterAt (mT σ)) ((tStm (mT σ))).toNatClampNeg (tAt (mT σ))), (tTold (mT σ)), (tTaped (mT σ)), ((tAt (mT σ)) + 1), (tStm (mT σ))) (nxt (mT σ) (tAt (mT σ))) (3 * (tStm (mT σ)))).2))), (mK σ), (mF σ), (mRow σ), (mRowMany σ), (mLots σ), (mRefused σ))) H := hP
        have hD : va_D (AD ad 0 21) (wM g ad ((mS σ), ((tTape ((rdAll ((tTape (mT σ)), (upd (tLetter (mT σ)) ((tStm (mT σ))).toNatClampNeg (nxt (mT σ) (tAt (mT σ)))), (upd (tLetterAt (mT σ)) ((tStm (mT σ))).toNatClampNeg (tAt (mT σ))), (tTold (mT σ)), (tTaped (mT σ)), ((tAt (mT σ)) + 1), (tStm (mT σ))) (nxt (mT σ) (tAt (mT σ))) (3 * (tStm (mT σ)))).2)), (tLetter ((rdAll ((tTape (mT σ)), (upd (tLetter (mT σ)) ((tStm (mT σ))).toNatClampNeg (nxt (mT σ) (tAt (mT σ)))), (upd (tLetterAt (mT σ)) ((tStm (mT σ))).toNatClampNeg (tAt (mT σ))), (tTold (mT σ)), (tTaped (mT σ)), ((tAt (mT σ)) + 1), (tStm (mT σ))) (nxt (mT σ) (tAt (mT σ))) (3 * (tStm (mT σ)))).2)), (tLetterAt ((rdAll ((tTape (mT σ)), (upd (tLetter (mT σ)) ((tStm (mT σ))).toNatClampNeg (nxt (mT σ) (tAt (mT σ)))), (upd (tLetterAt (mT σ)) ((tStm (mT σ))).toNatClampNeg (tAt (mT σ))), (tTold (mT σ)), (tTaped (mT σ)), ((tAt (mT σ)) + 1), (tStm (mT σ))) (nxt (mT σ) (tAt (mT σ))) (3 * (tStm (mT σ)))).2)), (tTold ((rdAll ((tTape (mT σ)), (upd (tLetter (mT σ)) ((tStm (mT σ))).toNatClampNeg (nxt (mT σ) (tAt (mT σ)))), (upd (tLetterAt (mT σ)) ((tStm (mT σ))).toNatClampNeg (tAt (mT σ))), (tTold (mT σ)), (tTaped (mT σ)), ((tAt (mT σ)) + 1), (tStm (mT σ))) (nxt (mT σ) (tAt (mT σ))) (3 * (tStm (mT σ)))).2)), (tTaped ((rdAll ((tTape (mT σ)), (upd (tLetter (mT σ)) ((tStm (mT σ))).toNatClampNeg (nxt (mT σ) (tAt (mT σ)))), (upd (tLetterAt (mT σ)) ((tStm (mT σ))).toNatClampNeg (tAt (mT σ))), (tTold (mT σ)), (tTaped (mT σ)), ((tAt (mT σ)) + 1), (tStm (mT σ))) (nxt (mT σ) (tAt (mT σ))) (3 * (tStm (mT σ)))).2)), ((tAt ((rdAll ((tTape (mT σ)), (upd (tLetter (mT σ)) ((tStm (mT σ))).toNatClampNeg (nxt (mT σ) (tAt (mT σ)))), (upd (tLetterAt (mT σ)) ((tStm (mT σ))).toNatClampNeg (tAt (mT σ))), (tTold (mT σ)), (tTaped (mT σ)), ((tAt (mT σ)) + 1), (tStm (mT σ))) (nxt (mT σ) (tAt (mT σ))) (3 * (tStm (mT σ)))).2)) + 1), (tStm ((rdAll ((tTape (mT σ)), (upd (tLetter (mT σ)) ((tStm (mT σ))).toNatClampNeg (nxt (mT σ) (tAt (mT σ)))), (upd (tLetterAt (mT σ)) ((tStm (mT σ))).toNatClampNeg (tAt (mT σ))), (tTold (mT σ)), (tTaped (mT σ)), ((tAt (mT σ)) + 1), (tStm (mT σ))) (nxt (mT σ) (tAt (mT σ))) (3 * (tStm (mT σ)))).2))), (mK σ), (mF σ), (mRow σ), (mRowMany σ), (mLots σ), (mRefused σ))) := hD
        refine lv_iconst (v := 1) hx hb dX3_statement_111 (by decide) ?_
        exact W.zret (v := 1) hx hb hr rfl (fun t ht hW => ⟨⟨1, ((mS σ), ((tTape ((rdAll ((tTape (mT σ)), (upd (tLetter (mT σ)) ((tStm (mT σ))).toNatClampNeg (nxt (mT σ) (tAt (mT σ)))), (upd (tLetterAt (mT σ)) ((tStm (mT σ))).toNatClampNeg (tAt (mT σ))), (tTold (mT σ)), (tTaped (mT σ)), ((tAt (mT σ)) + 1), (tStm (mT σ))) (nxt (mT σ) (tAt (mT σ))) (3 * (tStm (mT σ)))).2)), (tLetter ((rdAll ((tTape (mT σ)), (upd (tLetter (mT σ)) ((tStm (mT σ))).toNatClampNeg (nxt (mT σ) (tAt (mT σ)))), (upd (tLetterAt (mT σ)) ((tStm (mT σ))).toNatClampNeg (tAt (mT σ))), (tTold (mT σ)), (tTaped (mT σ)), ((tAt (mT σ)) + 1), (tStm (mT σ))) (nxt (mT σ) (tAt (mT σ))) (3 * (tStm (mT σ)))).2)), (tLetterAt ((rdAll ((tTape (mT σ)), (upd (tLetter (mT σ)) ((tStm (mT σ))).toNatClampNeg (nxt (mT σ) (tAt (mT σ)))), (upd (tLetterAt (mT σ)) ((tStm (mT σ))).toNatClampNeg (tAt (mT σ))), (tTold (mT σ)), (tTaped (mT σ)), ((tAt (mT σ)) + 1), (tStm (mT σ))) (nxt (mT σ) (tAt (mT σ))) (3 * (tStm (mT σ)))).2)), (tTold ((rdAll ((tTape (mT σ)), (upd (tLetter (mT σ)) ((tStm (mT σ))).toNatClampNeg (nxt (mT σ) (tAt (mT σ)))), (upd (tLetterAt (mT σ)) ((tStm (mT σ))).toNatClampNeg (tAt (mT σ))), (tTold (mT σ)), (tTaped (mT σ)), ((tAt (mT σ)) + 1), (tStm (mT σ))) (nxt (mT σ) (tAt (mT σ))) (3 * (tStm (mT σ)))).2)), (tTaped ((rdAll ((tTape (mT σ)), (upd (tLetter (mT σ)) ((tStm (mT σ))).toNatClampNeg (nxt (mT σ) (tAt (mT σ)))), (upd (tLetterAt (mT σ)) ((tStm (mT σ))).toNatClampNeg (tAt (mT σ))), (tTold (mT σ)), (tTaped (mT σ)), ((tAt (mT σ)) + 1), (tStm (mT σ))) (nxt (mT σ) (tAt (mT σ))) (3 * (tStm (mT σ)))).2)), ((tAt ((rdAll ((tTape (mT σ)), (upd (tLetter (mT σ)) ((tStm (mT σ))).toNatClampNeg (nxt (mT σ) (tAt (mT σ)))), (upd (tLetterAt (mT σ)) ((tStm (mT σ))).toNatClampNeg (tAt (mT σ))), (tTold (mT σ)), (tTaped (mT σ)), ((tAt (mT σ)) + 1), (tStm (mT σ))) (nxt (mT σ) (tAt (mT σ))) (3 * (tStm (mT σ)))).2)) + 1), (tStm ((rdAll ((tTape (mT σ)), (upd (tLetter (mT σ)) ((tStm (mT σ))).toNatClampNeg (nxt (mT σ) (tAt (mT σ)))), (upd (tLetterAt (mT σ)) ((tStm (mT σ))).toNatClampNeg (tAt (mT σ))), (tTold (mT σ)), (tTaped (mT σ)), ((tAt (mT σ)) + 1), (tStm (mT σ))) (nxt (mT σ) (tAt (mT σ))) (3 * (tStm (mT σ)))).2))), (mK σ), (mF σ), (mRow σ), (mRowMany σ), (mLots σ), (mRefused σ)), rfl, hv, P_at ht hP⟩, hS.F ht⟩) hS.2.2 dX3_statement_112
      · have hv := hv.2 c96
        refine lv_iconst (v := 0) hx hb dX3_statement_99 (by decide) ?_
        exact W.zret (v := 0) hx hb hr rfl (fun t ht hW => ⟨⟨0, ((mS σ), ((rdAll ((tTape (mT σ)), (upd (tLetter (mT σ)) ((tStm (mT σ))).toNatClampNeg (nxt (mT σ) (tAt (mT σ)))), (upd (tLetterAt (mT σ)) ((tStm (mT σ))).toNatClampNeg (tAt (mT σ))), (tTold (mT σ)), (tTaped (mT σ)), ((tAt (mT σ)) + 1), (tStm (mT σ))) (nxt (mT σ) (tAt (mT σ))) (3 * (tStm (mT σ)))).2), (mK σ), (mF σ), (mRow σ), (mRowMany σ), (mLots σ), (mRefused σ)), rfl, hv, P_at ht hP⟩, hS.F ht⟩) hS.2.2 dX3_statement_100
  · have hv := hv.2 c8
    refine lv_iload_n hx hb dX3_statement_11 rfl (lv_at hl 0 rfl) ?_
    refine lv_bipush (v := 113) hx hb dX3_statement_12 (by decide) ?_
    refine lv_icmp_eq (tgt := 43) hx hb dX3_statement_14 (by decide) (fun c14 => ?_) (fun c14 => ?_)
    · have hv := hv.1 c14
      refine lv_aload_n hx hb dX3_statement_43 rfl (lv_at hl 1 rfl) ?_
      refine va_get (D := gD g) (ci := 3) (v := .ref (ad 13)) (C := RX3) (T := TX3) (N := 33) hx hb hts hi3 hown hK hP 0 rfl rfl 17 (by decide) k0 (fun _ h9 => h9) rfl dX3_statement_44 ?_
      refine lv_aload_n hx hb dX3_statement_47 rfl (lv_at hl 1 rfl) ?_
      refine va_get (D := gD g) (ci := 3) (v := .int (tStm (mT σ))) (C := RX3) (T := TX3) (N := 33) hx hb hts hi3 hown hK hP 0 rfl rfl 22 (by decide) k1 (fun _ h9 => h9) rfl dX3_statement_48 ?_
      refine lv_iload_n hx hb dX3_statement_51 rfl (lv_at hl 0 rfl) ?_
      have h9 := hv.1
      have hv := hv.2
      refine va_iast (f := (tLetter (mT σ))) (n := 48) hx hb hK hP hD hS 13 0 rfl rfl h9 dX3_statement_52 (fun H locs hP hD hS => ?_)
      have hP : va_P (gD g) vwCl (wM g ad ((mS σ), ((tTape (mT σ)), (upd (tLetter (mT σ)) ((tStm (mT σ))).toNatClampNeg (nxt (mT σ) (tAt (mT σ)))), (tLetterAt (mT σ)), (tTold (mT σ)), (tTaped (mT σ)), (tAt (mT σ)), (tStm (mT σ))), (mK σ), (mF σ), (mRow σ), (mRowMany σ), (mLots σ), (mRefused σ))) H := hP
      have hD : va_D (AD ad 0 21) (wM g ad ((mS σ), ((tTape (mT σ)), (upd (tLetter (mT σ)) ((tStm (mT σ))).toNatClampNeg (nxt (mT σ) (tAt (mT σ)))), (tLetterAt (mT σ)), (tTold (mT σ)), (tTaped (mT σ)), (tAt (mT σ)), (tStm (mT σ))), (mK σ), (mF σ), (mRow σ), (mRowMany σ), (mLots σ), (mRefused σ))) := hD
      refine lv_aload_n hx hb dX3_statement_53 rfl (lv_at hl 1 rfl) ?_
      refine va_get (D := gD g) (ci := 3) (v := .ref (ad 14)) (C := RX3) (T := TX3) (N := 33) hx hb hts hi3 hown hK hP 0 rfl rfl 18 (by decide) k2 (fun _ h9 => h9) rfl dX3_statement_54 ?_
      refine lv_aload_n hx hb dX3_statement_57 rfl (lv_at hl 1 rfl) ?_
      refine va_get (D := gD g) (ci := 3) (v := .int (tStm (mT σ))) (C := RX3) (T := TX3) (N := 33) hx hb hts hi3 hown hK hP 0 rfl rfl 22 (by decide) k1 (fun _ h9 => h9) rfl dX3_statement_58 ?_
      refine lv_aload_n hx hb dX3_statement_61 rfl (lv_at hl 1 rfl) ?_
      refine va_get (D := gD g) (ci := 3) (v := .int (tAt (mT σ))) (C := RX3) (T := TX3) (N := 33) hx hb hts hi3 hown hK hP 0 rfl rfl 21 (by decide) k3 (fun _ h9 => h9) rfl dX3_statement_62 ?_
      have h9 := hv.1
      have hv := hv.2
      refine va_iast (f := (tLetterAt (mT σ))) (n := 48) hx hb hK hP hD hS 14 0 rfl rfl h9 dX3_statement_65 (fun H locs hP hD hS => ?_)
      have hP : va_P (gD g) vwCl (wM g ad ((mS σ), ((tTape (mT σ)), (upd (tLetter (mT σ)) ((tStm (mT σ))).toNatClampNeg (nxt (mT σ) (tAt (mT σ)))), (upd (tLetterAt (mT σ)) ((tStm (mT σ))).toNatClampNeg (tAt (mT σ))), (tTold (mT σ)), (tTaped (mT σ)), (tAt (mT σ)), (tStm (mT σ))), (mK σ), (mF σ), (mRow σ), (mRowMany σ), (mLots σ), (mRefused σ))) H := hP
      have hD : va_D (AD ad 0 21) (wM g ad ((mS σ), ((tTape (mT σ)), (upd (tLetter (mT σ)) ((tStm (mT σ))).toNatClampNeg (nxt (mT σ) (tAt (mT σ)))), (upd (tLetterAt (mT σ)) ((tStm (mT σ))).toNatClampNeg (tAt (mT σ))), (tTold (mT σ)), (tTaped (mT σ)), (tAt (mT σ)), (tStm (mT σ))), (mK σ), (mF σ), (mRow σ), (mRowMany σ), (mLots σ), (mRefused σ))) := hD
      refine lv_aload_n hx hb dX3_statement_66 rfl (lv_at hl 1 rfl) ?_
      refine lv_dup hx hb dX3_statement_67 rfl ?_
      refine va_get (D := gD g) (ci := 3) (v := .int (tAt (mT σ))) (C := RX3) (T := TX3) (N := 33) hx hb hts hi3 hown hK hP 0 rfl rfl 21 (by decide) k3 (fun _ h9 => h9) rfl dX3_statement_68 ?_
      refine lv_iconst (v := 1) hx hb dX3_statement_71 (by decide) ?_
      refine lv_iadd hx hb dX3_statement_72 ?_
      refine va_put (D := gD g) (ci := 3) (v := .int ((tAt (mT σ)) + 1)) (ty := .int) (C := RX3) (T := TX3) (N := 33) hx hb hts hi3 tyX3 tyX3_ok nmX3 hown hK hP hD hS 0 rfl rfl 21 (by decide) k3 (fun _ h9 => h9) rfl (by decide +kernel) rfl rfl (Nat.le_of_ble_eq_true rfl) dX3_statement_73 (fun H locs hP hD hS => ?_)
      have hP : va_P (gD g) vwCl (wM g ad ((mS σ), ((tTape (mT σ)), (upd (tLetter (mT σ)) ((tStm (mT σ))).toNatClampNeg (nxt (mT σ) (tAt (mT σ)))), (upd (tLetterAt (mT σ)) ((tStm (mT σ))).toNatClampNeg (tAt (mT σ))), (tTold (mT σ)), (tTaped (mT σ)), ((tAt (mT σ)) + 1), (tStm (mT σ))), (mK σ), (mF σ), (mRow σ), (mRowMany σ), (mLots σ), (mRefused σ))) H := hP
      have hD : va_D (AD ad 0 21) (wM g ad ((mS σ), ((tTape (mT σ)), (upd (tLetter (mT σ)) ((tStm (mT σ))).toNatClampNeg (nxt (mT σ) (tAt (mT σ)))), (upd (tLetterAt (mT σ)) ((tStm (mT σ))).toNatClampNeg (tAt (mT σ))), (tTold (mT σ)), (tTaped (mT σ)), ((tAt (mT σ)) + 1), (tStm (mT σ))), (mK σ), (mF σ), (mRow σ), (mRowMany σ), (mLots σ), (mRefused σ))) := hD
      refine lv_aload_n hx hb dX3_statement_76 rfl (lv_at hl 1 rfl) ?_
      refine lv_iload_n hx hb dX3_statement_77 rfl (lv_at hl 0 rfl) ?_
      refine lv_iconst (v := 3) hx hb dX3_statement_78 (by decide) ?_
      refine lv_aload_n hx hb dX3_statement_79 rfl (lv_at hl 1 rfl) ?_
      refine va_get (D := gD g) (ci := 3) (v := .int (tStm (mT σ))) (C := RX3) (T := TX3) (N := 33) hx hb hts hi3 hown hK hP 0 rfl rfl 22 (by decide) k1 (fun _ h9 => h9) rfl dX3_statement_80 ?_
      refine lv_imul hx hb dX3_statement_83 ?_
      have h8 := hv.1
      have hv := hv.2
      have hPc := hP
      have hDc := hD
      refine rw_int (va_runV (As := [.int (nxt (mT σ) (tAt (mT σ))), .int (3 * (tStm (mT σ)))]) (rest := []) ⟨hx, hb, hml, hown, hts⟩ (h_X3_readsAll g ad ((mS σ), ((tTape (mT σ)), (upd (tLetter (mT σ)) ((tStm (mT σ))).toNatClampNeg (nxt (mT σ) (tAt (mT σ)))), (upd (tLetterAt (mT σ)) ((tStm (mT σ))).toNatClampNeg (tAt (mT σ))), (tTold (mT σ)), (tTaped (mT σ)), ((tAt (mT σ)) + 1), (tStm (mT σ))), (mK σ), (mF σ), (mRow σ), (mRowMany σ), (mLots σ), (mRefused σ)) (nxt (mT σ) (tAt (mT σ))) (3 * (tStm (mT σ))) h8) (cwV 2 hts gX3_statement_X3_readsAll rfl rfl rfl (by decide +kernel) ⟨Nat.le_of_ble_eq_true rfl, Nat.le_of_ble_eq_true rfl⟩) ⟨RW_blind, va_recv hK hP (ci := 3) (q0 := 0) rfl rfl, fun U hU hW => ⟨rfl, by rw [hU]; exact hPc, va_K.moved hW.alike hK, hE.call hW hU hS (fun _ h => h), hDc⟩⟩ rfl rfl hl.1 rfl (lv_room (Nat.le_of_ble_eq_true rfl)) dX3_statement_84 ⟨Nat.le_of_ble_eq_true rfl, Nat.le_of_ble_eq_true rfl⟩) hS (fun _ h => h) (fun r u H1 locs hw hP1 hk hS => ?_)
      obtain ⟨hw1, hw⟩ := hw; subst r; subst u
      have hP := hP1
      generalize H1 = H at hP hS ⊢
      have hP : va_P (gD g) vwCl (wM g ad ((mS σ), ((rdAll ((tTape (mT σ)), (upd (tLetter (mT σ)) ((tStm (mT σ))).toNatClampNeg (nxt (mT σ) (tAt (mT σ)))), (upd (tLetterAt (mT σ)) ((tStm (mT σ))).toNatClampNeg (tAt (mT σ))), (tTold (mT σ)), (tTaped (mT σ)), ((tAt (mT σ)) + 1), (tStm (mT σ))) (nxt (mT σ) (tAt (mT σ))) (3 * (tStm (mT σ)))).2), (mK σ), (mF σ), (mRow σ), (mRowMany σ), (mLots σ), (mRefused σ))) H := hP
      have hD : va_D (AD ad 0 21) (wM g ad ((mS σ), ((rdAll ((tTape (mT σ)), (upd (tLetter (mT σ)) ((tStm (mT σ))).toNatClampNeg (nxt (mT σ) (tAt (mT σ)))), (upd (tLetterAt (mT σ)) ((tStm (mT σ))).toNatClampNeg (tAt (mT σ))), (tTold (mT σ)), (tTaped (mT σ)), ((tAt (mT σ)) + 1), (tStm (mT σ))) (nxt (mT σ) (tAt (mT σ))) (3 * (tStm (mT σ)))).2), (mK σ), (mF σ), (mRow σ), (mRowMany σ), (mLots σ), (mRefused σ))) := hD.addr (by rfl)
      refine lv_if_eq (tgt := 99) hx hb dX3_statement_87 (by decide) (fun c87 => ?_) (fun c87 => ?_)
      · have hv := hv.1 c87
        refine lv_iconst (v := 0) hx hb dX3_statement_99 (by decide) ?_
        exact W.zret (v := 0) hx hb hr rfl (fun t ht hW => ⟨⟨0, ((mS σ), ((rdAll ((tTape (mT σ)), (upd (tLetter (mT σ)) ((tStm (mT σ))).toNatClampNeg (nxt (mT σ) (tAt (mT σ)))), (upd (tLetterAt (mT σ)) ((tStm (mT σ))).toNatClampNeg (tAt (mT σ))), (tTold (mT σ)), (tTaped (mT σ)), ((tAt (mT σ)) + 1), (tStm (mT σ))) (nxt (mT σ) (tAt (mT σ))) (3 * (tStm (mT σ)))).2), (mK σ), (mF σ), (mRow σ), (mRowMany σ), (mLots σ), (mRefused σ)), rfl, hv, P_at ht hP⟩, hS.F ht⟩) hS.2.2 dX3_statement_100
      · have hv := hv.2 c87
        refine lv_aload_n hx hb dX3_statement_90 rfl (lv_at hl 1 rfl) ?_
        have h8 := hv.1
        have hv := hv.2
        have hPc := hP
        refine ro_int (va_runV (As := []) (rest := []) ⟨hx, hb, hml, hown, hts⟩ (h_X3_next g ad ((mS σ), ((rdAll ((tTape (mT σ)), (upd (tLetter (mT σ)) ((tStm (mT σ))).toNatClampNeg (nxt (mT σ) (tAt (mT σ)))), (upd (tLetterAt (mT σ)) ((tStm (mT σ))).toNatClampNeg (tAt (mT σ))), (tTold (mT σ)), (tTaped (mT σ)), ((tAt (mT σ)) + 1), (tStm (mT σ))) (nxt (mT σ) (tAt (mT σ))) (3 * (tStm (mT σ)))).2), (mK σ), (mF σ), (mRow σ), (mRowMany σ), (mLots σ), (mRefused σ)) h8) (cwV 0 hts gX3_statement_X3_next rfl rfl rfl (by decide +kernel) ⟨Nat.le_of_ble_eq_true rfl, Nat.le_of_ble_eq_true rfl⟩) ⟨RO_blind, va_recv hK hP (ci := 3) (q0 := 0) rfl rfl, fun U hU hW => ⟨rfl, by rw [hU]; exact hPc, va_K.moved hW.alike hK, hE.call hW hU hS (fun _ h => h.elim)⟩⟩ rfl rfl hl.1 rfl (lv_room (Nat.le_of_ble_eq_true rfl)) dX3_statement_91 ⟨Nat.le_of_ble_eq_true rfl, Nat.le_of_ble_eq_true rfl⟩) hS hP (fun r H locs hw hP hS => ?_)
        subst r
        refine lv_bipush (v := 59) hx hb dX3_statement_94 (by decide) ?_
        refine lv_icmp_eq (tgt := 101) hx hb dX3_statement_96 (by decide) (fun c96 => ?_) (fun c96 => ?_)
        · have hv := hv.1 c96
          refine lv_aload_n hx hb dX3_statement_101 rfl (lv_at hl 1 rfl) ?_
          refine lv_dup hx hb dX3_statement_102 rfl ?_
          refine va_get (D := gD g) (ci := 3) (v := .int (tAt ((rdAll ((tTape (mT σ)), (upd (tLetter (mT σ)) ((tStm (mT σ))).toNatClampNeg (nxt (mT σ) (tAt (mT σ)))), (upd (tLetterAt (mT σ)) ((tStm (mT σ))).toNatClampNeg (tAt (mT σ))), (tTold (mT σ)), (tTaped (mT σ)), ((tAt (mT σ)) + 1), (tStm (mT σ))) (nxt (mT σ) (tAt (mT σ))) (3 * (tStm (mT σ)))).2))) (C := RX3) (T := TX3) (N := 33) hx hb hts hi3 hown hK hP 0 rfl rfl 21 (by decide) k3 (fun _ h9 => h9) rfl dX3_statement_103 ?_
          refine lv_iconst (v := 1) hx hb dX3_statement_106 (by decide) ?_
          refine lv_iadd hx hb dX3_statement_107 ?_
          refine va_put (D := gD g) (ci := 3) (v := .int ((tAt ((rdAll ((tTape (mT σ)), (upd (tLetter (mT σ)) ((tStm (mT σ))).toNatClampNeg (nxt (mT σ) (tAt (mT σ)))), (upd (tLetterAt (mT σ)) ((tStm (mT σ))).toNatClampNeg (tAt (mT σ))), (tTold (mT σ)), (tTaped (mT σ)), ((tAt (mT σ)) + 1), (tStm (mT σ))) (nxt (mT σ) (tAt (mT σ))) (3 * (tStm (mT σ)))).2)) + 1)) (ty := .int) (C := RX3) (T := TX3) (N := 33) hx hb hts hi3 tyX3 tyX3_ok nmX3 hown hK hP hD hS 0 rfl rfl 21 (by decide) k3 (fun _ h9 => h9) rfl (by decide +kernel) rfl rfl (Nat.le_of_ble_eq_true rfl) dX3_statement_108 (fun H locs hP hD hS => ?_)
          have hP : va_P (gD g) vwCl (wM g ad ((mS σ), ((tTape ((rdAll ((tTape (mT σ)), (upd (tLetter (mT σ)) ((tStm (mT σ))).toNatClampNeg (nxt (mT σ) (tAt (mT σ)))), (upd (tLetterAt (mT σ)) ((tStm (mT σ))).toNatClampNeg (tAt (mT σ))), (tTold (mT σ)), (tTaped (mT σ)), ((tAt (mT σ)) + 1), (tStm (mT σ))) (nxt (mT σ) (tAt (mT σ))) (3 * (tStm (mT σ)))).2)), (tLetter ((rdAll ((tTape (mT σ)), (upd (tLetter (mT σ)) ((tStm (mT σ))).toNatClampNeg (nxt (mT σ) (tAt (mT σ)))), (upd (tLetterAt (mT σ)) ((tStm (mT σ))).toNatClampNeg (tAt (mT σ))), (tTold (mT σ)), (tTaped (mT σ)), ((tAt (mT σ)) + 1), (tStm (mT σ))) (nxt (mT σ) (tAt (mT σ))) (3 * (tStm (mT σ)))).2)), (tLetterAt ((rdAll ((tTape (mT σ)), (upd (tLetter (mT σ)) ((tStm (mT σ))).toNatClampNeg (nxt (mT σ) (tAt (mT σ)))), (upd (tLetterAt (mT σ)) ((tStm (mT σ))).toNatClampNeg (tAt (mT σ))), (tTold (mT σ)), (tTaped (mT σ)), ((tAt (mT σ)) + 1), (tStm (mT σ))) (nxt (mT σ) (tAt (mT σ))) (3 * (tStm (mT σ)))).2)), (tTold ((rdAll ((tTape (mT σ)), (upd (tLetter (mT σ)) ((tStm (mT σ))).toNatClampNeg (nxt (mT σ) (tAt (mT σ)))), (upd (tLetterAt (mT σ)) ((tStm (mT σ))).toNatClampNeg (tAt (mT σ))), (tTold (mT σ)), (tTaped (mT σ)), ((tAt (mT σ)) + 1), (tStm (mT σ))) (nxt (mT σ) (tAt (mT σ))) (3 * (tStm (mT σ)))).2)), (tTaped ((rdAll ((tTape (mT σ)), (upd (tLetter (mT σ)) ((tStm (mT σ))).toNatClampNeg (nxt (mT σ) (tAt (mT σ)))), (upd (tLetterAt (mT σ)) ((tStm (mT σ))).toNatClampNeg (tAt (mT σ))), (tTold (mT σ)), (tTaped (mT σ)), ((tAt (mT σ)) + 1), (tStm (mT σ))) (nxt (mT σ) (tAt (mT σ))) (3 * (tStm (mT σ)))).2)), ((tAt ((rdAll ((tTape (mT σ)), (upd (tLetter (mT σ)) ((tStm (mT σ))).toNatClampNeg (nxt (mT σ) (tAt (mT σ)))), (upd (tLetterAt (mT σ)) ((tStm (mT σ))).toNatClampNeg (tAt (mT σ))), (tTold (mT σ)), (tTaped (mT σ)), ((tAt (mT σ)) + 1), (tStm (mT σ))) (nxt (mT σ) (tAt (mT σ))) (3 * (tStm (mT σ)))).2)) + 1), (tStm ((rdAll ((tTape (mT σ)), (upd (tLetter (mT σ)) ((tStm (mT σ))).toNatClampNeg (nxt (mT σ) (tAt (mT σ)))), (upd (tLetterAt (mT σ)) ((tStm (mT σ))).toNatClampNeg (tAt (mT σ))), (tTold (mT σ)), (tTaped (mT σ)), ((tAt (mT σ)) + 1), (tStm (mT σ))) (nxt (mT σ) (tAt (mT σ))) (3 * (tStm (mT σ)))).2))), (mK σ), (mF σ), (mRow σ), (mRowMany σ), (mLots σ), (mRefused σ))) H := hP
          have hD : va_D (AD ad 0 21) (wM g ad ((mS σ), ((tTape ((rdAll ((tTape (mT σ)), (upd (tLetter (mT σ)) ((tStm (mT σ))).toNatClampNeg (nxt (mT σ) (tAt (mT σ)))), (upd (tLetterAt (mT σ)) ((tStm (mT σ))).toNatClampNeg (tAt (mT σ))), (tTold (mT σ)), (tTaped (mT σ)), ((tAt (mT σ)) + 1), (tStm (mT σ))) (nxt (mT σ) (tAt (mT σ))) (3 * (tStm (mT σ)))).2)), (tLetter ((rdAll ((tTape (mT σ)), (upd (tLetter (mT σ)) ((tStm (mT σ))).toNatClampNeg (nxt (mT σ) (tAt (mT σ)))), (upd (tLetterAt (mT σ)) ((tStm (mT σ))).toNatClampNeg (tAt (mT σ))), (tTold (mT σ)), (tTaped (mT σ)), ((tAt (mT σ)) + 1), (tStm (mT σ))) (nxt (mT σ) (tAt (mT σ))) (3 * (tStm (mT σ)))).2)), (tLetterAt ((rdAll ((tTape (mT σ)), (upd (tLetter (mT σ)) ((tStm (mT σ))).toNatClampNeg (nxt (mT σ) (tAt (mT σ)))), (upd (tLetterAt (mT σ)) ((tStm (mT σ))).toNatClampNeg (tAt (mT σ))), (tTold (mT σ)), (tTaped (mT σ)), ((tAt (mT σ)) + 1), (tStm (mT σ))) (nxt (mT σ) (tAt (mT σ))) (3 * (tStm (mT σ)))).2)), (tTold ((rdAll ((tTape (mT σ)), (upd (tLetter (mT σ)) ((tStm (mT σ))).toNatClampNeg (nxt (mT σ) (tAt (mT σ)))), (upd (tLetterAt (mT σ)) ((tStm (mT σ))).toNatClampNeg (tAt (mT σ))), (tTold (mT σ)), (tTaped (mT σ)), ((tAt (mT σ)) + 1), (tStm (mT σ))) (nxt (mT σ) (tAt (mT σ))) (3 * (tStm (mT σ)))).2)), (tTaped ((rdAll ((tTape (mT σ)), (upd (tLetter (mT σ)) ((tStm (mT σ))).toNatClampNeg (nxt (mT σ) (tAt (mT σ)))), (upd (tLetterAt (mT σ)) ((tStm (mT σ))).toNatClampNeg (tAt (mT σ))), (tTold (mT σ)), (tTaped (mT σ)), ((tAt (mT σ)) + 1), (tStm (mT σ))) (nxt (mT σ) (tAt (mT σ))) (3 * (tStm (mT σ)))).2)), ((tAt ((rdAll ((tTape (mT σ)), (upd (tLetter (mT σ)) ((tStm (mT σ))).toNatClampNeg (nxt (mT σ) (tAt (mT σ)))), (upd (tLetterAt (mT σ)) ((tStm (mT σ))).toNatClampNeg (tAt (mT σ))), (tTold (mT σ)), (tTaped (mT σ)), ((tAt (mT σ)) + 1), (tStm (mT σ))) (nxt (mT σ) (tAt (mT σ))) (3 * (tStm (mT σ)))).2)) + 1), (tStm ((rdAll ((tTape (mT σ)), (upd (tLetter (mT σ)) ((tStm (mT σ))).toNatClampNeg (nxt (mT σ) (tAt (mT σ)))), (upd (tLetterAt (mT σ)) ((tStm (mT σ))).toNatClampNeg (tAt (mT σ))), (tTold (mT σ)), (tTaped (mT σ)), ((tAt (mT σ)) + 1), (tStm (mT σ))) (nxt (mT σ) (tAt (mT σ))) (3 * (tStm (mT σ)))).2))), (mK σ), (mF σ), (mRow σ), (mRowMany σ), (mLots σ), (mRefused σ))) := hD
          refine lv_iconst (v := 1) hx hb dX3_statement_111 (by decide) ?_
          exact W.zret (v := 1) hx hb hr rfl (fun t ht hW => ⟨⟨1, ((mS σ), ((tTape ((rdAll ((tTape (mT σ)), (upd (tLetter (mT σ)) ((tStm (mT σ))).toNatClampNeg (nxt (mT σ) (tAt (mT σ)))), (upd (tLetterAt (mT σ)) ((tStm (mT σ))).toNatClampNeg (tAt (mT σ))), (tTold (mT σ)), (tTaped (mT σ)), ((tAt (mT σ)) + 1), (tStm (mT σ))) (nxt (mT σ) (tAt (mT σ))) (3 * (tStm (mT σ)))).2)), (tLetter ((rdAll ((tTape (mT σ)), (upd (tLetter (mT σ)) ((tStm (mT σ))).toNatClampNeg (nxt (mT σ) (tAt (mT σ)))), (upd (tLetterAt (mT σ)) ((tStm (mT σ))).toNatClampNeg (tAt (mT σ))), (tTold (mT σ)), (tTaped (mT σ)), ((tAt (mT σ)) + 1), (tStm (mT σ))) (nxt (mT σ) (tAt (mT σ))) (3 * (tStm (mT σ)))).2)), (tLetterAt ((rdAll ((tTape (mT σ)), (upd (tLetter (mT σ)) ((tStm (mT σ))).toNatClampNeg (nxt (mT σ) (tAt (mT σ)))), (upd (tLetterAt (mT σ)) ((tStm (mT σ))).toNatClampNeg (tAt (mT σ))), (tTold (mT σ)), (tTaped (mT σ)), ((tAt (mT σ)) + 1), (tStm (mT σ))) (nxt (mT σ) (tAt (mT σ))) (3 * (tStm (mT σ)))).2)), (tTold ((rdAll ((tTape (mT σ)), (upd (tLetter (mT σ)) ((tStm (mT σ))).toNatClampNeg (nxt (mT σ) (tAt (mT σ)))), (upd (tLetterAt (mT σ)) ((tStm (mT σ))).toNatClampNeg (tAt (mT σ))), (tTold (mT σ)), (tTaped (mT σ)), ((tAt (mT σ)) + 1), (tStm (mT σ))) (nxt (mT σ) (tAt (mT σ))) (3 * (tStm (mT σ)))).2)), (tTaped ((rdAll ((tTape (mT σ)), (upd (tLetter (mT σ)) ((tStm (mT σ))).toNatClampNeg (nxt (mT σ) (tAt (mT σ)))), (upd (tLetterAt (mT σ)) ((tStm (mT σ))).toNatClampNeg (tAt (mT σ))), (tTold (mT σ)), (tTaped (mT σ)), ((tAt (mT σ)) + 1), (tStm (mT σ))) (nxt (mT σ) (tAt (mT σ))) (3 * (tStm (mT σ)))).2)), ((tAt ((rdAll ((tTape (mT σ)), (upd (tLetter (mT σ)) ((tStm (mT σ))).toNatClampNeg (nxt (mT σ) (tAt (mT σ)))), (upd (tLetterAt (mT σ)) ((tStm (mT σ))).toNatClampNeg (tAt (mT σ))), (tTold (mT σ)), (tTaped (mT σ)), ((tAt (mT σ)) + 1), (tStm (mT σ))) (nxt (mT σ) (tAt (mT σ))) (3 * (tStm (mT σ)))).2)) + 1), (tStm ((rdAll ((tTape (mT σ)), (upd (tLetter (mT σ)) ((tStm (mT σ))).toNatClampNeg (nxt (mT σ) (tAt (mT σ)))), (upd (tLetterAt (mT σ)) ((tStm (mT σ))).toNatClampNeg (tAt (mT σ))), (tTold (mT σ)), (tTaped (mT σ)), ((tAt (mT σ)) + 1), (tStm (mT σ))) (nxt (mT σ) (tAt (mT σ))) (3 * (tStm (mT σ)))).2))), (mK σ), (mF σ), (mRow σ), (mRowMany σ), (mLots σ), (mRefused σ)), rfl, hv, P_at ht hP⟩, hS.F ht⟩) hS.2.2 dX3_statement_112
        · have hv := hv.2 c96
          refine lv_iconst (v := 0) hx hb dX3_statement_99 (by decide) ?_
          exact W.zret (v := 0) hx hb hr rfl (fun t ht hW => ⟨⟨0, ((mS σ), ((rdAll ((tTape (mT σ)), (upd (tLetter (mT σ)) ((tStm (mT σ))).toNatClampNeg (nxt (mT σ) (tAt (mT σ)))), (upd (tLetterAt (mT σ)) ((tStm (mT σ))).toNatClampNeg (tAt (mT σ))), (tTold (mT σ)), (tTaped (mT σ)), ((tAt (mT σ)) + 1), (tStm (mT σ))) (nxt (mT σ) (tAt (mT σ))) (3 * (tStm (mT σ)))).2), (mK σ), (mF σ), (mRow σ), (mRowMany σ), (mLots σ), (mRefused σ)), rfl, hv, P_at ht hP⟩, hS.F ht⟩) hS.2.2 dX3_statement_100
    · have hv := hv.2 c14
      refine lv_iload_n hx hb dX3_statement_17 rfl (lv_at hl 0 rfl) ?_
      refine lv_bipush (v := 119) hx hb dX3_statement_18 (by decide) ?_
      refine lv_icmp_eq (tgt := 43) hx hb dX3_statement_20 (by decide) (fun c20 => ?_) (fun c20 => ?_)
      · have hv := hv.1 c20
        refine lv_aload_n hx hb dX3_statement_43 rfl (lv_at hl 1 rfl) ?_
        refine va_get (D := gD g) (ci := 3) (v := .ref (ad 13)) (C := RX3) (T := TX3) (N := 33) hx hb hts hi3 hown hK hP 0 rfl rfl 17 (by decide) k0 (fun _ h9 => h9) rfl dX3_statement_44 ?_
        refine lv_aload_n hx hb dX3_statement_47 rfl (lv_at hl 1 rfl) ?_
        refine va_get (D := gD g) (ci := 3) (v := .int (tStm (mT σ))) (C := RX3) (T := TX3) (N := 33) hx hb hts hi3 hown hK hP 0 rfl rfl 22 (by decide) k1 (fun _ h9 => h9) rfl dX3_statement_48 ?_
        refine lv_iload_n hx hb dX3_statement_51 rfl (lv_at hl 0 rfl) ?_
        have h9 := hv.1
        have hv := hv.2
        refine va_iast (f := (tLetter (mT σ))) (n := 48) hx hb hK hP hD hS 13 0 rfl rfl h9 dX3_statement_52 (fun H locs hP hD hS => ?_)
        have hP : va_P (gD g) vwCl (wM g ad ((mS σ), ((tTape (mT σ)), (upd (tLetter (mT σ)) ((tStm (mT σ))).toNatClampNeg (nxt (mT σ) (tAt (mT σ)))), (tLetterAt (mT σ)), (tTold (mT σ)), (tTaped (mT σ)), (tAt (mT σ)), (tStm (mT σ))), (mK σ), (mF σ), (mRow σ), (mRowMany σ), (mLots σ), (mRefused σ))) H := hP
        have hD : va_D (AD ad 0 21) (wM g ad ((mS σ), ((tTape (mT σ)), (upd (tLetter (mT σ)) ((tStm (mT σ))).toNatClampNeg (nxt (mT σ) (tAt (mT σ)))), (tLetterAt (mT σ)), (tTold (mT σ)), (tTaped (mT σ)), (tAt (mT σ)), (tStm (mT σ))), (mK σ), (mF σ), (mRow σ), (mRowMany σ), (mLots σ), (mRefused σ))) := hD
        refine lv_aload_n hx hb dX3_statement_53 rfl (lv_at hl 1 rfl) ?_
        refine va_get (D := gD g) (ci := 3) (v := .ref (ad 14)) (C := RX3) (T := TX3) (N := 33) hx hb hts hi3 hown hK hP 0 rfl rfl 18 (by decide) k2 (fun _ h9 => h9) rfl dX3_statement_54 ?_
        refine lv_aload_n hx hb dX3_statement_57 rfl (lv_at hl 1 rfl) ?_
        refine va_get (D := gD g) (ci := 3) (v := .int (tStm (mT σ))) (C := RX3) (T := TX3) (N := 33) hx hb hts hi3 hown hK hP 0 rfl rfl 22 (by decide) k1 (fun _ h9 => h9) rfl dX3_statement_58 ?_
        refine lv_aload_n hx hb dX3_statement_61 rfl (lv_at hl 1 rfl) ?_
        refine va_get (D := gD g) (ci := 3) (v := .int (tAt (mT σ))) (C := RX3) (T := TX3) (N := 33) hx hb hts hi3 hown hK hP 0 rfl rfl 21 (by decide) k3 (fun _ h9 => h9) rfl dX3_statement_62 ?_
        have h9 := hv.1
        have hv := hv.2
        refine va_iast (f := (tLetterAt (mT σ))) (n := 48) hx hb hK hP hD hS 14 0 rfl rfl h9 dX3_statement_65 (fun H locs hP hD hS => ?_)
        have hP : va_P (gD g) vwCl (wM g ad ((mS σ), ((tTape (mT σ)), (upd (tLetter (mT σ)) ((tStm (mT σ))).toNatClampNeg (nxt (mT σ) (tAt (mT σ)))), (upd (tLetterAt (mT σ)) ((tStm (mT σ))).toNatClampNeg (tAt (mT σ))), (tTold (mT σ)), (tTaped (mT σ)), (tAt (mT σ)), (tStm (mT σ))), (mK σ), (mF σ), (mRow σ), (mRowMany σ), (mLots σ), (mRefused σ))) H := hP
        have hD : va_D (AD ad 0 21) (wM g ad ((mS σ), ((tTape (mT σ)), (upd (tLetter (mT σ)) ((tStm (mT σ))).toNatClampNeg (nxt (mT σ) (tAt (mT σ)))), (upd (tLetterAt (mT σ)) ((tStm (mT σ))).toNatClampNeg (tAt (mT σ))), (tTold (mT σ)), (tTaped (mT σ)), (tAt (mT σ)), (tStm (mT σ))), (mK σ), (mF σ), (mRow σ), (mRowMany σ), (mLots σ), (mRefused σ))) := hD
        refine lv_aload_n hx hb dX3_statement_66 rfl (lv_at hl 1 rfl) ?_
        refine lv_dup hx hb dX3_statement_67 rfl ?_
        refine va_get (D := gD g) (ci := 3) (v := .int (tAt (mT σ))) (C := RX3) (T := TX3) (N := 33) hx hb hts hi3 hown hK hP 0 rfl rfl 21 (by decide) k3 (fun _ h9 => h9) rfl dX3_statement_68 ?_
        refine lv_iconst (v := 1) hx hb dX3_statement_71 (by decide) ?_
        refine lv_iadd hx hb dX3_statement_72 ?_
        refine va_put (D := gD g) (ci := 3) (v := .int ((tAt (mT σ)) + 1)) (ty := .int) (C := RX3) (T := TX3) (N := 33) hx hb hts hi3 tyX3 tyX3_ok nmX3 hown hK hP hD hS 0 rfl rfl 21 (by decide) k3 (fun _ h9 => h9) rfl (by decide +kernel) rfl rfl (Nat.le_of_ble_eq_true rfl) dX3_statement_73 (fun H locs hP hD hS => ?_)
        have hP : va_P (gD g) vwCl (wM g ad ((mS σ), ((tTape (mT σ)), (upd (tLetter (mT σ)) ((tStm (mT σ))).toNatClampNeg (nxt (mT σ) (tAt (mT σ)))), (upd (tLetterAt (mT σ)) ((tStm (mT σ))).toNatClampNeg (tAt (mT σ))), (tTold (mT σ)), (tTaped (mT σ)), ((tAt (mT σ)) + 1), (tStm (mT σ))), (mK σ), (mF σ), (mRow σ), (mRowMany σ), (mLots σ), (mRefused σ))) H := hP
        have hD : va_D (AD ad 0 21) (wM g ad ((mS σ), ((tTape (mT σ)), (upd (tLetter (mT σ)) ((tStm (mT σ))).toNatClampNeg (nxt (mT σ) (tAt (mT σ)))), (upd (tLetterAt (mT σ)) ((tStm (mT σ))).toNatClampNeg (tAt (mT σ))), (tTold (mT σ)), (tTaped (mT σ)), ((tAt (mT σ)) + 1), (tStm (mT σ))), (mK σ), (mF σ), (mRow σ), (mRowMany σ), (mLots σ), (mRefused σ))) := hD
        refine lv_aload_n hx hb dX3_statement_76 rfl (lv_at hl 1 rfl) ?_
        refine lv_iload_n hx hb dX3_statement_77 rfl (lv_at hl 0 rfl) ?_
        refine lv_iconst (v := 3) hx hb dX3_statement_78 (by decide) ?_
        refine lv_aload_n hx hb dX3_statement_79 rfl (lv_at hl 1 rfl) ?_
        refine va_get (D := gD g) (ci := 3) (v := .int (tStm (mT σ))) (C := RX3) (T := TX3) (N := 33) hx hb hts hi3 hown hK hP 0 rfl rfl 22 (by decide) k1 (fun _ h9 => h9) rfl dX3_statement_80 ?_
        refine lv_imul hx hb dX3_statement_83 ?_
        have h8 := hv.1
        have hv := hv.2
        have hPc := hP
        have hDc := hD
        refine rw_int (va_runV (As := [.int (nxt (mT σ) (tAt (mT σ))), .int (3 * (tStm (mT σ)))]) (rest := []) ⟨hx, hb, hml, hown, hts⟩ (h_X3_readsAll g ad ((mS σ), ((tTape (mT σ)), (upd (tLetter (mT σ)) ((tStm (mT σ))).toNatClampNeg (nxt (mT σ) (tAt (mT σ)))), (upd (tLetterAt (mT σ)) ((tStm (mT σ))).toNatClampNeg (tAt (mT σ))), (tTold (mT σ)), (tTaped (mT σ)), ((tAt (mT σ)) + 1), (tStm (mT σ))), (mK σ), (mF σ), (mRow σ), (mRowMany σ), (mLots σ), (mRefused σ)) (nxt (mT σ) (tAt (mT σ))) (3 * (tStm (mT σ))) h8) (cwV 2 hts gX3_statement_X3_readsAll rfl rfl rfl (by decide +kernel) ⟨Nat.le_of_ble_eq_true rfl, Nat.le_of_ble_eq_true rfl⟩) ⟨RW_blind, va_recv hK hP (ci := 3) (q0 := 0) rfl rfl, fun U hU hW => ⟨rfl, by rw [hU]; exact hPc, va_K.moved hW.alike hK, hE.call hW hU hS (fun _ h => h), hDc⟩⟩ rfl rfl hl.1 rfl (lv_room (Nat.le_of_ble_eq_true rfl)) dX3_statement_84 ⟨Nat.le_of_ble_eq_true rfl, Nat.le_of_ble_eq_true rfl⟩) hS (fun _ h => h) (fun r u H1 locs hw hP1 hk hS => ?_)
        obtain ⟨hw1, hw⟩ := hw; subst r; subst u
        have hP := hP1
        generalize H1 = H at hP hS ⊢
        have hP : va_P (gD g) vwCl (wM g ad ((mS σ), ((rdAll ((tTape (mT σ)), (upd (tLetter (mT σ)) ((tStm (mT σ))).toNatClampNeg (nxt (mT σ) (tAt (mT σ)))), (upd (tLetterAt (mT σ)) ((tStm (mT σ))).toNatClampNeg (tAt (mT σ))), (tTold (mT σ)), (tTaped (mT σ)), ((tAt (mT σ)) + 1), (tStm (mT σ))) (nxt (mT σ) (tAt (mT σ))) (3 * (tStm (mT σ)))).2), (mK σ), (mF σ), (mRow σ), (mRowMany σ), (mLots σ), (mRefused σ))) H := hP
        have hD : va_D (AD ad 0 21) (wM g ad ((mS σ), ((rdAll ((tTape (mT σ)), (upd (tLetter (mT σ)) ((tStm (mT σ))).toNatClampNeg (nxt (mT σ) (tAt (mT σ)))), (upd (tLetterAt (mT σ)) ((tStm (mT σ))).toNatClampNeg (tAt (mT σ))), (tTold (mT σ)), (tTaped (mT σ)), ((tAt (mT σ)) + 1), (tStm (mT σ))) (nxt (mT σ) (tAt (mT σ))) (3 * (tStm (mT σ)))).2), (mK σ), (mF σ), (mRow σ), (mRowMany σ), (mLots σ), (mRefused σ))) := hD.addr (by rfl)
        refine lv_if_eq (tgt := 99) hx hb dX3_statement_87 (by decide) (fun c87 => ?_) (fun c87 => ?_)
        · have hv := hv.1 c87
          refine lv_iconst (v := 0) hx hb dX3_statement_99 (by decide) ?_
          exact W.zret (v := 0) hx hb hr rfl (fun t ht hW => ⟨⟨0, ((mS σ), ((rdAll ((tTape (mT σ)), (upd (tLetter (mT σ)) ((tStm (mT σ))).toNatClampNeg (nxt (mT σ) (tAt (mT σ)))), (upd (tLetterAt (mT σ)) ((tStm (mT σ))).toNatClampNeg (tAt (mT σ))), (tTold (mT σ)), (tTaped (mT σ)), ((tAt (mT σ)) + 1), (tStm (mT σ))) (nxt (mT σ) (tAt (mT σ))) (3 * (tStm (mT σ)))).2), (mK σ), (mF σ), (mRow σ), (mRowMany σ), (mLots σ), (mRefused σ)), rfl, hv, P_at ht hP⟩, hS.F ht⟩) hS.2.2 dX3_statement_100
        · have hv := hv.2 c87
          refine lv_aload_n hx hb dX3_statement_90 rfl (lv_at hl 1 rfl) ?_
          have h8 := hv.1
          have hv := hv.2
          have hPc := hP
          refine ro_int (va_runV (As := []) (rest := []) ⟨hx, hb, hml, hown, hts⟩ (h_X3_next g ad ((mS σ), ((rdAll ((tTape (mT σ)), (upd (tLetter (mT σ)) ((tStm (mT σ))).toNatClampNeg (nxt (mT σ) (tAt (mT σ)))), (upd (tLetterAt (mT σ)) ((tStm (mT σ))).toNatClampNeg (tAt (mT σ))), (tTold (mT σ)), (tTaped (mT σ)), ((tAt (mT σ)) + 1), (tStm (mT σ))) (nxt (mT σ) (tAt (mT σ))) (3 * (tStm (mT σ)))).2), (mK σ), (mF σ), (mRow σ), (mRowMany σ), (mLots σ), (mRefused σ)) h8) (cwV 0 hts gX3_statement_X3_next rfl rfl rfl (by decide +kernel) ⟨Nat.le_of_ble_eq_true rfl, Nat.le_of_ble_eq_true rfl⟩) ⟨RO_blind, va_recv hK hP (ci := 3) (q0 := 0) rfl rfl, fun U hU hW => ⟨rfl, by rw [hU]; exact hPc, va_K.moved hW.alike hK, hE.call hW hU hS (fun _ h => h.elim)⟩⟩ rfl rfl hl.1 rfl (lv_room (Nat.le_of_ble_eq_true rfl)) dX3_statement_91 ⟨Nat.le_of_ble_eq_true rfl, Nat.le_of_ble_eq_true rfl⟩) hS hP (fun r H locs hw hP hS => ?_)
          subst r
          refine lv_bipush (v := 59) hx hb dX3_statement_94 (by decide) ?_
          refine lv_icmp_eq (tgt := 101) hx hb dX3_statement_96 (by decide) (fun c96 => ?_) (fun c96 => ?_)
          · have hv := hv.1 c96
            refine lv_aload_n hx hb dX3_statement_101 rfl (lv_at hl 1 rfl) ?_
            refine lv_dup hx hb dX3_statement_102 rfl ?_
            refine va_get (D := gD g) (ci := 3) (v := .int (tAt ((rdAll ((tTape (mT σ)), (upd (tLetter (mT σ)) ((tStm (mT σ))).toNatClampNeg (nxt (mT σ) (tAt (mT σ)))), (upd (tLetterAt (mT σ)) ((tStm (mT σ))).toNatClampNeg (tAt (mT σ))), (tTold (mT σ)), (tTaped (mT σ)), ((tAt (mT σ)) + 1), (tStm (mT σ))) (nxt (mT σ) (tAt (mT σ))) (3 * (tStm (mT σ)))).2))) (C := RX3) (T := TX3) (N := 33) hx hb hts hi3 hown hK hP 0 rfl rfl 21 (by decide) k3 (fun _ h9 => h9) rfl dX3_statement_103 ?_
            refine lv_iconst (v := 1) hx hb dX3_statement_106 (by decide) ?_
            refine lv_iadd hx hb dX3_statement_107 ?_
            refine va_put (D := gD g) (ci := 3) (v := .int ((tAt ((rdAll ((tTape (mT σ)), (upd (tLetter (mT σ)) ((tStm (mT σ))).toNatClampNeg (nxt (mT σ) (tAt (mT σ)))), (upd (tLetterAt (mT σ)) ((tStm (mT σ))).toNatClampNeg (tAt (mT σ))), (tTold (mT σ)), (tTaped (mT σ)), ((tAt (mT σ)) + 1), (tStm (mT σ))) (nxt (mT σ) (tAt (mT σ))) (3 * (tStm (mT σ)))).2)) + 1)) (ty := .int) (C := RX3) (T := TX3) (N := 33) hx hb hts hi3 tyX3 tyX3_ok nmX3 hown hK hP hD hS 0 rfl rfl 21 (by decide) k3 (fun _ h9 => h9) rfl (by decide +kernel) rfl rfl (Nat.le_of_ble_eq_true rfl) dX3_statement_108 (fun H locs hP hD hS => ?_)
            have hP : va_P (gD g) vwCl (wM g ad ((mS σ), ((tTape ((rdAll ((tTape (mT σ)), (upd (tLetter (mT σ)) ((tStm (mT σ))).toNatClampNeg (nxt (mT σ) (tAt (mT σ)))), (upd (tLetterAt (mT σ)) ((tStm (mT σ))).toNatClampNeg (tAt (mT σ))), (tTold (mT σ)), (tTaped (mT σ)), ((tAt (mT σ)) + 1), (tStm (mT σ))) (nxt (mT σ) (tAt (mT σ))) (3 * (tStm (mT σ)))).2)), (tLetter ((rdAll ((tTape (mT σ)), (upd (tLetter (mT σ)) ((tStm (mT σ))).toNatClampNeg (nxt (mT σ) (tAt (mT σ)))), (upd (tLetterAt (mT σ)) ((tStm (mT σ))).toNatClampNeg (tAt (mT σ))), (tTold (mT σ)), (tTaped (mT σ)), ((tAt (mT σ)) + 1), (tStm (mT σ))) (nxt (mT σ) (tAt (mT σ))) (3 * (tStm (mT σ)))).2)), (tLetterAt ((rdAll ((tTape (mT σ)), (upd (tLetter (mT σ)) ((tStm (mT σ))).toNatClampNeg (nxt (mT σ) (tAt (mT σ)))), (upd (tLetterAt (mT σ)) ((tStm (mT σ))).toNatClampNeg (tAt (mT σ))), (tTold (mT σ)), (tTaped (mT σ)), ((tAt (mT σ)) + 1), (tStm (mT σ))) (nxt (mT σ) (tAt (mT σ))) (3 * (tStm (mT σ)))).2)), (tTold ((rdAll ((tTape (mT σ)), (upd (tLetter (mT σ)) ((tStm (mT σ))).toNatClampNeg (nxt (mT σ) (tAt (mT σ)))), (upd (tLetterAt (mT σ)) ((tStm (mT σ))).toNatClampNeg (tAt (mT σ))), (tTold (mT σ)), (tTaped (mT σ)), ((tAt (mT σ)) + 1), (tStm (mT σ))) (nxt (mT σ) (tAt (mT σ))) (3 * (tStm (mT σ)))).2)), (tTaped ((rdAll ((tTape (mT σ)), (upd (tLetter (mT σ)) ((tStm (mT σ))).toNatClampNeg (nxt (mT σ) (tAt (mT σ)))), (upd (tLetterAt (mT σ)) ((tStm (mT σ))).toNatClampNeg (tAt (mT σ))), (tTold (mT σ)), (tTaped (mT σ)), ((tAt (mT σ)) + 1), (tStm (mT σ))) (nxt (mT σ) (tAt (mT σ))) (3 * (tStm (mT σ)))).2)), ((tAt ((rdAll ((tTape (mT σ)), (upd (tLetter (mT σ)) ((tStm (mT σ))).toNatClampNeg (nxt (mT σ) (tAt (mT σ)))), (upd (tLetterAt (mT σ)) ((tStm (mT σ))).toNatClampNeg (tAt (mT σ))), (tTold (mT σ)), (tTaped (mT σ)), ((tAt (mT σ)) + 1), (tStm (mT σ))) (nxt (mT σ) (tAt (mT σ))) (3 * (tStm (mT σ)))).2)) + 1), (tStm ((rdAll ((tTape (mT σ)), (upd (tLetter (mT σ)) ((tStm (mT σ))).toNatClampNeg (nxt (mT σ) (tAt (mT σ)))), (upd (tLetterAt (mT σ)) ((tStm (mT σ))).toNatClampNeg (tAt (mT σ))), (tTold (mT σ)), (tTaped (mT σ)), ((tAt (mT σ)) + 1), (tStm (mT σ))) (nxt (mT σ) (tAt (mT σ))) (3 * (tStm (mT σ)))).2))), (mK σ), (mF σ), (mRow σ), (mRowMany σ), (mLots σ), (mRefused σ))) H := hP
            have hD : va_D (AD ad 0 21) (wM g ad ((mS σ), ((tTape ((rdAll ((tTape (mT σ)), (upd (tLetter (mT σ)) ((tStm (mT σ))).toNatClampNeg (nxt (mT σ) (tAt (mT σ)))), (upd (tLetterAt (mT σ)) ((tStm (mT σ))).toNatClampNeg (tAt (mT σ))), (tTold (mT σ)), (tTaped (mT σ)), ((tAt (mT σ)) + 1), (tStm (mT σ))) (nxt (mT σ) (tAt (mT σ))) (3 * (tStm (mT σ)))).2)), (tLetter ((rdAll ((tTape (mT σ)), (upd (tLetter (mT σ)) ((tStm (mT σ))).toNatClampNeg (nxt (mT σ) (tAt (mT σ)))), (upd (tLetterAt (mT σ)) ((tStm (mT σ))).toNatClampNeg (tAt (mT σ))), (tTold (mT σ)), (tTaped (mT σ)), ((tAt (mT σ)) + 1), (tStm (mT σ))) (nxt (mT σ) (tAt (mT σ))) (3 * (tStm (mT σ)))).2)), (tLetterAt ((rdAll ((tTape (mT σ)), (upd (tLetter (mT σ)) ((tStm (mT σ))).toNatClampNeg (nxt (mT σ) (tAt (mT σ)))), (upd (tLetterAt (mT σ)) ((tStm (mT σ))).toNatClampNeg (tAt (mT σ))), (tTold (mT σ)), (tTaped (mT σ)), ((tAt (mT σ)) + 1), (tStm (mT σ))) (nxt (mT σ) (tAt (mT σ))) (3 * (tStm (mT σ)))).2)), (tTold ((rdAll ((tTape (mT σ)), (upd (tLetter (mT σ)) ((tStm (mT σ))).toNatClampNeg (nxt (mT σ) (tAt (mT σ)))), (upd (tLetterAt (mT σ)) ((tStm (mT σ))).toNatClampNeg (tAt (mT σ))), (tTold (mT σ)), (tTaped (mT σ)), ((tAt (mT σ)) + 1), (tStm (mT σ))) (nxt (mT σ) (tAt (mT σ))) (3 * (tStm (mT σ)))).2)), (tTaped ((rdAll ((tTape (mT σ)), (upd (tLetter (mT σ)) ((tStm (mT σ))).toNatClampNeg (nxt (mT σ) (tAt (mT σ)))), (upd (tLetterAt (mT σ)) ((tStm (mT σ))).toNatClampNeg (tAt (mT σ))), (tTold (mT σ)), (tTaped (mT σ)), ((tAt (mT σ)) + 1), (tStm (mT σ))) (nxt (mT σ) (tAt (mT σ))) (3 * (tStm (mT σ)))).2)), ((tAt ((rdAll ((tTape (mT σ)), (upd (tLetter (mT σ)) ((tStm (mT σ))).toNatClampNeg (nxt (mT σ) (tAt (mT σ)))), (upd (tLetterAt (mT σ)) ((tStm (mT σ))).toNatClampNeg (tAt (mT σ))), (tTold (mT σ)), (tTaped (mT σ)), ((tAt (mT σ)) + 1), (tStm (mT σ))) (nxt (mT σ) (tAt (mT σ))) (3 * (tStm (mT σ)))).2)) + 1), (tStm ((rdAll ((tTape (mT σ)), (upd (tLetter (mT σ)) ((tStm (mT σ))).toNatClampNeg (nxt (mT σ) (tAt (mT σ)))), (upd (tLetterAt (mT σ)) ((tStm (mT σ))).toNatClampNeg (tAt (mT σ))), (tTold (mT σ)), (tTaped (mT σ)), ((tAt (mT σ)) + 1), (tStm (mT σ))) (nxt (mT σ) (tAt (mT σ))) (3 * (tStm (mT σ)))).2))), (mK σ), (mF σ), (mRow σ), (mRowMany σ), (mLots σ), (mRefused σ))) := hD
            refine lv_iconst (v := 1) hx hb dX3_statement_111 (by decide) ?_
            exact W.zret (v := 1) hx hb hr rfl (fun t ht hW => ⟨⟨1, ((mS σ), ((tTape ((rdAll ((tTape (mT σ)), (upd (tLetter (mT σ)) ((tStm (mT σ))).toNatClampNeg (nxt (mT σ) (tAt (mT σ)))), (upd (tLetterAt (mT σ)) ((tStm (mT σ))).toNatClampNeg (tAt (mT σ))), (tTold (mT σ)), (tTaped (mT σ)), ((tAt (mT σ)) + 1), (tStm (mT σ))) (nxt (mT σ) (tAt (mT σ))) (3 * (tStm (mT σ)))).2)), (tLetter ((rdAll ((tTape (mT σ)), (upd (tLetter (mT σ)) ((tStm (mT σ))).toNatClampNeg (nxt (mT σ) (tAt (mT σ)))), (upd (tLetterAt (mT σ)) ((tStm (mT σ))).toNatClampNeg (tAt (mT σ))), (tTold (mT σ)), (tTaped (mT σ)), ((tAt (mT σ)) + 1), (tStm (mT σ))) (nxt (mT σ) (tAt (mT σ))) (3 * (tStm (mT σ)))).2)), (tLetterAt ((rdAll ((tTape (mT σ)), (upd (tLetter (mT σ)) ((tStm (mT σ))).toNatClampNeg (nxt (mT σ) (tAt (mT σ)))), (upd (tLetterAt (mT σ)) ((tStm (mT σ))).toNatClampNeg (tAt (mT σ))), (tTold (mT σ)), (tTaped (mT σ)), ((tAt (mT σ)) + 1), (tStm (mT σ))) (nxt (mT σ) (tAt (mT σ))) (3 * (tStm (mT σ)))).2)), (tTold ((rdAll ((tTape (mT σ)), (upd (tLetter (mT σ)) ((tStm (mT σ))).toNatClampNeg (nxt (mT σ) (tAt (mT σ)))), (upd (tLetterAt (mT σ)) ((tStm (mT σ))).toNatClampNeg (tAt (mT σ))), (tTold (mT σ)), (tTaped (mT σ)), ((tAt (mT σ)) + 1), (tStm (mT σ))) (nxt (mT σ) (tAt (mT σ))) (3 * (tStm (mT σ)))).2)), (tTaped ((rdAll ((tTape (mT σ)), (upd (tLetter (mT σ)) ((tStm (mT σ))).toNatClampNeg (nxt (mT σ) (tAt (mT σ)))), (upd (tLetterAt (mT σ)) ((tStm (mT σ))).toNatClampNeg (tAt (mT σ))), (tTold (mT σ)), (tTaped (mT σ)), ((tAt (mT σ)) + 1), (tStm (mT σ))) (nxt (mT σ) (tAt (mT σ))) (3 * (tStm (mT σ)))).2)), ((tAt ((rdAll ((tTape (mT σ)), (upd (tLetter (mT σ)) ((tStm (mT σ))).toNatClampNeg (nxt (mT σ) (tAt (mT σ)))), (upd (tLetterAt (mT σ)) ((tStm (mT σ))).toNatClampNeg (tAt (mT σ))), (tTold (mT σ)), (tTaped (mT σ)), ((tAt (mT σ)) + 1), (tStm (mT σ))) (nxt (mT σ) (tAt (mT σ))) (3 * (tStm (mT σ)))).2)) + 1), (tStm ((rdAll ((tTape (mT σ)), (upd (tLetter (mT σ)) ((tStm (mT σ))).toNatClampNeg (nxt (mT σ) (tAt (mT σ)))), (upd (tLetterAt (mT σ)) ((tStm (mT σ))).toNatClampNeg (tAt (mT σ))), (tTold (mT σ)), (tTaped (mT σ)), ((tAt (mT σ)) + 1), (tStm (mT σ))) (nxt (mT σ) (tAt (mT σ))) (3 * (tStm (mT σ)))).2))), (mK σ), (mF σ), (mRow σ), (mRowMany σ), (mLots σ), (mRefused σ)), rfl, hv, P_at ht hP⟩, hS.F ht⟩) hS.2.2 dX3_statement_112
          · have hv := hv.2 c96
            refine lv_iconst (v := 0) hx hb dX3_statement_99 (by decide) ?_
            exact W.zret (v := 0) hx hb hr rfl (fun t ht hW => ⟨⟨0, ((mS σ), ((rdAll ((tTape (mT σ)), (upd (tLetter (mT σ)) ((tStm (mT σ))).toNatClampNeg (nxt (mT σ) (tAt (mT σ)))), (upd (tLetterAt (mT σ)) ((tStm (mT σ))).toNatClampNeg (tAt (mT σ))), (tTold (mT σ)), (tTaped (mT σ)), ((tAt (mT σ)) + 1), (tStm (mT σ))) (nxt (mT σ) (tAt (mT σ))) (3 * (tStm (mT σ)))).2), (mK σ), (mF σ), (mRow σ), (mRowMany σ), (mLots σ), (mRefused σ)), rfl, hv, P_at ht hP⟩, hS.F ht⟩) hS.2.2 dX3_statement_100
      · have hv := hv.2 c20
        refine lv_iload_n hx hb dX3_statement_23 rfl (lv_at hl 0 rfl) ?_
        refine lv_bipush (v := 107) hx hb dX3_statement_24 (by decide) ?_
        refine lv_icmp_eq (tgt := 43) hx hb dX3_statement_26 (by decide) (fun c26 => ?_) (fun c26 => ?_)
        · have hv := hv.1 c26
          refine lv_aload_n hx hb dX3_statement_43 rfl (lv_at hl 1 rfl) ?_
          refine va_get (D := gD g) (ci := 3) (v := .ref (ad 13)) (C := RX3) (T := TX3) (N := 33) hx hb hts hi3 hown hK hP 0 rfl rfl 17 (by decide) k0 (fun _ h9 => h9) rfl dX3_statement_44 ?_
          refine lv_aload_n hx hb dX3_statement_47 rfl (lv_at hl 1 rfl) ?_
          refine va_get (D := gD g) (ci := 3) (v := .int (tStm (mT σ))) (C := RX3) (T := TX3) (N := 33) hx hb hts hi3 hown hK hP 0 rfl rfl 22 (by decide) k1 (fun _ h9 => h9) rfl dX3_statement_48 ?_
          refine lv_iload_n hx hb dX3_statement_51 rfl (lv_at hl 0 rfl) ?_
          have h9 := hv.1
          have hv := hv.2
          refine va_iast (f := (tLetter (mT σ))) (n := 48) hx hb hK hP hD hS 13 0 rfl rfl h9 dX3_statement_52 (fun H locs hP hD hS => ?_)
          have hP : va_P (gD g) vwCl (wM g ad ((mS σ), ((tTape (mT σ)), (upd (tLetter (mT σ)) ((tStm (mT σ))).toNatClampNeg (nxt (mT σ) (tAt (mT σ)))), (tLetterAt (mT σ)), (tTold (mT σ)), (tTaped (mT σ)), (tAt (mT σ)), (tStm (mT σ))), (mK σ), (mF σ), (mRow σ), (mRowMany σ), (mLots σ), (mRefused σ))) H := hP
          have hD : va_D (AD ad 0 21) (wM g ad ((mS σ), ((tTape (mT σ)), (upd (tLetter (mT σ)) ((tStm (mT σ))).toNatClampNeg (nxt (mT σ) (tAt (mT σ)))), (tLetterAt (mT σ)), (tTold (mT σ)), (tTaped (mT σ)), (tAt (mT σ)), (tStm (mT σ))), (mK σ), (mF σ), (mRow σ), (mRowMany σ), (mLots σ), (mRefused σ))) := hD
          refine lv_aload_n hx hb dX3_statement_53 rfl (lv_at hl 1 rfl) ?_
          refine va_get (D := gD g) (ci := 3) (v := .ref (ad 14)) (C := RX3) (T := TX3) (N := 33) hx hb hts hi3 hown hK hP 0 rfl rfl 18 (by decide) k2 (fun _ h9 => h9) rfl dX3_statement_54 ?_
          refine lv_aload_n hx hb dX3_statement_57 rfl (lv_at hl 1 rfl) ?_
          refine va_get (D := gD g) (ci := 3) (v := .int (tStm (mT σ))) (C := RX3) (T := TX3) (N := 33) hx hb hts hi3 hown hK hP 0 rfl rfl 22 (by decide) k1 (fun _ h9 => h9) rfl dX3_statement_58 ?_
          refine lv_aload_n hx hb dX3_statement_61 rfl (lv_at hl 1 rfl) ?_
          refine va_get (D := gD g) (ci := 3) (v := .int (tAt (mT σ))) (C := RX3) (T := TX3) (N := 33) hx hb hts hi3 hown hK hP 0 rfl rfl 21 (by decide) k3 (fun _ h9 => h9) rfl dX3_statement_62 ?_
          have h9 := hv.1
          have hv := hv.2
          refine va_iast (f := (tLetterAt (mT σ))) (n := 48) hx hb hK hP hD hS 14 0 rfl rfl h9 dX3_statement_65 (fun H locs hP hD hS => ?_)
          have hP : va_P (gD g) vwCl (wM g ad ((mS σ), ((tTape (mT σ)), (upd (tLetter (mT σ)) ((tStm (mT σ))).toNatClampNeg (nxt (mT σ) (tAt (mT σ)))), (upd (tLetterAt (mT σ)) ((tStm (mT σ))).toNatClampNeg (tAt (mT σ))), (tTold (mT σ)), (tTaped (mT σ)), (tAt (mT σ)), (tStm (mT σ))), (mK σ), (mF σ), (mRow σ), (mRowMany σ), (mLots σ), (mRefused σ))) H := hP
          have hD : va_D (AD ad 0 21) (wM g ad ((mS σ), ((tTape (mT σ)), (upd (tLetter (mT σ)) ((tStm (mT σ))).toNatClampNeg (nxt (mT σ) (tAt (mT σ)))), (upd (tLetterAt (mT σ)) ((tStm (mT σ))).toNatClampNeg (tAt (mT σ))), (tTold (mT σ)), (tTaped (mT σ)), (tAt (mT σ)), (tStm (mT σ))), (mK σ), (mF σ), (mRow σ), (mRowMany σ), (mLots σ), (mRefused σ))) := hD
          refine lv_aload_n hx hb dX3_statement_66 rfl (lv_at hl 1 rfl) ?_
          refine lv_dup hx hb dX3_statement_67 rfl ?_
          refine va_get (D := gD g) (ci := 3) (v := .int (tAt (mT σ))) (C := RX3) (T := TX3) (N := 33) hx hb hts hi3 hown hK hP 0 rfl rfl 21 (by decide) k3 (fun _ h9 => h9) rfl dX3_statement_68 ?_
          refine lv_iconst (v := 1) hx hb dX3_statement_71 (by decide) ?_
          refine lv_iadd hx hb dX3_statement_72 ?_
          refine va_put (D := gD g) (ci := 3) (v := .int ((tAt (mT σ)) + 1)) (ty := .int) (C := RX3) (T := TX3) (N := 33) hx hb hts hi3 tyX3 tyX3_ok nmX3 hown hK hP hD hS 0 rfl rfl 21 (by decide) k3 (fun _ h9 => h9) rfl (by decide +kernel) rfl rfl (Nat.le_of_ble_eq_true rfl) dX3_statement_73 (fun H locs hP hD hS => ?_)
          have hP : va_P (gD g) vwCl (wM g ad ((mS σ), ((tTape (mT σ)), (upd (tLetter (mT σ)) ((tStm (mT σ))).toNatClampNeg (nxt (mT σ) (tAt (mT σ)))), (upd (tLetterAt (mT σ)) ((tStm (mT σ))).toNatClampNeg (tAt (mT σ))), (tTold (mT σ)), (tTaped (mT σ)), ((tAt (mT σ)) + 1), (tStm (mT σ))), (mK σ), (mF σ), (mRow σ), (mRowMany σ), (mLots σ), (mRefused σ))) H := hP
          have hD : va_D (AD ad 0 21) (wM g ad ((mS σ), ((tTape (mT σ)), (upd (tLetter (mT σ)) ((tStm (mT σ))).toNatClampNeg (nxt (mT σ) (tAt (mT σ)))), (upd (tLetterAt (mT σ)) ((tStm (mT σ))).toNatClampNeg (tAt (mT σ))), (tTold (mT σ)), (tTaped (mT σ)), ((tAt (mT σ)) + 1), (tStm (mT σ))), (mK σ), (mF σ), (mRow σ), (mRowMany σ), (mLots σ), (mRefused σ))) := hD
          refine lv_aload_n hx hb dX3_statement_76 rfl (lv_at hl 1 rfl) ?_
          refine lv_iload_n hx hb dX3_statement_77 rfl (lv_at hl 0 rfl) ?_
          refine lv_iconst (v := 3) hx hb dX3_statement_78 (by decide) ?_
          refine lv_aload_n hx hb dX3_statement_79 rfl (lv_at hl 1 rfl) ?_
          refine va_get (D := gD g) (ci := 3) (v := .int (tStm (mT σ))) (C := RX3) (T := TX3) (N := 33) hx hb hts hi3 hown hK hP 0 rfl rfl 22 (by decide) k1 (fun _ h9 => h9) rfl dX3_statement_80 ?_
          refine lv_imul hx hb dX3_statement_83 ?_
          have h8 := hv.1
          have hv := hv.2
          have hPc := hP
          have hDc := hD
          refine rw_int (va_runV (As := [.int (nxt (mT σ) (tAt (mT σ))), .int (3 * (tStm (mT σ)))]) (rest := []) ⟨hx, hb, hml, hown, hts⟩ (h_X3_readsAll g ad ((mS σ), ((tTape (mT σ)), (upd (tLetter (mT σ)) ((tStm (mT σ))).toNatClampNeg (nxt (mT σ) (tAt (mT σ)))), (upd (tLetterAt (mT σ)) ((tStm (mT σ))).toNatClampNeg (tAt (mT σ))), (tTold (mT σ)), (tTaped (mT σ)), ((tAt (mT σ)) + 1), (tStm (mT σ))), (mK σ), (mF σ), (mRow σ), (mRowMany σ), (mLots σ), (mRefused σ)) (nxt (mT σ) (tAt (mT σ))) (3 * (tStm (mT σ))) h8) (cwV 2 hts gX3_statement_X3_readsAll rfl rfl rfl (by decide +kernel) ⟨Nat.le_of_ble_eq_true rfl, Nat.le_of_ble_eq_true rfl⟩) ⟨RW_blind, va_recv hK hP (ci := 3) (q0 := 0) rfl rfl, fun U hU hW => ⟨rfl, by rw [hU]; exact hPc, va_K.moved hW.alike hK, hE.call hW hU hS (fun _ h => h), hDc⟩⟩ rfl rfl hl.1 rfl (lv_room (Nat.le_of_ble_eq_true rfl)) dX3_statement_84 ⟨Nat.le_of_ble_eq_true rfl, Nat.le_of_ble_eq_true rfl⟩) hS (fun _ h => h) (fun r u H1 locs hw hP1 hk hS => ?_)
          obtain ⟨hw1, hw⟩ := hw; subst r; subst u
          have hP := hP1
          generalize H1 = H at hP hS ⊢
          have hP : va_P (gD g) vwCl (wM g ad ((mS σ), ((rdAll ((tTape (mT σ)), (upd (tLetter (mT σ)) ((tStm (mT σ))).toNatClampNeg (nxt (mT σ) (tAt (mT σ)))), (upd (tLetterAt (mT σ)) ((tStm (mT σ))).toNatClampNeg (tAt (mT σ))), (tTold (mT σ)), (tTaped (mT σ)), ((tAt (mT σ)) + 1), (tStm (mT σ))) (nxt (mT σ) (tAt (mT σ))) (3 * (tStm (mT σ)))).2), (mK σ), (mF σ), (mRow σ), (mRowMany σ), (mLots σ), (mRefused σ))) H := hP
          have hD : va_D (AD ad 0 21) (wM g ad ((mS σ), ((rdAll ((tTape (mT σ)), (upd (tLetter (mT σ)) ((tStm (mT σ))).toNatClampNeg (nxt (mT σ) (tAt (mT σ)))), (upd (tLetterAt (mT σ)) ((tStm (mT σ))).toNatClampNeg (tAt (mT σ))), (tTold (mT σ)), (tTaped (mT σ)), ((tAt (mT σ)) + 1), (tStm (mT σ))) (nxt (mT σ) (tAt (mT σ))) (3 * (tStm (mT σ)))).2), (mK σ), (mF σ), (mRow σ), (mRowMany σ), (mLots σ), (mRefused σ))) := hD.addr (by rfl)
          refine lv_if_eq (tgt := 99) hx hb dX3_statement_87 (by decide) (fun c87 => ?_) (fun c87 => ?_)
          · have hv := hv.1 c87
            refine lv_iconst (v := 0) hx hb dX3_statement_99 (by decide) ?_
            exact W.zret (v := 0) hx hb hr rfl (fun t ht hW => ⟨⟨0, ((mS σ), ((rdAll ((tTape (mT σ)), (upd (tLetter (mT σ)) ((tStm (mT σ))).toNatClampNeg (nxt (mT σ) (tAt (mT σ)))), (upd (tLetterAt (mT σ)) ((tStm (mT σ))).toNatClampNeg (tAt (mT σ))), (tTold (mT σ)), (tTaped (mT σ)), ((tAt (mT σ)) + 1), (tStm (mT σ))) (nxt (mT σ) (tAt (mT σ))) (3 * (tStm (mT σ)))).2), (mK σ), (mF σ), (mRow σ), (mRowMany σ), (mLots σ), (mRefused σ)), rfl, hv, P_at ht hP⟩, hS.F ht⟩) hS.2.2 dX3_statement_100
          · have hv := hv.2 c87
            refine lv_aload_n hx hb dX3_statement_90 rfl (lv_at hl 1 rfl) ?_
            have h8 := hv.1
            have hv := hv.2
            have hPc := hP
            refine ro_int (va_runV (As := []) (rest := []) ⟨hx, hb, hml, hown, hts⟩ (h_X3_next g ad ((mS σ), ((rdAll ((tTape (mT σ)), (upd (tLetter (mT σ)) ((tStm (mT σ))).toNatClampNeg (nxt (mT σ) (tAt (mT σ)))), (upd (tLetterAt (mT σ)) ((tStm (mT σ))).toNatClampNeg (tAt (mT σ))), (tTold (mT σ)), (tTaped (mT σ)), ((tAt (mT σ)) + 1), (tStm (mT σ))) (nxt (mT σ) (tAt (mT σ))) (3 * (tStm (mT σ)))).2), (mK σ), (mF σ), (mRow σ), (mRowMany σ), (mLots σ), (mRefused σ)) h8) (cwV 0 hts gX3_statement_X3_next rfl rfl rfl (by decide +kernel) ⟨Nat.le_of_ble_eq_true rfl, Nat.le_of_ble_eq_true rfl⟩) ⟨RO_blind, va_recv hK hP (ci := 3) (q0 := 0) rfl rfl, fun U hU hW => ⟨rfl, by rw [hU]; exact hPc, va_K.moved hW.alike hK, hE.call hW hU hS (fun _ h => h.elim)⟩⟩ rfl rfl hl.1 rfl (lv_room (Nat.le_of_ble_eq_true rfl)) dX3_statement_91 ⟨Nat.le_of_ble_eq_true rfl, Nat.le_of_ble_eq_true rfl⟩) hS hP (fun r H locs hw hP hS => ?_)
            subst r
            refine lv_bipush (v := 59) hx hb dX3_statement_94 (by decide) ?_
            refine lv_icmp_eq (tgt := 101) hx hb dX3_statement_96 (by decide) (fun c96 => ?_) (fun c96 => ?_)
            · have hv := hv.1 c96
              refine lv_aload_n hx hb dX3_statement_101 rfl (lv_at hl 1 rfl) ?_
              refine lv_dup hx hb dX3_statement_102 rfl ?_
              refine va_get (D := gD g) (ci := 3) (v := .int (tAt ((rdAll ((tTape (mT σ)), (upd (tLetter (mT σ)) ((tStm (mT σ))).toNatClampNeg (nxt (mT σ) (tAt (mT σ)))), (upd (tLetterAt (mT σ)) ((tStm (mT σ))).toNatClampNeg (tAt (mT σ))), (tTold (mT σ)), (tTaped (mT σ)), ((tAt (mT σ)) + 1), (tStm (mT σ))) (nxt (mT σ) (tAt (mT σ))) (3 * (tStm (mT σ)))).2))) (C := RX3) (T := TX3) (N := 33) hx hb hts hi3 hown hK hP 0 rfl rfl 21 (by decide) k3 (fun _ h9 => h9) rfl dX3_statement_103 ?_
              refine lv_iconst (v := 1) hx hb dX3_statement_106 (by decide) ?_
              refine lv_iadd hx hb dX3_statement_107 ?_
              refine va_put (D := gD g) (ci := 3) (v := .int ((tAt ((rdAll ((tTape (mT σ)), (upd (tLetter (mT σ)) ((tStm (mT σ))).toNatClampNeg (nxt (mT σ) (tAt (mT σ)))), (upd (tLetterAt (mT σ)) ((tStm (mT σ))).toNatClampNeg (tAt (mT σ))), (tTold (mT σ)), (tTaped (mT σ)), ((tAt (mT σ)) + 1), (tStm (mT σ))) (nxt (mT σ) (tAt (mT σ))) (3 * (tStm (mT σ)))).2)) + 1)) (ty := .int) (C := RX3) (T := TX3) (N := 33) hx hb hts hi3 tyX3 tyX3_ok nmX3 hown hK hP hD hS 0 rfl rfl 21 (by decide) k3 (fun _ h9 => h9) rfl (by decide +kernel) rfl rfl (Nat.le_of_ble_eq_true rfl) dX3_statement_108 (fun H locs hP hD hS => ?_)
              have hP : va_P (gD g) vwCl (wM g ad ((mS σ), ((tTape ((rdAll ((tTape (mT σ)), (upd (tLetter (mT σ)) ((tStm (mT σ))).toNatClampNeg (nxt (mT σ) (tAt (mT σ)))), (upd (tLetterAt (mT σ)) ((tStm (mT σ))).toNatClampNeg (tAt (mT σ))), (tTold (mT σ)), (tTaped (mT σ)), ((tAt (mT σ)) + 1), (tStm (mT σ))) (nxt (mT σ) (tAt (mT σ))) (3 * (tStm (mT σ)))).2)), (tLetter ((rdAll ((tTape (mT σ)), (upd (tLetter (mT σ)) ((tStm (mT σ))).toNatClampNeg (nxt (mT σ) (tAt (mT σ)))), (upd (tLetterAt (mT σ)) ((tStm (mT σ))).toNatClampNeg (tAt (mT σ))), (tTold (mT σ)), (tTaped (mT σ)), ((tAt (mT σ)) + 1), (tStm (mT σ))) (nxt (mT σ) (tAt (mT σ))) (3 * (tStm (mT σ)))).2)), (tLetterAt ((rdAll ((tTape (mT σ)), (upd (tLetter (mT σ)) ((tStm (mT σ))).toNatClampNeg (nxt (mT σ) (tAt (mT σ)))), (upd (tLetterAt (mT σ)) ((tStm (mT σ))).toNatClampNeg (tAt (mT σ))), (tTold (mT σ)), (tTaped (mT σ)), ((tAt (mT σ)) + 1), (tStm (mT σ))) (nxt (mT σ) (tAt (mT σ))) (3 * (tStm (mT σ)))).2)), (tTold ((rdAll ((tTape (mT σ)), (upd (tLetter (mT σ)) ((tStm (mT σ))).toNatClampNeg (nxt (mT σ) (tAt (mT σ)))), (upd (tLetterAt (mT σ)) ((tStm (mT σ))).toNatClampNeg (tAt (mT σ))), (tTold (mT σ)), (tTaped (mT σ)), ((tAt (mT σ)) + 1), (tStm (mT σ))) (nxt (mT σ) (tAt (mT σ))) (3 * (tStm (mT σ)))).2)), (tTaped ((rdAll ((tTape (mT σ)), (upd (tLetter (mT σ)) ((tStm (mT σ))).toNatClampNeg (nxt (mT σ) (tAt (mT σ)))), (upd (tLetterAt (mT σ)) ((tStm (mT σ))).toNatClampNeg (tAt (mT σ))), (tTold (mT σ)), (tTaped (mT σ)), ((tAt (mT σ)) + 1), (tStm (mT σ))) (nxt (mT σ) (tAt (mT σ))) (3 * (tStm (mT σ)))).2)), ((tAt ((rdAll ((tTape (mT σ)), (upd (tLetter (mT σ)) ((tStm (mT σ))).toNatClampNeg (nxt (mT σ) (tAt (mT σ)))), (upd (tLetterAt (mT σ)) ((tStm (mT σ))).toNatClampNeg (tAt (mT σ))), (tTold (mT σ)), (tTaped (mT σ)), ((tAt (mT σ)) + 1), (tStm (mT σ))) (nxt (mT σ) (tAt (mT σ))) (3 * (tStm (mT σ)))).2)) + 1), (tStm ((rdAll ((tTape (mT σ)), (upd (tLetter (mT σ)) ((tStm (mT σ))).toNatClampNeg (nxt (mT σ) (tAt (mT σ)))), (upd (tLetterAt (mT σ)) ((tStm (mT σ))).toNatClampNeg (tAt (mT σ))), (tTold (mT σ)), (tTaped (mT σ)), ((tAt (mT σ)) + 1), (tStm (mT σ))) (nxt (mT σ) (tAt (mT σ))) (3 * (tStm (mT σ)))).2))), (mK σ), (mF σ), (mRow σ), (mRowMany σ), (mLots σ), (mRefused σ))) H := hP
              have hD : va_D (AD ad 0 21) (wM g ad ((mS σ), ((tTape ((rdAll ((tTape (mT σ)), (upd (tLetter (mT σ)) ((tStm (mT σ))).toNatClampNeg (nxt (mT σ) (tAt (mT σ)))), (upd (tLetterAt (mT σ)) ((tStm (mT σ))).toNatClampNeg (tAt (mT σ))), (tTold (mT σ)), (tTaped (mT σ)), ((tAt (mT σ)) + 1), (tStm (mT σ))) (nxt (mT σ) (tAt (mT σ))) (3 * (tStm (mT σ)))).2)), (tLetter ((rdAll ((tTape (mT σ)), (upd (tLetter (mT σ)) ((tStm (mT σ))).toNatClampNeg (nxt (mT σ) (tAt (mT σ)))), (upd (tLetterAt (mT σ)) ((tStm (mT σ))).toNatClampNeg (tAt (mT σ))), (tTold (mT σ)), (tTaped (mT σ)), ((tAt (mT σ)) + 1), (tStm (mT σ))) (nxt (mT σ) (tAt (mT σ))) (3 * (tStm (mT σ)))).2)), (tLetterAt ((rdAll ((tTape (mT σ)), (upd (tLetter (mT σ)) ((tStm (mT σ))).toNatClampNeg (nxt (mT σ) (tAt (mT σ)))), (upd (tLetterAt (mT σ)) ((tStm (mT σ))).toNatClampNeg (tAt (mT σ))), (tTold (mT σ)), (tTaped (mT σ)), ((tAt (mT σ)) + 1), (tStm (mT σ))) (nxt (mT σ) (tAt (mT σ))) (3 * (tStm (mT σ)))).2)), (tTold ((rdAll ((tTape (mT σ)), (upd (tLetter (mT σ)) ((tStm (mT σ))).toNatClampNeg (nxt (mT σ) (tAt (mT σ)))), (upd (tLetterAt (mT σ)) ((tStm (mT σ))).toNatClampNeg (tAt (mT σ))), (tTold (mT σ)), (tTaped (mT σ)), ((tAt (mT σ)) + 1), (tStm (mT σ))) (nxt (mT σ) (tAt (mT σ))) (3 * (tStm (mT σ)))).2)), (tTaped ((rdAll ((tTape (mT σ)), (upd (tLetter (mT σ)) ((tStm (mT σ))).toNatClampNeg (nxt (mT σ) (tAt (mT σ)))), (upd (tLetterAt (mT σ)) ((tStm (mT σ))).toNatClampNeg (tAt (mT σ))), (tTold (mT σ)), (tTaped (mT σ)), ((tAt (mT σ)) + 1), (tStm (mT σ))) (nxt (mT σ) (tAt (mT σ))) (3 * (tStm (mT σ)))).2)), ((tAt ((rdAll ((tTape (mT σ)), (upd (tLetter (mT σ)) ((tStm (mT σ))).toNatClampNeg (nxt (mT σ) (tAt (mT σ)))), (upd (tLetterAt (mT σ)) ((tStm (mT σ))).toNatClampNeg (tAt (mT σ))), (tTold (mT σ)), (tTaped (mT σ)), ((tAt (mT σ)) + 1), (tStm (mT σ))) (nxt (mT σ) (tAt (mT σ))) (3 * (tStm (mT σ)))).2)) + 1), (tStm ((rdAll ((tTape (mT σ)), (upd (tLetter (mT σ)) ((tStm (mT σ))).toNatClampNeg (nxt (mT σ) (tAt (mT σ)))), (upd (tLetterAt (mT σ)) ((tStm (mT σ))).toNatClampNeg (tAt (mT σ))), (tTold (mT σ)), (tTaped (mT σ)), ((tAt (mT σ)) + 1), (tStm (mT σ))) (nxt (mT σ) (tAt (mT σ))) (3 * (tStm (mT σ)))).2))), (mK σ), (mF σ), (mRow σ), (mRowMany σ), (mLots σ), (mRefused σ))) := hD
              refine lv_iconst (v := 1) hx hb dX3_statement_111 (by decide) ?_
              exact W.zret (v := 1) hx hb hr rfl (fun t ht hW => ⟨⟨1, ((mS σ), ((tTape ((rdAll ((tTape (mT σ)), (upd (tLetter (mT σ)) ((tStm (mT σ))).toNatClampNeg (nxt (mT σ) (tAt (mT σ)))), (upd (tLetterAt (mT σ)) ((tStm (mT σ))).toNatClampNeg (tAt (mT σ))), (tTold (mT σ)), (tTaped (mT σ)), ((tAt (mT σ)) + 1), (tStm (mT σ))) (nxt (mT σ) (tAt (mT σ))) (3 * (tStm (mT σ)))).2)), (tLetter ((rdAll ((tTape (mT σ)), (upd (tLetter (mT σ)) ((tStm (mT σ))).toNatClampNeg (nxt (mT σ) (tAt (mT σ)))), (upd (tLetterAt (mT σ)) ((tStm (mT σ))).toNatClampNeg (tAt (mT σ))), (tTold (mT σ)), (tTaped (mT σ)), ((tAt (mT σ)) + 1), (tStm (mT σ))) (nxt (mT σ) (tAt (mT σ))) (3 * (tStm (mT σ)))).2)), (tLetterAt ((rdAll ((tTape (mT σ)), (upd (tLetter (mT σ)) ((tStm (mT σ))).toNatClampNeg (nxt (mT σ) (tAt (mT σ)))), (upd (tLetterAt (mT σ)) ((tStm (mT σ))).toNatClampNeg (tAt (mT σ))), (tTold (mT σ)), (tTaped (mT σ)), ((tAt (mT σ)) + 1), (tStm (mT σ))) (nxt (mT σ) (tAt (mT σ))) (3 * (tStm (mT σ)))).2)), (tTold ((rdAll ((tTape (mT σ)), (upd (tLetter (mT σ)) ((tStm (mT σ))).toNatClampNeg (nxt (mT σ) (tAt (mT σ)))), (upd (tLetterAt (mT σ)) ((tStm (mT σ))).toNatClampNeg (tAt (mT σ))), (tTold (mT σ)), (tTaped (mT σ)), ((tAt (mT σ)) + 1), (tStm (mT σ))) (nxt (mT σ) (tAt (mT σ))) (3 * (tStm (mT σ)))).2)), (tTaped ((rdAll ((tTape (mT σ)), (upd (tLetter (mT σ)) ((tStm (mT σ))).toNatClampNeg (nxt (mT σ) (tAt (mT σ)))), (upd (tLetterAt (mT σ)) ((tStm (mT σ))).toNatClampNeg (tAt (mT σ))), (tTold (mT σ)), (tTaped (mT σ)), ((tAt (mT σ)) + 1), (tStm (mT σ))) (nxt (mT σ) (tAt (mT σ))) (3 * (tStm (mT σ)))).2)), ((tAt ((rdAll ((tTape (mT σ)), (upd (tLetter (mT σ)) ((tStm (mT σ))).toNatClampNeg (nxt (mT σ) (tAt (mT σ)))), (upd (tLetterAt (mT σ)) ((tStm (mT σ))).toNatClampNeg (tAt (mT σ))), (tTold (mT σ)), (tTaped (mT σ)), ((tAt (mT σ)) + 1), (tStm (mT σ))) (nxt (mT σ) (tAt (mT σ))) (3 * (tStm (mT σ)))).2)) + 1), (tStm ((rdAll ((tTape (mT σ)), (upd (tLetter (mT σ)) ((tStm (mT σ))).toNatClampNeg (nxt (mT σ) (tAt (mT σ)))), (upd (tLetterAt (mT σ)) ((tStm (mT σ))).toNatClampNeg (tAt (mT σ))), (tTold (mT σ)), (tTaped (mT σ)), ((tAt (mT σ)) + 1), (tStm (mT σ))) (nxt (mT σ) (tAt (mT σ))) (3 * (tStm (mT σ)))).2))), (mK σ), (mF σ), (mRow σ), (mRowMany σ), (mLots σ), (mRefused σ)), rfl, hv, P_at ht hP⟩, hS.F ht⟩) hS.2.2 dX3_statement_112
            · have hv := hv.2 c96
              refine lv_iconst (v := 0) hx hb dX3_statement_99 (by decide) ?_
              exact W.zret (v := 0) hx hb hr rfl (fun t ht hW => ⟨⟨0, ((mS σ), ((rdAll ((tTape (mT σ)), (upd (tLetter (mT σ)) ((tStm (mT σ))).toNatClampNeg (nxt (mT σ) (tAt (mT σ)))), (upd (tLetterAt (mT σ)) ((tStm (mT σ))).toNatClampNeg (tAt (mT σ))), (tTold (mT σ)), (tTaped (mT σ)), ((tAt (mT σ)) + 1), (tStm (mT σ))) (nxt (mT σ) (tAt (mT σ))) (3 * (tStm (mT σ)))).2), (mK σ), (mF σ), (mRow σ), (mRowMany σ), (mLots σ), (mRefused σ)), rfl, hv, P_at ht hP⟩, hS.F ht⟩) hS.2.2 dX3_statement_100
        · have hv := hv.2 c26
          refine lv_iload_n hx hb dX3_statement_29 rfl (lv_at hl 0 rfl) ?_
          refine lv_bipush (v := 97) hx hb dX3_statement_30 (by decide) ?_
          refine lv_icmp_eq (tgt := 43) hx hb dX3_statement_32 (by decide) (fun c32 => ?_) (fun c32 => ?_)
          · have hv := hv.1 c32
            refine lv_aload_n hx hb dX3_statement_43 rfl (lv_at hl 1 rfl) ?_
            refine va_get (D := gD g) (ci := 3) (v := .ref (ad 13)) (C := RX3) (T := TX3) (N := 33) hx hb hts hi3 hown hK hP 0 rfl rfl 17 (by decide) k0 (fun _ h9 => h9) rfl dX3_statement_44 ?_
            refine lv_aload_n hx hb dX3_statement_47 rfl (lv_at hl 1 rfl) ?_
            refine va_get (D := gD g) (ci := 3) (v := .int (tStm (mT σ))) (C := RX3) (T := TX3) (N := 33) hx hb hts hi3 hown hK hP 0 rfl rfl 22 (by decide) k1 (fun _ h9 => h9) rfl dX3_statement_48 ?_
            refine lv_iload_n hx hb dX3_statement_51 rfl (lv_at hl 0 rfl) ?_
            have h9 := hv.1
            have hv := hv.2
            refine va_iast (f := (tLetter (mT σ))) (n := 48) hx hb hK hP hD hS 13 0 rfl rfl h9 dX3_statement_52 (fun H locs hP hD hS => ?_)
            have hP : va_P (gD g) vwCl (wM g ad ((mS σ), ((tTape (mT σ)), (upd (tLetter (mT σ)) ((tStm (mT σ))).toNatClampNeg (nxt (mT σ) (tAt (mT σ)))), (tLetterAt (mT σ)), (tTold (mT σ)), (tTaped (mT σ)), (tAt (mT σ)), (tStm (mT σ))), (mK σ), (mF σ), (mRow σ), (mRowMany σ), (mLots σ), (mRefused σ))) H := hP
            have hD : va_D (AD ad 0 21) (wM g ad ((mS σ), ((tTape (mT σ)), (upd (tLetter (mT σ)) ((tStm (mT σ))).toNatClampNeg (nxt (mT σ) (tAt (mT σ)))), (tLetterAt (mT σ)), (tTold (mT σ)), (tTaped (mT σ)), (tAt (mT σ)), (tStm (mT σ))), (mK σ), (mF σ), (mRow σ), (mRowMany σ), (mLots σ), (mRefused σ))) := hD
            refine lv_aload_n hx hb dX3_statement_53 rfl (lv_at hl 1 rfl) ?_
            refine va_get (D := gD g) (ci := 3) (v := .ref (ad 14)) (C := RX3) (T := TX3) (N := 33) hx hb hts hi3 hown hK hP 0 rfl rfl 18 (by decide) k2 (fun _ h9 => h9) rfl dX3_statement_54 ?_
            refine lv_aload_n hx hb dX3_statement_57 rfl (lv_at hl 1 rfl) ?_
            refine va_get (D := gD g) (ci := 3) (v := .int (tStm (mT σ))) (C := RX3) (T := TX3) (N := 33) hx hb hts hi3 hown hK hP 0 rfl rfl 22 (by decide) k1 (fun _ h9 => h9) rfl dX3_statement_58 ?_
            refine lv_aload_n hx hb dX3_statement_61 rfl (lv_at hl 1 rfl) ?_
            refine va_get (D := gD g) (ci := 3) (v := .int (tAt (mT σ))) (C := RX3) (T := TX3) (N := 33) hx hb hts hi3 hown hK hP 0 rfl rfl 21 (by decide) k3 (fun _ h9 => h9) rfl dX3_statement_62 ?_
            have h9 := hv.1
            have hv := hv.2
            refine va_iast (f := (tLetterAt (mT σ))) (n := 48) hx hb hK hP hD hS 14 0 rfl rfl h9 dX3_statement_65 (fun H locs hP hD hS => ?_)
            have hP : va_P (gD g) vwCl (wM g ad ((mS σ), ((tTape (mT σ)), (upd (tLetter (mT σ)) ((tStm (mT σ))).toNatClampNeg (nxt (mT σ) (tAt (mT σ)))), (upd (tLetterAt (mT σ)) ((tStm (mT σ))).toNatClampNeg (tAt (mT σ))), (tTold (mT σ)), (tTaped (mT σ)), (tAt (mT σ)), (tStm (mT σ))), (mK σ), (mF σ), (mRow σ), (mRowMany σ), (mLots σ), (mRefused σ))) H := hP
            have hD : va_D (AD ad 0 21) (wM g ad ((mS σ), ((tTape (mT σ)), (upd (tLetter (mT σ)) ((tStm (mT σ))).toNatClampNeg (nxt (mT σ) (tAt (mT σ)))), (upd (tLetterAt (mT σ)) ((tStm (mT σ))).toNatClampNeg (tAt (mT σ))), (tTold (mT σ)), (tTaped (mT σ)), (tAt (mT σ)), (tStm (mT σ))), (mK σ), (mF σ), (mRow σ), (mRowMany σ), (mLots σ), (mRefused σ))) := hD
            refine lv_aload_n hx hb dX3_statement_66 rfl (lv_at hl 1 rfl) ?_
            refine lv_dup hx hb dX3_statement_67 rfl ?_
            refine va_get (D := gD g) (ci := 3) (v := .int (tAt (mT σ))) (C := RX3) (T := TX3) (N := 33) hx hb hts hi3 hown hK hP 0 rfl rfl 21 (by decide) k3 (fun _ h9 => h9) rfl dX3_statement_68 ?_
            refine lv_iconst (v := 1) hx hb dX3_statement_71 (by decide) ?_
            refine lv_iadd hx hb dX3_statement_72 ?_
            refine va_put (D := gD g) (ci := 3) (v := .int ((tAt (mT σ)) + 1)) (ty := .int) (C := RX3) (T := TX3) (N := 33) hx hb hts hi3 tyX3 tyX3_ok nmX3 hown hK hP hD hS 0 rfl rfl 21 (by decide) k3 (fun _ h9 => h9) rfl (by decide +kernel) rfl rfl (Nat.le_of_ble_eq_true rfl) dX3_statement_73 (fun H locs hP hD hS => ?_)
            have hP : va_P (gD g) vwCl (wM g ad ((mS σ), ((tTape (mT σ)), (upd (tLetter (mT σ)) ((tStm (mT σ))).toNatClampNeg (nxt (mT σ) (tAt (mT σ)))), (upd (tLetterAt (mT σ)) ((tStm (mT σ))).toNatClampNeg (tAt (mT σ))), (tTold (mT σ)), (tTaped (mT σ)), ((tAt (mT σ)) + 1), (tStm (mT σ))), (mK σ), (mF σ), (mRow σ), (mRowMany σ), (mLots σ), (mRefused σ))) H := hP
            have hD : va_D (AD ad 0 21) (wM g ad ((mS σ), ((tTape (mT σ)), (upd (tLetter (mT σ)) ((tStm (mT σ))).toNatClampNeg (nxt (mT σ) (tAt (mT σ)))), (upd (tLetterAt (mT σ)) ((tStm (mT σ))).toNatClampNeg (tAt (mT σ))), (tTold (mT σ)), (tTaped (mT σ)), ((tAt (mT σ)) + 1), (tStm (mT σ))), (mK σ), (mF σ), (mRow σ), (mRowMany σ), (mLots σ), (mRefused σ))) := hD
            refine lv_aload_n hx hb dX3_statement_76 rfl (lv_at hl 1 rfl) ?_
            refine lv_iload_n hx hb dX3_statement_77 rfl (lv_at hl 0 rfl) ?_
            refine lv_iconst (v := 3) hx hb dX3_statement_78 (by decide) ?_
            refine lv_aload_n hx hb dX3_statement_79 rfl (lv_at hl 1 rfl) ?_
            refine va_get (D := gD g) (ci := 3) (v := .int (tStm (mT σ))) (C := RX3) (T := TX3) (N := 33) hx hb hts hi3 hown hK hP 0 rfl rfl 22 (by decide) k1 (fun _ h9 => h9) rfl dX3_statement_80 ?_
            refine lv_imul hx hb dX3_statement_83 ?_
            have h8 := hv.1
            have hv := hv.2
            have hPc := hP
            have hDc := hD
            refine rw_int (va_runV (As := [.int (nxt (mT σ) (tAt (mT σ))), .int (3 * (tStm (mT σ)))]) (rest := []) ⟨hx, hb, hml, hown, hts⟩ (h_X3_readsAll g ad ((mS σ), ((tTape (mT σ)), (upd (tLetter (mT σ)) ((tStm (mT σ))).toNatClampNeg (nxt (mT σ) (tAt (mT σ)))), (upd (tLetterAt (mT σ)) ((tStm (mT σ))).toNatClampNeg (tAt (mT σ))), (tTold (mT σ)), (tTaped (mT σ)), ((tAt (mT σ)) + 1), (tStm (mT σ))), (mK σ), (mF σ), (mRow σ), (mRowMany σ), (mLots σ), (mRefused σ)) (nxt (mT σ) (tAt (mT σ))) (3 * (tStm (mT σ))) h8) (cwV 2 hts gX3_statement_X3_readsAll rfl rfl rfl (by decide +kernel) ⟨Nat.le_of_ble_eq_true rfl, Nat.le_of_ble_eq_true rfl⟩) ⟨RW_blind, va_recv hK hP (ci := 3) (q0 := 0) rfl rfl, fun U hU hW => ⟨rfl, by rw [hU]; exact hPc, va_K.moved hW.alike hK, hE.call hW hU hS (fun _ h => h), hDc⟩⟩ rfl rfl hl.1 rfl (lv_room (Nat.le_of_ble_eq_true rfl)) dX3_statement_84 ⟨Nat.le_of_ble_eq_true rfl, Nat.le_of_ble_eq_true rfl⟩) hS (fun _ h => h) (fun r u H1 locs hw hP1 hk hS => ?_)
            obtain ⟨hw1, hw⟩ := hw; subst r; subst u
            have hP := hP1
            generalize H1 = H at hP hS ⊢
            have hP : va_P (gD g) vwCl (wM g ad ((mS σ), ((rdAll ((tTape (mT σ)), (upd (tLetter (mT σ)) ((tStm (mT σ))).toNatClampNeg (nxt (mT σ) (tAt (mT σ)))), (upd (tLetterAt (mT σ)) ((tStm (mT σ))).toNatClampNeg (tAt (mT σ))), (tTold (mT σ)), (tTaped (mT σ)), ((tAt (mT σ)) + 1), (tStm (mT σ))) (nxt (mT σ) (tAt (mT σ))) (3 * (tStm (mT σ)))).2), (mK σ), (mF σ), (mRow σ), (mRowMany σ), (mLots σ), (mRefused σ))) H := hP
            have hD : va_D (AD ad 0 21) (wM g ad ((mS σ), ((rdAll ((tTape (mT σ)), (upd (tLetter (mT σ)) ((tStm (mT σ))).toNatClampNeg (nxt (mT σ) (tAt (mT σ)))), (upd (tLetterAt (mT σ)) ((tStm (mT σ))).toNatClampNeg (tAt (mT σ))), (tTold (mT σ)), (tTaped (mT σ)), ((tAt (mT σ)) + 1), (tStm (mT σ))) (nxt (mT σ) (tAt (mT σ))) (3 * (tStm (mT σ)))).2), (mK σ), (mF σ), (mRow σ), (mRowMany σ), (mLots σ), (mRefused σ))) := hD.addr (by rfl)
            refine lv_if_eq (tgt := 99) hx hb dX3_statement_87 (by decide) (fun c87 => ?_) (fun c87 => ?_)
            · have hv := hv.1 c87
              refine lv_iconst (v := 0) hx hb dX3_statement_99 (by decide) ?_
              exact W.zret (v := 0) hx hb hr rfl (fun t ht hW => ⟨⟨0, ((mS σ), ((rdAll ((tTape (mT σ)), (upd (tLetter (mT σ)) ((tStm (mT σ))).toNatClampNeg (nxt (mT σ) (tAt (mT σ)))), (upd (tLetterAt (mT σ)) ((tStm (mT σ))).toNatClampNeg (tAt (mT σ))), (tTold (mT σ)), (tTaped (mT σ)), ((tAt (mT σ)) + 1), (tStm (mT σ))) (nxt (mT σ) (tAt (mT σ))) (3 * (tStm (mT σ)))).2), (mK σ), (mF σ), (mRow σ), (mRowMany σ), (mLots σ), (mRefused σ)), rfl, hv, P_at ht hP⟩, hS.F ht⟩) hS.2.2 dX3_statement_100
            · have hv := hv.2 c87
              refine lv_aload_n hx hb dX3_statement_90 rfl (lv_at hl 1 rfl) ?_
              have h8 := hv.1
              have hv := hv.2
              have hPc := hP
              refine ro_int (va_runV (As := []) (rest := []) ⟨hx, hb, hml, hown, hts⟩ (h_X3_next g ad ((mS σ), ((rdAll ((tTape (mT σ)), (upd (tLetter (mT σ)) ((tStm (mT σ))).toNatClampNeg (nxt (mT σ) (tAt (mT σ)))), (upd (tLetterAt (mT σ)) ((tStm (mT σ))).toNatClampNeg (tAt (mT σ))), (tTold (mT σ)), (tTaped (mT σ)), ((tAt (mT σ)) + 1), (tStm (mT σ))) (nxt (mT σ) (tAt (mT σ))) (3 * (tStm (mT σ)))).2), (mK σ), (mF σ), (mRow σ), (mRowMany σ), (mLots σ), (mRefused σ)) h8) (cwV 0 hts gX3_statement_X3_next rfl rfl rfl (by decide +kernel) ⟨Nat.le_of_ble_eq_true rfl, Nat.le_of_ble_eq_true rfl⟩) ⟨RO_blind, va_recv hK hP (ci := 3) (q0 := 0) rfl rfl, fun U hU hW => ⟨rfl, by rw [hU]; exact hPc, va_K.moved hW.alike hK, hE.call hW hU hS (fun _ h => h.elim)⟩⟩ rfl rfl hl.1 rfl (lv_room (Nat.le_of_ble_eq_true rfl)) dX3_statement_91 ⟨Nat.le_of_ble_eq_true rfl, Nat.le_of_ble_eq_true rfl⟩) hS hP (fun r H locs hw hP hS => ?_)
              subst r
              refine lv_bipush (v := 59) hx hb dX3_statement_94 (by decide) ?_
              refine lv_icmp_eq (tgt := 101) hx hb dX3_statement_96 (by decide) (fun c96 => ?_) (fun c96 => ?_)
              · have hv := hv.1 c96
                refine lv_aload_n hx hb dX3_statement_101 rfl (lv_at hl 1 rfl) ?_
                refine lv_dup hx hb dX3_statement_102 rfl ?_
                refine va_get (D := gD g) (ci := 3) (v := .int (tAt ((rdAll ((tTape (mT σ)), (upd (tLetter (mT σ)) ((tStm (mT σ))).toNatClampNeg (nxt (mT σ) (tAt (mT σ)))), (upd (tLetterAt (mT σ)) ((tStm (mT σ))).toNatClampNeg (tAt (mT σ))), (tTold (mT σ)), (tTaped (mT σ)), ((tAt (mT σ)) + 1), (tStm (mT σ))) (nxt (mT σ) (tAt (mT σ))) (3 * (tStm (mT σ)))).2))) (C := RX3) (T := TX3) (N := 33) hx hb hts hi3 hown hK hP 0 rfl rfl 21 (by decide) k3 (fun _ h9 => h9) rfl dX3_statement_103 ?_
                refine lv_iconst (v := 1) hx hb dX3_statement_106 (by decide) ?_
                refine lv_iadd hx hb dX3_statement_107 ?_
                refine va_put (D := gD g) (ci := 3) (v := .int ((tAt ((rdAll ((tTape (mT σ)), (upd (tLetter (mT σ)) ((tStm (mT σ))).toNatClampNeg (nxt (mT σ) (tAt (mT σ)))), (upd (tLetterAt (mT σ)) ((tStm (mT σ))).toNatClampNeg (tAt (mT σ))), (tTold (mT σ)), (tTaped (mT σ)), ((tAt (mT σ)) + 1), (tStm (mT σ))) (nxt (mT σ) (tAt (mT σ))) (3 * (tStm (mT σ)))).2)) + 1)) (ty := .int) (C := RX3) (T := TX3) (N := 33) hx hb hts hi3 tyX3 tyX3_ok nmX3 hown hK hP hD hS 0 rfl rfl 21 (by decide) k3 (fun _ h9 => h9) rfl (by decide +kernel) rfl rfl (Nat.le_of_ble_eq_true rfl) dX3_statement_108 (fun H locs hP hD hS => ?_)
                have hP : va_P (gD g) vwCl (wM g ad ((mS σ), ((tTape ((rdAll ((tTape (mT σ)), (upd (tLetter (mT σ)) ((tStm (mT σ))).toNatClampNeg (nxt (mT σ) (tAt (mT σ)))), (upd (tLetterAt (mT σ)) ((tStm (mT σ))).toNatClampNeg (tAt (mT σ))), (tTold (mT σ)), (tTaped (mT σ)), ((tAt (mT σ)) + 1), (tStm (mT σ))) (nxt (mT σ) (tAt (mT σ))) (3 * (tStm (mT σ)))).2)), (tLetter ((rdAll ((tTape (mT σ)), (upd (tLetter (mT σ)) ((tStm (mT σ))).toNatClampNeg (nxt (mT σ) (tAt (mT σ)))), (upd (tLetterAt (mT σ)) ((tStm (mT σ))).toNatClampNeg (tAt (mT σ))), (tTold (mT σ)), (tTaped (mT σ)), ((tAt (mT σ)) + 1), (tStm (mT σ))) (nxt (mT σ) (tAt (mT σ))) (3 * (tStm (mT σ)))).2)), (tLetterAt ((rdAll ((tTape (mT σ)), (upd (tLetter (mT σ)) ((tStm (mT σ))).toNatClampNeg (nxt (mT σ) (tAt (mT σ)))), (upd (tLetterAt (mT σ)) ((tStm (mT σ))).toNatClampNeg (tAt (mT σ))), (tTold (mT σ)), (tTaped (mT σ)), ((tAt (mT σ)) + 1), (tStm (mT σ))) (nxt (mT σ) (tAt (mT σ))) (3 * (tStm (mT σ)))).2)), (tTold ((rdAll ((tTape (mT σ)), (upd (tLetter (mT σ)) ((tStm (mT σ))).toNatClampNeg (nxt (mT σ) (tAt (mT σ)))), (upd (tLetterAt (mT σ)) ((tStm (mT σ))).toNatClampNeg (tAt (mT σ))), (tTold (mT σ)), (tTaped (mT σ)), ((tAt (mT σ)) + 1), (tStm (mT σ))) (nxt (mT σ) (tAt (mT σ))) (3 * (tStm (mT σ)))).2)), (tTaped ((rdAll ((tTape (mT σ)), (upd (tLetter (mT σ)) ((tStm (mT σ))).toNatClampNeg (nxt (mT σ) (tAt (mT σ)))), (upd (tLetterAt (mT σ)) ((tStm (mT σ))).toNatClampNeg (tAt (mT σ))), (tTold (mT σ)), (tTaped (mT σ)), ((tAt (mT σ)) + 1), (tStm (mT σ))) (nxt (mT σ) (tAt (mT σ))) (3 * (tStm (mT σ)))).2)), ((tAt ((rdAll ((tTape (mT σ)), (upd (tLetter (mT σ)) ((tStm (mT σ))).toNatClampNeg (nxt (mT σ) (tAt (mT σ)))), (upd (tLetterAt (mT σ)) ((tStm (mT σ))).toNatClampNeg (tAt (mT σ))), (tTold (mT σ)), (tTaped (mT σ)), ((tAt (mT σ)) + 1), (tStm (mT σ))) (nxt (mT σ) (tAt (mT σ))) (3 * (tStm (mT σ)))).2)) + 1), (tStm ((rdAll ((tTape (mT σ)), (upd (tLetter (mT σ)) ((tStm (mT σ))).toNatClampNeg (nxt (mT σ) (tAt (mT σ)))), (upd (tLetterAt (mT σ)) ((tStm (mT σ))).toNatClampNeg (tAt (mT σ))), (tTold (mT σ)), (tTaped (mT σ)), ((tAt (mT σ)) + 1), (tStm (mT σ))) (nxt (mT σ) (tAt (mT σ))) (3 * (tStm (mT σ)))).2))), (mK σ), (mF σ), (mRow σ), (mRowMany σ), (mLots σ), (mRefused σ))) H := hP
                have hD : va_D (AD ad 0 21) (wM g ad ((mS σ), ((tTape ((rdAll ((tTape (mT σ)), (upd (tLetter (mT σ)) ((tStm (mT σ))).toNatClampNeg (nxt (mT σ) (tAt (mT σ)))), (upd (tLetterAt (mT σ)) ((tStm (mT σ))).toNatClampNeg (tAt (mT σ))), (tTold (mT σ)), (tTaped (mT σ)), ((tAt (mT σ)) + 1), (tStm (mT σ))) (nxt (mT σ) (tAt (mT σ))) (3 * (tStm (mT σ)))).2)), (tLetter ((rdAll ((tTape (mT σ)), (upd (tLetter (mT σ)) ((tStm (mT σ))).toNatClampNeg (nxt (mT σ) (tAt (mT σ)))), (upd (tLetterAt (mT σ)) ((tStm (mT σ))).toNatClampNeg (tAt (mT σ))), (tTold (mT σ)), (tTaped (mT σ)), ((tAt (mT σ)) + 1), (tStm (mT σ))) (nxt (mT σ) (tAt (mT σ))) (3 * (tStm (mT σ)))).2)), (tLetterAt ((rdAll ((tTape (mT σ)), (upd (tLetter (mT σ)) ((tStm (mT σ))).toNatClampNeg (nxt (mT σ) (tAt (mT σ)))), (upd (tLetterAt (mT σ)) ((tStm (mT σ))).toNatClampNeg (tAt (mT σ))), (tTold (mT σ)), (tTaped (mT σ)), ((tAt (mT σ)) + 1), (tStm (mT σ))) (nxt (mT σ) (tAt (mT σ))) (3 * (tStm (mT σ)))).2)), (tTold ((rdAll ((tTape (mT σ)), (upd (tLetter (mT σ)) ((tStm (mT σ))).toNatClampNeg (nxt (mT σ) (tAt (mT σ)))), (upd (tLetterAt (mT σ)) ((tStm (mT σ))).toNatClampNeg (tAt (mT σ))), (tTold (mT σ)), (tTaped (mT σ)), ((tAt (mT σ)) + 1), (tStm (mT σ))) (nxt (mT σ) (tAt (mT σ))) (3 * (tStm (mT σ)))).2)), (tTaped ((rdAll ((tTape (mT σ)), (upd (tLetter (mT σ)) ((tStm (mT σ))).toNatClampNeg (nxt (mT σ) (tAt (mT σ)))), (upd (tLetterAt (mT σ)) ((tStm (mT σ))).toNatClampNeg (tAt (mT σ))), (tTold (mT σ)), (tTaped (mT σ)), ((tAt (mT σ)) + 1), (tStm (mT σ))) (nxt (mT σ) (tAt (mT σ))) (3 * (tStm (mT σ)))).2)), ((tAt ((rdAll ((tTape (mT σ)), (upd (tLetter (mT σ)) ((tStm (mT σ))).toNatClampNeg (nxt (mT σ) (tAt (mT σ)))), (upd (tLetterAt (mT σ)) ((tStm (mT σ))).toNatClampNeg (tAt (mT σ))), (tTold (mT σ)), (tTaped (mT σ)), ((tAt (mT σ)) + 1), (tStm (mT σ))) (nxt (mT σ) (tAt (mT σ))) (3 * (tStm (mT σ)))).2)) + 1), (tStm ((rdAll ((tTape (mT σ)), (upd (tLetter (mT σ)) ((tStm (mT σ))).toNatClampNeg (nxt (mT σ) (tAt (mT σ)))), (upd (tLetterAt (mT σ)) ((tStm (mT σ))).toNatClampNeg (tAt (mT σ))), (tTold (mT σ)), (tTaped (mT σ)), ((tAt (mT σ)) + 1), (tStm (mT σ))) (nxt (mT σ) (tAt (mT σ))) (3 * (tStm (mT σ)))).2))), (mK σ), (mF σ), (mRow σ), (mRowMany σ), (mLots σ), (mRefused σ))) := hD
                refine lv_iconst (v := 1) hx hb dX3_statement_111 (by decide) ?_
                exact W.zret (v := 1) hx hb hr rfl (fun t ht hW => ⟨⟨1, ((mS σ), ((tTape ((rdAll ((tTape (mT σ)), (upd (tLetter (mT σ)) ((tStm (mT σ))).toNatClampNeg (nxt (mT σ) (tAt (mT σ)))), (upd (tLetterAt (mT σ)) ((tStm (mT σ))).toNatClampNeg (tAt (mT σ))), (tTold (mT σ)), (tTaped (mT σ)), ((tAt (mT σ)) + 1), (tStm (mT σ))) (nxt (mT σ) (tAt (mT σ))) (3 * (tStm (mT σ)))).2)), (tLetter ((rdAll ((tTape (mT σ)), (upd (tLetter (mT σ)) ((tStm (mT σ))).toNatClampNeg (nxt (mT σ) (tAt (mT σ)))), (upd (tLetterAt (mT σ)) ((tStm (mT σ))).toNatClampNeg (tAt (mT σ))), (tTold (mT σ)), (tTaped (mT σ)), ((tAt (mT σ)) + 1), (tStm (mT σ))) (nxt (mT σ) (tAt (mT σ))) (3 * (tStm (mT σ)))).2)), (tLetterAt ((rdAll ((tTape (mT σ)), (upd (tLetter (mT σ)) ((tStm (mT σ))).toNatClampNeg (nxt (mT σ) (tAt (mT σ)))), (upd (tLetterAt (mT σ)) ((tStm (mT σ))).toNatClampNeg (tAt (mT σ))), (tTold (mT σ)), (tTaped (mT σ)), ((tAt (mT σ)) + 1), (tStm (mT σ))) (nxt (mT σ) (tAt (mT σ))) (3 * (tStm (mT σ)))).2)), (tTold ((rdAll ((tTape (mT σ)), (upd (tLetter (mT σ)) ((tStm (mT σ))).toNatClampNeg (nxt (mT σ) (tAt (mT σ)))), (upd (tLetterAt (mT σ)) ((tStm (mT σ))).toNatClampNeg (tAt (mT σ))), (tTold (mT σ)), (tTaped (mT σ)), ((tAt (mT σ)) + 1), (tStm (mT σ))) (nxt (mT σ) (tAt (mT σ))) (3 * (tStm (mT σ)))).2)), (tTaped ((rdAll ((tTape (mT σ)), (upd (tLetter (mT σ)) ((tStm (mT σ))).toNatClampNeg (nxt (mT σ) (tAt (mT σ)))), (upd (tLetterAt (mT σ)) ((tStm (mT σ))).toNatClampNeg (tAt (mT σ))), (tTold (mT σ)), (tTaped (mT σ)), ((tAt (mT σ)) + 1), (tStm (mT σ))) (nxt (mT σ) (tAt (mT σ))) (3 * (tStm (mT σ)))).2)), ((tAt ((rdAll ((tTape (mT σ)), (upd (tLetter (mT σ)) ((tStm (mT σ))).toNatClampNeg (nxt (mT σ) (tAt (mT σ)))), (upd (tLetterAt (mT σ)) ((tStm (mT σ))).toNatClampNeg (tAt (mT σ))), (tTold (mT σ)), (tTaped (mT σ)), ((tAt (mT σ)) + 1), (tStm (mT σ))) (nxt (mT σ) (tAt (mT σ))) (3 * (tStm (mT σ)))).2)) + 1), (tStm ((rdAll ((tTape (mT σ)), (upd (tLetter (mT σ)) ((tStm (mT σ))).toNatClampNeg (nxt (mT σ) (tAt (mT σ)))), (upd (tLetterAt (mT σ)) ((tStm (mT σ))).toNatClampNeg (tAt (mT σ))), (tTold (mT σ)), (tTaped (mT σ)), ((tAt (mT σ)) + 1), (tStm (mT σ))) (nxt (mT σ) (tAt (mT σ))) (3 * (tStm (mT σ)))).2))), (mK σ), (mF σ), (mRow σ), (mRowMany σ), (mLots σ), (mRefused σ)), rfl, hv, P_at ht hP⟩, hS.F ht⟩) hS.2.2 dX3_statement_112
              · have hv := hv.2 c96
                refine lv_iconst (v := 0) hx hb dX3_statement_99 (by decide) ?_
                exact W.zret (v := 0) hx hb hr rfl (fun t ht hW => ⟨⟨0, ((mS σ), ((rdAll ((tTape (mT σ)), (upd (tLetter (mT σ)) ((tStm (mT σ))).toNatClampNeg (nxt (mT σ) (tAt (mT σ)))), (upd (tLetterAt (mT σ)) ((tStm (mT σ))).toNatClampNeg (tAt (mT σ))), (tTold (mT σ)), (tTaped (mT σ)), ((tAt (mT σ)) + 1), (tStm (mT σ))) (nxt (mT σ) (tAt (mT σ))) (3 * (tStm (mT σ)))).2), (mK σ), (mF σ), (mRow σ), (mRowMany σ), (mLots σ), (mRefused σ)), rfl, hv, P_at ht hP⟩, hS.F ht⟩) hS.2.2 dX3_statement_100
          · have hv := hv.2 c32
            refine lv_iload_n hx hb dX3_statement_35 rfl (lv_at hl 0 rfl) ?_
            refine lv_bipush (v := 110) hx hb dX3_statement_36 (by decide) ?_
            refine lv_icmp_eq (tgt := 43) hx hb dX3_statement_38 (by decide) (fun c38 => ?_) (fun c38 => ?_)
            · have hv := hv.1 c38
              refine lv_aload_n hx hb dX3_statement_43 rfl (lv_at hl 1 rfl) ?_
              refine va_get (D := gD g) (ci := 3) (v := .ref (ad 13)) (C := RX3) (T := TX3) (N := 33) hx hb hts hi3 hown hK hP 0 rfl rfl 17 (by decide) k0 (fun _ h9 => h9) rfl dX3_statement_44 ?_
              refine lv_aload_n hx hb dX3_statement_47 rfl (lv_at hl 1 rfl) ?_
              refine va_get (D := gD g) (ci := 3) (v := .int (tStm (mT σ))) (C := RX3) (T := TX3) (N := 33) hx hb hts hi3 hown hK hP 0 rfl rfl 22 (by decide) k1 (fun _ h9 => h9) rfl dX3_statement_48 ?_
              refine lv_iload_n hx hb dX3_statement_51 rfl (lv_at hl 0 rfl) ?_
              have h9 := hv.1
              have hv := hv.2
              refine va_iast (f := (tLetter (mT σ))) (n := 48) hx hb hK hP hD hS 13 0 rfl rfl h9 dX3_statement_52 (fun H locs hP hD hS => ?_)
              have hP : va_P (gD g) vwCl (wM g ad ((mS σ), ((tTape (mT σ)), (upd (tLetter (mT σ)) ((tStm (mT σ))).toNatClampNeg (nxt (mT σ) (tAt (mT σ)))), (tLetterAt (mT σ)), (tTold (mT σ)), (tTaped (mT σ)), (tAt (mT σ)), (tStm (mT σ))), (mK σ), (mF σ), (mRow σ), (mRowMany σ), (mLots σ), (mRefused σ))) H := hP
              have hD : va_D (AD ad 0 21) (wM g ad ((mS σ), ((tTape (mT σ)), (upd (tLetter (mT σ)) ((tStm (mT σ))).toNatClampNeg (nxt (mT σ) (tAt (mT σ)))), (tLetterAt (mT σ)), (tTold (mT σ)), (tTaped (mT σ)), (tAt (mT σ)), (tStm (mT σ))), (mK σ), (mF σ), (mRow σ), (mRowMany σ), (mLots σ), (mRefused σ))) := hD
              refine lv_aload_n hx hb dX3_statement_53 rfl (lv_at hl 1 rfl) ?_
              refine va_get (D := gD g) (ci := 3) (v := .ref (ad 14)) (C := RX3) (T := TX3) (N := 33) hx hb hts hi3 hown hK hP 0 rfl rfl 18 (by decide) k2 (fun _ h9 => h9) rfl dX3_statement_54 ?_
              refine lv_aload_n hx hb dX3_statement_57 rfl (lv_at hl 1 rfl) ?_
              refine va_get (D := gD g) (ci := 3) (v := .int (tStm (mT σ))) (C := RX3) (T := TX3) (N := 33) hx hb hts hi3 hown hK hP 0 rfl rfl 22 (by decide) k1 (fun _ h9 => h9) rfl dX3_statement_58 ?_
              refine lv_aload_n hx hb dX3_statement_61 rfl (lv_at hl 1 rfl) ?_
              refine va_get (D := gD g) (ci := 3) (v := .int (tAt (mT σ))) (C := RX3) (T := TX3) (N := 33) hx hb hts hi3 hown hK hP 0 rfl rfl 21 (by decide) k3 (fun _ h9 => h9) rfl dX3_statement_62 ?_
              have h9 := hv.1
              have hv := hv.2
              refine va_iast (f := (tLetterAt (mT σ))) (n := 48) hx hb hK hP hD hS 14 0 rfl rfl h9 dX3_statement_65 (fun H locs hP hD hS => ?_)
              have hP : va_P (gD g) vwCl (wM g ad ((mS σ), ((tTape (mT σ)), (upd (tLetter (mT σ)) ((tStm (mT σ))).toNatClampNeg (nxt (mT σ) (tAt (mT σ)))), (upd (tLetterAt (mT σ)) ((tStm (mT σ))).toNatClampNeg (tAt (mT σ))), (tTold (mT σ)), (tTaped (mT σ)), (tAt (mT σ)), (tStm (mT σ))), (mK σ), (mF σ), (mRow σ), (mRowMany σ), (mLots σ), (mRefused σ))) H := hP
              have hD : va_D (AD ad 0 21) (wM g ad ((mS σ), ((tTape (mT σ)), (upd (tLetter (mT σ)) ((tStm (mT σ))).toNatClampNeg (nxt (mT σ) (tAt (mT σ)))), (upd (tLetterAt (mT σ)) ((tStm (mT σ))).toNatClampNeg (tAt (mT σ))), (tTold (mT σ)), (tTaped (mT σ)), (tAt (mT σ)), (tStm (mT σ))), (mK σ), (mF σ), (mRow σ), (mRowMany σ), (mLots σ), (mRefused σ))) := hD
              refine lv_aload_n hx hb dX3_statement_66 rfl (lv_at hl 1 rfl) ?_
              refine lv_dup hx hb dX3_statement_67 rfl ?_
              refine va_get (D := gD g) (ci := 3) (v := .int (tAt (mT σ))) (C := RX3) (T := TX3) (N := 33) hx hb hts hi3 hown hK hP 0 rfl rfl 21 (by decide) k3 (fun _ h9 => h9) rfl dX3_statement_68 ?_
              refine lv_iconst (v := 1) hx hb dX3_statement_71 (by decide) ?_
              refine lv_iadd hx hb dX3_statement_72 ?_
              refine va_put (D := gD g) (ci := 3) (v := .int ((tAt (mT σ)) + 1)) (ty := .int) (C := RX3) (T := TX3) (N := 33) hx hb hts hi3 tyX3 tyX3_ok nmX3 hown hK hP hD hS 0 rfl rfl 21 (by decide) k3 (fun _ h9 => h9) rfl (by decide +kernel) rfl rfl (Nat.le_of_ble_eq_true rfl) dX3_statement_73 (fun H locs hP hD hS => ?_)
              have hP : va_P (gD g) vwCl (wM g ad ((mS σ), ((tTape (mT σ)), (upd (tLetter (mT σ)) ((tStm (mT σ))).toNatClampNeg (nxt (mT σ) (tAt (mT σ)))), (upd (tLetterAt (mT σ)) ((tStm (mT σ))).toNatClampNeg (tAt (mT σ))), (tTold (mT σ)), (tTaped (mT σ)), ((tAt (mT σ)) + 1), (tStm (mT σ))), (mK σ), (mF σ), (mRow σ), (mRowMany σ), (mLots σ), (mRefused σ))) H := hP
              have hD : va_D (AD ad 0 21) (wM g ad ((mS σ), ((tTape (mT σ)), (upd (tLetter (mT σ)) ((tStm (mT σ))).toNatClampNeg (nxt (mT σ) (tAt (mT σ)))), (upd (tLetterAt (mT σ)) ((tStm (mT σ))).toNatClampNeg (tAt (mT σ))), (tTold (mT σ)), (tTaped (mT σ)), ((tAt (mT σ)) + 1), (tStm (mT σ))), (mK σ), (mF σ), (mRow σ), (mRowMany σ), (mLots σ), (mRefused σ))) := hD
              refine lv_aload_n hx hb dX3_statement_76 rfl (lv_at hl 1 rfl) ?_
              refine lv_iload_n hx hb dX3_statement_77 rfl (lv_at hl 0 rfl) ?_
              refine lv_iconst (v := 3) hx hb dX3_statement_78 (by decide) ?_
              refine lv_aload_n hx hb dX3_statement_79 rfl (lv_at hl 1 rfl) ?_
              refine va_get (D := gD g) (ci := 3) (v := .int (tStm (mT σ))) (C := RX3) (T := TX3) (N := 33) hx hb hts hi3 hown hK hP 0 rfl rfl 22 (by decide) k1 (fun _ h9 => h9) rfl dX3_statement_80 ?_
              refine lv_imul hx hb dX3_statement_83 ?_
              have h8 := hv.1
              have hv := hv.2
              have hPc := hP
              have hDc := hD
              refine rw_int (va_runV (As := [.int (nxt (mT σ) (tAt (mT σ))), .int (3 * (tStm (mT σ)))]) (rest := []) ⟨hx, hb, hml, hown, hts⟩ (h_X3_readsAll g ad ((mS σ), ((tTape (mT σ)), (upd (tLetter (mT σ)) ((tStm (mT σ))).toNatClampNeg (nxt (mT σ) (tAt (mT σ)))), (upd (tLetterAt (mT σ)) ((tStm (mT σ))).toNatClampNeg (tAt (mT σ))), (tTold (mT σ)), (tTaped (mT σ)), ((tAt (mT σ)) + 1), (tStm (mT σ))), (mK σ), (mF σ), (mRow σ), (mRowMany σ), (mLots σ), (mRefused σ)) (nxt (mT σ) (tAt (mT σ))) (3 * (tStm (mT σ))) h8) (cwV 2 hts gX3_statement_X3_readsAll rfl rfl rfl (by decide +kernel) ⟨Nat.le_of_ble_eq_true rfl, Nat.le_of_ble_eq_true rfl⟩) ⟨RW_blind, va_recv hK hP (ci := 3) (q0 := 0) rfl rfl, fun U hU hW => ⟨rfl, by rw [hU]; exact hPc, va_K.moved hW.alike hK, hE.call hW hU hS (fun _ h => h), hDc⟩⟩ rfl rfl hl.1 rfl (lv_room (Nat.le_of_ble_eq_true rfl)) dX3_statement_84 ⟨Nat.le_of_ble_eq_true rfl, Nat.le_of_ble_eq_true rfl⟩) hS (fun _ h => h) (fun r u H1 locs hw hP1 hk hS => ?_)
              obtain ⟨hw1, hw⟩ := hw; subst r; subst u
              have hP := hP1
              generalize H1 = H at hP hS ⊢
              have hP : va_P (gD g) vwCl (wM g ad ((mS σ), ((rdAll ((tTape (mT σ)), (upd (tLetter (mT σ)) ((tStm (mT σ))).toNatClampNeg (nxt (mT σ) (tAt (mT σ)))), (upd (tLetterAt (mT σ)) ((tStm (mT σ))).toNatClampNeg (tAt (mT σ))), (tTold (mT σ)), (tTaped (mT σ)), ((tAt (mT σ)) + 1), (tStm (mT σ))) (nxt (mT σ) (tAt (mT σ))) (3 * (tStm (mT σ)))).2), (mK σ), (mF σ), (mRow σ), (mRowMany σ), (mLots σ), (mRefused σ))) H := hP
              have hD : va_D (AD ad 0 21) (wM g ad ((mS σ), ((rdAll ((tTape (mT σ)), (upd (tLetter (mT σ)) ((tStm (mT σ))).toNatClampNeg (nxt (mT σ) (tAt (mT σ)))), (upd (tLetterAt (mT σ)) ((tStm (mT σ))).toNatClampNeg (tAt (mT σ))), (tTold (mT σ)), (tTaped (mT σ)), ((tAt (mT σ)) + 1), (tStm (mT σ))) (nxt (mT σ) (tAt (mT σ))) (3 * (tStm (mT σ)))).2), (mK σ), (mF σ), (mRow σ), (mRowMany σ), (mLots σ), (mRefused σ))) := hD.addr (by rfl)
              refine lv_if_eq (tgt := 99) hx hb dX3_statement_87 (by decide) (fun c87 => ?_) (fun c87 => ?_)
              · have hv := hv.1 c87
                refine lv_iconst (v := 0) hx hb dX3_statement_99 (by decide) ?_
                exact W.zret (v := 0) hx hb hr rfl (fun t ht hW => ⟨⟨0, ((mS σ), ((rdAll ((tTape (mT σ)), (upd (tLetter (mT σ)) ((tStm (mT σ))).toNatClampNeg (nxt (mT σ) (tAt (mT σ)))), (upd (tLetterAt (mT σ)) ((tStm (mT σ))).toNatClampNeg (tAt (mT σ))), (tTold (mT σ)), (tTaped (mT σ)), ((tAt (mT σ)) + 1), (tStm (mT σ))) (nxt (mT σ) (tAt (mT σ))) (3 * (tStm (mT σ)))).2), (mK σ), (mF σ), (mRow σ), (mRowMany σ), (mLots σ), (mRefused σ)), rfl, hv, P_at ht hP⟩, hS.F ht⟩) hS.2.2 dX3_statement_100
              · have hv := hv.2 c87
                refine lv_aload_n hx hb dX3_statement_90 rfl (lv_at hl 1 rfl) ?_
                have h8 := hv.1
                have hv := hv.2
                have hPc := hP
                refine ro_int (va_runV (As := []) (rest := []) ⟨hx, hb, hml, hown, hts⟩ (h_X3_next g ad ((mS σ), ((rdAll ((tTape (mT σ)), (upd (tLetter (mT σ)) ((tStm (mT σ))).toNatClampNeg (nxt (mT σ) (tAt (mT σ)))), (upd (tLetterAt (mT σ)) ((tStm (mT σ))).toNatClampNeg (tAt (mT σ))), (tTold (mT σ)), (tTaped (mT σ)), ((tAt (mT σ)) + 1), (tStm (mT σ))) (nxt (mT σ) (tAt (mT σ))) (3 * (tStm (mT σ)))).2), (mK σ), (mF σ), (mRow σ), (mRowMany σ), (mLots σ), (mRefused σ)) h8) (cwV 0 hts gX3_statement_X3_next rfl rfl rfl (by decide +kernel) ⟨Nat.le_of_ble_eq_true rfl, Nat.le_of_ble_eq_true rfl⟩) ⟨RO_blind, va_recv hK hP (ci := 3) (q0 := 0) rfl rfl, fun U hU hW => ⟨rfl, by rw [hU]; exact hPc, va_K.moved hW.alike hK, hE.call hW hU hS (fun _ h => h.elim)⟩⟩ rfl rfl hl.1 rfl (lv_room (Nat.le_of_ble_eq_true rfl)) dX3_statement_91 ⟨Nat.le_of_ble_eq_true rfl, Nat.le_of_ble_eq_true rfl⟩) hS hP (fun r H locs hw hP hS => ?_)
                subst r
                refine lv_bipush (v := 59) hx hb dX3_statement_94 (by decide) ?_
                refine lv_icmp_eq (tgt := 101) hx hb dX3_statement_96 (by decide) (fun c96 => ?_) (fun c96 => ?_)
                · have hv := hv.1 c96
                  refine lv_aload_n hx hb dX3_statement_101 rfl (lv_at hl 1 rfl) ?_
                  refine lv_dup hx hb dX3_statement_102 rfl ?_
                  refine va_get (D := gD g) (ci := 3) (v := .int (tAt ((rdAll ((tTape (mT σ)), (upd (tLetter (mT σ)) ((tStm (mT σ))).toNatClampNeg (nxt (mT σ) (tAt (mT σ)))), (upd (tLetterAt (mT σ)) ((tStm (mT σ))).toNatClampNeg (tAt (mT σ))), (tTold (mT σ)), (tTaped (mT σ)), ((tAt (mT σ)) + 1), (tStm (mT σ))) (nxt (mT σ) (tAt (mT σ))) (3 * (tStm (mT σ)))).2))) (C := RX3) (T := TX3) (N := 33) hx hb hts hi3 hown hK hP 0 rfl rfl 21 (by decide) k3 (fun _ h9 => h9) rfl dX3_statement_103 ?_
                  refine lv_iconst (v := 1) hx hb dX3_statement_106 (by decide) ?_
                  refine lv_iadd hx hb dX3_statement_107 ?_
                  refine va_put (D := gD g) (ci := 3) (v := .int ((tAt ((rdAll ((tTape (mT σ)), (upd (tLetter (mT σ)) ((tStm (mT σ))).toNatClampNeg (nxt (mT σ) (tAt (mT σ)))), (upd (tLetterAt (mT σ)) ((tStm (mT σ))).toNatClampNeg (tAt (mT σ))), (tTold (mT σ)), (tTaped (mT σ)), ((tAt (mT σ)) + 1), (tStm (mT σ))) (nxt (mT σ) (tAt (mT σ))) (3 * (tStm (mT σ)))).2)) + 1)) (ty := .int) (C := RX3) (T := TX3) (N := 33) hx hb hts hi3 tyX3 tyX3_ok nmX3 hown hK hP hD hS 0 rfl rfl 21 (by decide) k3 (fun _ h9 => h9) rfl (by decide +kernel) rfl rfl (Nat.le_of_ble_eq_true rfl) dX3_statement_108 (fun H locs hP hD hS => ?_)
                  have hP : va_P (gD g) vwCl (wM g ad ((mS σ), ((tTape ((rdAll ((tTape (mT σ)), (upd (tLetter (mT σ)) ((tStm (mT σ))).toNatClampNeg (nxt (mT σ) (tAt (mT σ)))), (upd (tLetterAt (mT σ)) ((tStm (mT σ))).toNatClampNeg (tAt (mT σ))), (tTold (mT σ)), (tTaped (mT σ)), ((tAt (mT σ)) + 1), (tStm (mT σ))) (nxt (mT σ) (tAt (mT σ))) (3 * (tStm (mT σ)))).2)), (tLetter ((rdAll ((tTape (mT σ)), (upd (tLetter (mT σ)) ((tStm (mT σ))).toNatClampNeg (nxt (mT σ) (tAt (mT σ)))), (upd (tLetterAt (mT σ)) ((tStm (mT σ))).toNatClampNeg (tAt (mT σ))), (tTold (mT σ)), (tTaped (mT σ)), ((tAt (mT σ)) + 1), (tStm (mT σ))) (nxt (mT σ) (tAt (mT σ))) (3 * (tStm (mT σ)))).2)), (tLetterAt ((rdAll ((tTape (mT σ)), (upd (tLetter (mT σ)) ((tStm (mT σ))).toNatClampNeg (nxt (mT σ) (tAt (mT σ)))), (upd (tLetterAt (mT σ)) ((tStm (mT σ))).toNatClampNeg (tAt (mT σ))), (tTold (mT σ)), (tTaped (mT σ)), ((tAt (mT σ)) + 1), (tStm (mT σ))) (nxt (mT σ) (tAt (mT σ))) (3 * (tStm (mT σ)))).2)), (tTold ((rdAll ((tTape (mT σ)), (upd (tLetter (mT σ)) ((tStm (mT σ))).toNatClampNeg (nxt (mT σ) (tAt (mT σ)))), (upd (tLetterAt (mT σ)) ((tStm (mT σ))).toNatClampNeg (tAt (mT σ))), (tTold (mT σ)), (tTaped (mT σ)), ((tAt (mT σ)) + 1), (tStm (mT σ))) (nxt (mT σ) (tAt (mT σ))) (3 * (tStm (mT σ)))).2)), (tTaped ((rdAll ((tTape (mT σ)), (upd (tLetter (mT σ)) ((tStm (mT σ))).toNatClampNeg (nxt (mT σ) (tAt (mT σ)))), (upd (tLetterAt (mT σ)) ((tStm (mT σ))).toNatClampNeg (tAt (mT σ))), (tTold (mT σ)), (tTaped (mT σ)), ((tAt (mT σ)) + 1), (tStm (mT σ))) (nxt (mT σ) (tAt (mT σ))) (3 * (tStm (mT σ)))).2)), ((tAt ((rdAll ((tTape (mT σ)), (upd (tLetter (mT σ)) ((tStm (mT σ))).toNatClampNeg (nxt (mT σ) (tAt (mT σ)))), (upd (tLetterAt (mT σ)) ((tStm (mT σ))).toNatClampNeg (tAt (mT σ))), (tTold (mT σ)), (tTaped (mT σ)), ((tAt (mT σ)) + 1), (tStm (mT σ))) (nxt (mT σ) (tAt (mT σ))) (3 * (tStm (mT σ)))).2)) + 1), (tStm ((rdAll ((tTape (mT σ)), (upd (tLetter (mT σ)) ((tStm (mT σ))).toNatClampNeg (nxt (mT σ) (tAt (mT σ)))), (upd (tLetterAt (mT σ)) ((tStm (mT σ))).toNatClampNeg (tAt (mT σ))), (tTold (mT σ)), (tTaped (mT σ)), ((tAt (mT σ)) + 1), (tStm (mT σ))) (nxt (mT σ) (tAt (mT σ))) (3 * (tStm (mT σ)))).2))), (mK σ), (mF σ), (mRow σ), (mRowMany σ), (mLots σ), (mRefused σ))) H := hP
                  have hD : va_D (AD ad 0 21) (wM g ad ((mS σ), ((tTape ((rdAll ((tTape (mT σ)), (upd (tLetter (mT σ)) ((tStm (mT σ))).toNatClampNeg (nxt (mT σ) (tAt (mT σ)))), (upd (tLetterAt (mT σ)) ((tStm (mT σ))).toNatClampNeg (tAt (mT σ))), (tTold (mT σ)), (tTaped (mT σ)), ((tAt (mT σ)) + 1), (tStm (mT σ))) (nxt (mT σ) (tAt (mT σ))) (3 * (tStm (mT σ)))).2)), (tLetter ((rdAll ((tTape (mT σ)), (upd (tLetter (mT σ)) ((tStm (mT σ))).toNatClampNeg (nxt (mT σ) (tAt (mT σ)))), (upd (tLetterAt (mT σ)) ((tStm (mT σ))).toNatClampNeg (tAt (mT σ))), (tTold (mT σ)), (tTaped (mT σ)), ((tAt (mT σ)) + 1), (tStm (mT σ))) (nxt (mT σ) (tAt (mT σ))) (3 * (tStm (mT σ)))).2)), (tLetterAt ((rdAll ((tTape (mT σ)), (upd (tLetter (mT σ)) ((tStm (mT σ))).toNatClampNeg (nxt (mT σ) (tAt (mT σ)))), (upd (tLetterAt (mT σ)) ((tStm (mT σ))).toNatClampNeg (tAt (mT σ))), (tTold (mT σ)), (tTaped (mT σ)), ((tAt (mT σ)) + 1), (tStm (mT σ))) (nxt (mT σ) (tAt (mT σ))) (3 * (tStm (mT σ)))).2)), (tTold ((rdAll ((tTape (mT σ)), (upd (tLetter (mT σ)) ((tStm (mT σ))).toNatClampNeg (nxt (mT σ) (tAt (mT σ)))), (upd (tLetterAt (mT σ)) ((tStm (mT σ))).toNatClampNeg (tAt (mT σ))), (tTold (mT σ)), (tTaped (mT σ)), ((tAt (mT σ)) + 1), (tStm (mT σ))) (nxt (mT σ) (tAt (mT σ))) (3 * (tStm (mT σ)))).2)), (tTaped ((rdAll ((tTape (mT σ)), (upd (tLetter (mT σ)) ((tStm (mT σ))).toNatClampNeg (nxt (mT σ) (tAt (mT σ)))), (upd (tLetterAt (mT σ)) ((tStm (mT σ))).toNatClampNeg (tAt (mT σ))), (tTold (mT σ)), (tTaped (mT σ)), ((tAt (mT σ)) + 1), (tStm (mT σ))) (nxt (mT σ) (tAt (mT σ))) (3 * (tStm (mT σ)))).2)), ((tAt ((rdAll ((tTape (mT σ)), (upd (tLetter (mT σ)) ((tStm (mT σ))).toNatClampNeg (nxt (mT σ) (tAt (mT σ)))), (upd (tLetterAt (mT σ)) ((tStm (mT σ))).toNatClampNeg (tAt (mT σ))), (tTold (mT σ)), (tTaped (mT σ)), ((tAt (mT σ)) + 1), (tStm (mT σ))) (nxt (mT σ) (tAt (mT σ))) (3 * (tStm (mT σ)))).2)) + 1), (tStm ((rdAll ((tTape (mT σ)), (upd (tLetter (mT σ)) ((tStm (mT σ))).toNatClampNeg (nxt (mT σ) (tAt (mT σ)))), (upd (tLetterAt (mT σ)) ((tStm (mT σ))).toNatClampNeg (tAt (mT σ))), (tTold (mT σ)), (tTaped (mT σ)), ((tAt (mT σ)) + 1), (tStm (mT σ))) (nxt (mT σ) (tAt (mT σ))) (3 * (tStm (mT σ)))).2))), (mK σ), (mF σ), (mRow σ), (mRowMany σ), (mLots σ), (mRefused σ))) := hD
                  refine lv_iconst (v := 1) hx hb dX3_statement_111 (by decide) ?_
                  exact W.zret (v := 1) hx hb hr rfl (fun t ht hW => ⟨⟨1, ((mS σ), ((tTape ((rdAll ((tTape (mT σ)), (upd (tLetter (mT σ)) ((tStm (mT σ))).toNatClampNeg (nxt (mT σ) (tAt (mT σ)))), (upd (tLetterAt (mT σ)) ((tStm (mT σ))).toNatClampNeg (tAt (mT σ))), (tTold (mT σ)), (tTaped (mT σ)), ((tAt (mT σ)) + 1), (tStm (mT σ))) (nxt (mT σ) (tAt (mT σ))) (3 * (tStm (mT σ)))).2)), (tLetter ((rdAll ((tTape (mT σ)), (upd (tLetter (mT σ)) ((tStm (mT σ))).toNatClampNeg (nxt (mT σ) (tAt (mT σ)))), (upd (tLetterAt (mT σ)) ((tStm (mT σ))).toNatClampNeg (tAt (mT σ))), (tTold (mT σ)), (tTaped (mT σ)), ((tAt (mT σ)) + 1), (tStm (mT σ))) (nxt (mT σ) (tAt (mT σ))) (3 * (tStm (mT σ)))).2)), (tLetterAt ((rdAll ((tTape (mT σ)), (upd (tLetter (mT σ)) ((tStm (mT σ))).toNatClampNeg (nxt (mT σ) (tAt (mT σ)))), (upd (tLetterAt (mT σ)) ((tStm (mT σ))).toNatClampNeg (tAt (mT σ))), (tTold (mT σ)), (tTaped (mT σ)), ((tAt (mT σ)) + 1), (tStm (mT σ))) (nxt (mT σ) (tAt (mT σ))) (3 * (tStm (mT σ)))).2)), (tTold ((rdAll ((tTape (mT σ)), (upd (tLetter (mT σ)) ((tStm (mT σ))).toNatClampNeg (nxt (mT σ) (tAt (mT σ)))), (upd (tLetterAt (mT σ)) ((tStm (mT σ))).toNatClampNeg (tAt (mT σ))), (tTold (mT σ)), (tTaped (mT σ)), ((tAt (mT σ)) + 1), (tStm (mT σ))) (nxt (mT σ) (tAt (mT σ))) (3 * (tStm (mT σ)))).2)), (tTaped ((rdAll ((tTape (mT σ)), (upd (tLetter (mT σ)) ((tStm (mT σ))).toNatClampNeg (nxt (mT σ) (tAt (mT σ)))), (upd (tLetterAt (mT σ)) ((tStm (mT σ))).toNatClampNeg (tAt (mT σ))), (tTold (mT σ)), (tTaped (mT σ)), ((tAt (mT σ)) + 1), (tStm (mT σ))) (nxt (mT σ) (tAt (mT σ))) (3 * (tStm (mT σ)))).2)), ((tAt ((rdAll ((tTape (mT σ)), (upd (tLetter (mT σ)) ((tStm (mT σ))).toNatClampNeg (nxt (mT σ) (tAt (mT σ)))), (upd (tLetterAt (mT σ)) ((tStm (mT σ))).toNatClampNeg (tAt (mT σ))), (tTold (mT σ)), (tTaped (mT σ)), ((tAt (mT σ)) + 1), (tStm (mT σ))) (nxt (mT σ) (tAt (mT σ))) (3 * (tStm (mT σ)))).2)) + 1), (tStm ((rdAll ((tTape (mT σ)), (upd (tLetter (mT σ)) ((tStm (mT σ))).toNatClampNeg (nxt (mT σ) (tAt (mT σ)))), (upd (tLetterAt (mT σ)) ((tStm (mT σ))).toNatClampNeg (tAt (mT σ))), (tTold (mT σ)), (tTaped (mT σ)), ((tAt (mT σ)) + 1), (tStm (mT σ))) (nxt (mT σ) (tAt (mT σ))) (3 * (tStm (mT σ)))).2))), (mK σ), (mF σ), (mRow σ), (mRowMany σ), (mLots σ), (mRefused σ)), rfl, hv, P_at ht hP⟩, hS.F ht⟩) hS.2.2 dX3_statement_112
                · have hv := hv.2 c96
                  refine lv_iconst (v := 0) hx hb dX3_statement_99 (by decide) ?_
                  exact W.zret (v := 0) hx hb hr rfl (fun t ht hW => ⟨⟨0, ((mS σ), ((rdAll ((tTape (mT σ)), (upd (tLetter (mT σ)) ((tStm (mT σ))).toNatClampNeg (nxt (mT σ) (tAt (mT σ)))), (upd (tLetterAt (mT σ)) ((tStm (mT σ))).toNatClampNeg (tAt (mT σ))), (tTold (mT σ)), (tTaped (mT σ)), ((tAt (mT σ)) + 1), (tStm (mT σ))) (nxt (mT σ) (tAt (mT σ))) (3 * (tStm (mT σ)))).2), (mK σ), (mF σ), (mRow σ), (mRowMany σ), (mLots σ), (mRefused σ)), rfl, hv, P_at ht hP⟩, hS.F ht⟩) hS.2.2 dX3_statement_100
            · have hv := hv.2 c38
              refine lv_iconst (v := 0) hx hb dX3_statement_41 (by decide) ?_
              exact W.zret (v := 0) hx hb hr rfl (fun t ht hW => ⟨⟨0, σ, rfl, hv, P_at ht hP⟩, hS.F ht⟩) hS.2.2 dX3_statement_42

set_option maxHeartbeats 4000000 in
set_option maxRecDepth 100000 in
theorem m_X3_comesQuestion (l : Launch) (h_X3_isFact : C_X3_isFact l) (g : CX) (ad : Nat → Nat) (σ : KM) (p0 : Int32) (Post : Int32 → KM → Prop) (hv : vc_X3_comesQuestion σ p0 Post) : Met l yX3_comesQuestion wsX3_comesQuestion { frames := 1, cells := 0, slots := 0, locals := 20 } (va_Pc [.ref (ad 0), .int p0] (RW g (AD ad 0 21) (wM g ad σ))) (va_Qi (fun (r : Int32) (u : KM) => Post r u) (fun u t => va_P (gD g) vwCl (wM g ad u) t.heap) (AD ad 0 21)) 0 0 (AD ad 0 21) := by
  unfold vc_X3_comesQuestion at hv
  refine Met.ofW (cc := cX3_comesQuestion) (maxL := 2) (ret := (some .boolean)) (by decide) rfl ?_
  intro p e s m args below meth c s₁ B hml hv0
  obtain ⟨rfl, hP, hK, hE, hD⟩ := hv0
  have hx := B.exec
  have hb := B.bytes
  have hr := B.returns
  have hts := atoms_spec (ws := wsX3_comesQuestion) B.pre
  have hown : s.vm.findClass RX3 = some m.cls := findClass_of_methodNamed B.named
  have hlocks := B.notSynchronized
  have hi3 : ∀ w ∈ wsX30, w ∈ wsX3_comesQuestion := by decide +kernel
  have k0 := hts (.fieldLink RX3 52 "JuryHearsAnswersModel" "told" "[I") (by decide +kernel)
  have k1 := hts (.fieldLink RX3 70 "JuryHearsAnswersModel" "questions" "I") (by decide +kernel)
  have k2 := hts (.fieldLink RX3 13 "JuryHearsAnswersModel" "form" "[I") (by decide +kernel)
  have k3 := hts (.fieldLink RX3 16 "JuryHearsAnswersModel" "first" "[I") (by decide +kernel)
  have k4 := hts (.fieldLink RX3 19 "JuryHearsAnswersModel" "second" "[I") (by decide +kernel)
  have hS : va_S (AD ad 0 21) s.heap s.heap [] := va_S.rf
  have hP : va_P (gD g) vwCl (wM g ad σ) s.heap := hP
  have hl := lv_entry ([.ref (ad 0), .int p0]) (n := 2) (Nat.le_of_ble_eq_true rfl)
  rw [lg_entry_eq]
  generalize (lg_sl ([.ref (ad 0), .int p0]) ++ List.replicate (2 - (lg_sl ([.ref (ad 0), .int p0])).length) Slot.unset).toArray = ls at hl ⊢
  have hl : lv_has ls 2 [(0, .ref (ad 0)), (1, .int p0)] := hl
  obtain ⟨H, hH⟩ : ∃ z, z = s.heap := ⟨_, rfl⟩
  obtain ⟨locs, hL⟩ : ∃ z : List Loc, z = [] := ⟨_, rfl⟩
  rw [← hL] at hS ⊢
  have hS : va_S (AD ad 0 21) s.heap H locs := by rw [hH]; exact hS
  rw [← hH] at hP ⊢
  clear hH hL
  refine lv_aload_n hx hb dX3_comesQuestion_0 rfl (lv_at hl 0 rfl) ?_
  refine va_get (D := gD g) (ci := 3) (v := .ref (ad 15)) (C := RX3) (T := TX3) (N := 33) hx hb hts hi3 hown hK hP 0 rfl rfl 19 (by decide) k0 (fun _ h9 => h9) rfl dX3_comesQuestion_1 ?_
  refine lv_iload_n hx hb dX3_comesQuestion_4 rfl (lv_at hl 1 rfl) ?_
  have h9 := hv.1
  have hv := hv.2
  refine va_iald (f := (tTold (mT σ))) (n := 144) hx hb hK hP 15 0 rfl rfl h9 dX3_comesQuestion_5 ?_
  refine lv_iconst (v := 4) hx hb dX3_comesQuestion_6 (by decide) ?_
  refine lv_icmp_gt (tgt := 47) hx hb dX3_comesQuestion_7 (by decide) (fun c7 => ?_) (fun c7 => ?_)
  · have hv := hv.1 c7
    refine lv_iconst (v := 0) hx hb dX3_comesQuestion_47 (by decide) ?_
    exact W.zret (v := 0) hx hb hr rfl (fun t ht hW => ⟨⟨0, σ, rfl, hv, P_at ht hP⟩, hS.F ht⟩) hS.2.2 dX3_comesQuestion_48
  · have hv := hv.2 c7
    refine lv_aload_n hx hb dX3_comesQuestion_10 rfl (lv_at hl 0 rfl) ?_
    refine va_get (D := gD g) (ci := 3) (v := .ref (ad 15)) (C := RX3) (T := TX3) (N := 33) hx hb hts hi3 hown hK hP 0 rfl rfl 19 (by decide) k0 (fun _ h9 => h9) rfl dX3_comesQuestion_11 ?_
    refine lv_iload_n hx hb dX3_comesQuestion_14 rfl (lv_at hl 1 rfl) ?_
    refine lv_iconst (v := 1) hx hb dX3_comesQuestion_15 (by decide) ?_
    refine lv_iadd hx hb dX3_comesQuestion_16 ?_
    have h9 := hv.1
    have hv := hv.2
    refine va_iald (f := (tTold (mT σ))) (n := 144) hx hb hK hP 15 0 rfl rfl h9 dX3_comesQuestion_17 ?_
    have hPc : va_P (gD g) vwCl [] H := fun k q h => by simp at h
    refine ro_int (va_runS (As := [.int ((tTold (mT σ)) ((p0 + 1)).toNatClampNeg)]) (rest := []) ⟨hx, hb, hml, hown, hts⟩ (h_X3_isFact g ((tTold (mT σ)) ((p0 + 1)).toNatClampNeg)) (va_cwS 1 hts gX3_comesQuestion_X3_isFact rfl rfl rfl (by decide +kernel) ⟨Nat.le_of_ble_eq_true rfl, Nat.le_of_ble_eq_true rfl⟩) ⟨RO_blind, fun U hU hW => ⟨rfl, by rw [hU]; exact hPc, va_K.moved hW.alike hK, hE.call hW hU hS (fun _ h => h.elim)⟩⟩ rfl rfl hl.1 rfl (lv_room (Nat.le_of_ble_eq_true rfl)) dX3_comesQuestion_18 ⟨Nat.le_of_ble_eq_true rfl, Nat.le_of_ble_eq_true rfl⟩) hS hP (fun r H locs hw hP hS => ?_)
    subst r
    refine lv_if_eq (tgt := 47) hx hb dX3_comesQuestion_21 (by decide) (fun c21 => ?_) (fun c21 => ?_)
    · have hv := hv.1 c21
      refine lv_iconst (v := 0) hx hb dX3_comesQuestion_47 (by decide) ?_
      exact W.zret (v := 0) hx hb hr rfl (fun t ht hW => ⟨⟨0, σ, rfl, hv, P_at ht hP⟩, hS.F ht⟩) hS.2.2 dX3_comesQuestion_48
    · have hv := hv.2 c21
      refine lv_aload_n hx hb dX3_comesQuestion_24 rfl (lv_at hl 0 rfl) ?_
      refine va_get (D := gD g) (ci := 3) (v := .ref (ad 15)) (C := RX3) (T := TX3) (N := 33) hx hb hts hi3 hown hK hP 0 rfl rfl 19 (by decide) k0 (fun _ h9 => h9) rfl dX3_comesQuestion_25 ?_
      refine lv_iload_n hx hb dX3_comesQuestion_28 rfl (lv_at hl 1 rfl) ?_
      refine lv_iconst (v := 2) hx hb dX3_comesQuestion_29 (by decide) ?_
      refine lv_iadd hx hb dX3_comesQuestion_30 ?_
      have h9 := hv.1
      have hv := hv.2
      refine va_iald (f := (tTold (mT σ))) (n := 144) hx hb hK hP 15 0 rfl rfl h9 dX3_comesQuestion_31 ?_
      have hPc : va_P (gD g) vwCl [] H := fun k q h => by simp at h
      refine ro_int (va_runS (As := [.int ((tTold (mT σ)) ((p0 + 2)).toNatClampNeg)]) (rest := []) ⟨hx, hb, hml, hown, hts⟩ (h_X3_isFact g ((tTold (mT σ)) ((p0 + 2)).toNatClampNeg)) (va_cwS 1 hts gX3_comesQuestion_X3_isFact rfl rfl rfl (by decide +kernel) ⟨Nat.le_of_ble_eq_true rfl, Nat.le_of_ble_eq_true rfl⟩) ⟨RO_blind, fun U hU hW => ⟨rfl, by rw [hU]; exact hPc, va_K.moved hW.alike hK, hE.call hW hU hS (fun _ h => h.elim)⟩⟩ rfl rfl hl.1 rfl (lv_room (Nat.le_of_ble_eq_true rfl)) dX3_comesQuestion_32 ⟨Nat.le_of_ble_eq_true rfl, Nat.le_of_ble_eq_true rfl⟩) hS hP (fun r H locs hw hP hS => ?_)
      subst r
      refine lv_if_eq (tgt := 47) hx hb dX3_comesQuestion_35 (by decide) (fun c35 => ?_) (fun c35 => ?_)
      · have hv := hv.1 c35
        refine lv_iconst (v := 0) hx hb dX3_comesQuestion_47 (by decide) ?_
        exact W.zret (v := 0) hx hb hr rfl (fun t ht hW => ⟨⟨0, σ, rfl, hv, P_at ht hP⟩, hS.F ht⟩) hS.2.2 dX3_comesQuestion_48
      · have hv := hv.2 c35
        refine lv_aload_n hx hb dX3_comesQuestion_38 rfl (lv_at hl 0 rfl) ?_
        refine va_get (D := gD g) (ci := 3) (v := .int (sNq (mS σ))) (C := RX3) (T := TX3) (N := 33) hx hb hts hi3 hown hK hP 0 rfl rfl 12 (by decide) k1 (fun _ h9 => h9) rfl dX3_comesQuestion_39 ?_
        refine lv_bipush (v := 8) hx hb dX3_comesQuestion_42 (by decide) ?_
        refine lv_icmp_ne (tgt := 49) hx hb dX3_comesQuestion_44 (by decide) (fun c44 => ?_) (fun c44 => ?_)
        · have hv := hv.1 c44
          refine lv_aload_n hx hb dX3_comesQuestion_49 rfl (lv_at hl 0 rfl) ?_
          refine va_get (D := gD g) (ci := 3) (v := .ref (ad 2)) (C := RX3) (T := TX3) (N := 33) hx hb hts hi3 hown hK hP 0 rfl rfl 1 (by decide) k2 (fun _ h9 => h9) rfl dX3_comesQuestion_50 ?_
          refine lv_aload_n hx hb dX3_comesQuestion_53 rfl (lv_at hl 0 rfl) ?_
          refine va_get (D := gD g) (ci := 3) (v := .int (sNq (mS σ))) (C := RX3) (T := TX3) (N := 33) hx hb hts hi3 hown hK hP 0 rfl rfl 12 (by decide) k1 (fun _ h9 => h9) rfl dX3_comesQuestion_54 ?_
          refine lv_aload_n hx hb dX3_comesQuestion_57 rfl (lv_at hl 0 rfl) ?_
          refine va_get (D := gD g) (ci := 3) (v := .ref (ad 15)) (C := RX3) (T := TX3) (N := 33) hx hb hts hi3 hown hK hP 0 rfl rfl 19 (by decide) k0 (fun _ h9 => h9) rfl dX3_comesQuestion_58 ?_
          refine lv_iload_n hx hb dX3_comesQuestion_61 rfl (lv_at hl 1 rfl) ?_
          have h9 := hv.1
          have hv := hv.2
          refine va_iald (f := (tTold (mT σ))) (n := 144) hx hb hK hP 15 0 rfl rfl h9 dX3_comesQuestion_62 ?_
          have h9 := hv.1
          have hv := hv.2
          refine va_iast (f := (sForm (mS σ))) (n := 8) hx hb hK hP hD hS 2 0 rfl rfl h9 dX3_comesQuestion_63 (fun H locs hP hD hS => ?_)
          have hP : va_P (gD g) vwCl (wM g ad (((sCase (mS σ)), (sAsked (mS σ)), (sNq (mS σ)), (sNw (mS σ)), (sNh (mS σ)), (upd (sForm (mS σ)) ((sNq (mS σ))).toNatClampNeg ((tTold (mT σ)) (p0).toNatClampNeg)), (sFirst (mS σ)), (sSecond (mS σ)), (sKind (mS σ)), (sFigure (mS σ)), (sKnows (mS σ)), (sWhom (mS σ)), (sWhat (mS σ)), (sSaid (mS σ)), (sWhen (mS σ))), (mT σ), (mK σ), (mF σ), (mRow σ), (mRowMany σ), (mLots σ), (mRefused σ))) H := hP
          have hD : va_D (AD ad 0 21) (wM g ad (((sCase (mS σ)), (sAsked (mS σ)), (sNq (mS σ)), (sNw (mS σ)), (sNh (mS σ)), (upd (sForm (mS σ)) ((sNq (mS σ))).toNatClampNeg ((tTold (mT σ)) (p0).toNatClampNeg)), (sFirst (mS σ)), (sSecond (mS σ)), (sKind (mS σ)), (sFigure (mS σ)), (sKnows (mS σ)), (sWhom (mS σ)), (sWhat (mS σ)), (sSaid (mS σ)), (sWhen (mS σ))), (mT σ), (mK σ), (mF σ), (mRow σ), (mRowMany σ), (mLots σ), (mRefused σ))) := hD
          refine lv_aload_n hx hb dX3_comesQuestion_64 rfl (lv_at hl 0 rfl) ?_
          refine va_get (D := gD g) (ci := 3) (v := .ref (ad 3)) (C := RX3) (T := TX3) (N := 33) hx hb hts hi3 hown hK hP 0 rfl rfl 2 (by decide) k3 (fun _ h9 => h9) rfl dX3_comesQuestion_65 ?_
          refine lv_aload_n hx hb dX3_comesQuestion_68 rfl (lv_at hl 0 rfl) ?_
          refine va_get (D := gD g) (ci := 3) (v := .int (sNq (mS σ))) (C := RX3) (T := TX3) (N := 33) hx hb hts hi3 hown hK hP 0 rfl rfl 12 (by decide) k1 (fun _ h9 => h9) rfl dX3_comesQuestion_69 ?_
          refine lv_aload_n hx hb dX3_comesQuestion_72 rfl (lv_at hl 0 rfl) ?_
          refine va_get (D := gD g) (ci := 3) (v := .ref (ad 15)) (C := RX3) (T := TX3) (N := 33) hx hb hts hi3 hown hK hP 0 rfl rfl 19 (by decide) k0 (fun _ h9 => h9) rfl dX3_comesQuestion_73 ?_
          refine lv_iload_n hx hb dX3_comesQuestion_76 rfl (lv_at hl 1 rfl) ?_
          refine lv_iconst (v := 1) hx hb dX3_comesQuestion_77 (by decide) ?_
          refine lv_iadd hx hb dX3_comesQuestion_78 ?_
          have h9 := hv.1
          have hv := hv.2
          refine va_iald (f := (tTold (mT σ))) (n := 144) hx hb hK hP 15 0 rfl rfl h9 dX3_comesQuestion_79 ?_
          have h9 := hv.1
          have hv := hv.2
          refine va_iast (f := (sFirst (mS σ))) (n := 8) hx hb hK hP hD hS 3 0 rfl rfl h9 dX3_comesQuestion_80 (fun H locs hP hD hS => ?_)
          have hP : va_P (gD g) vwCl (wM g ad (((sCase (mS σ)), (sAsked (mS σ)), (sNq (mS σ)), (sNw (mS σ)), (sNh (mS σ)), (upd (sForm (mS σ)) ((sNq (mS σ))).toNatClampNeg ((tTold (mT σ)) (p0).toNatClampNeg)), (upd (sFirst (mS σ)) ((sNq (mS σ))).toNatClampNeg ((tTold (mT σ)) ((p0 + 1)).toNatClampNeg)), (sSecond (mS σ)), (sKind (mS σ)), (sFigure (mS σ)), (sKnows (mS σ)), (sWhom (mS σ)), (sWhat (mS σ)), (sSaid (mS σ)), (sWhen (mS σ))), (mT σ), (mK σ), (mF σ), (mRow σ), (mRowMany σ), (mLots σ), (mRefused σ))) H := hP
          have hD : va_D (AD ad 0 21) (wM g ad (((sCase (mS σ)), (sAsked (mS σ)), (sNq (mS σ)), (sNw (mS σ)), (sNh (mS σ)), (upd (sForm (mS σ)) ((sNq (mS σ))).toNatClampNeg ((tTold (mT σ)) (p0).toNatClampNeg)), (upd (sFirst (mS σ)) ((sNq (mS σ))).toNatClampNeg ((tTold (mT σ)) ((p0 + 1)).toNatClampNeg)), (sSecond (mS σ)), (sKind (mS σ)), (sFigure (mS σ)), (sKnows (mS σ)), (sWhom (mS σ)), (sWhat (mS σ)), (sSaid (mS σ)), (sWhen (mS σ))), (mT σ), (mK σ), (mF σ), (mRow σ), (mRowMany σ), (mLots σ), (mRefused σ))) := hD
          refine lv_aload_n hx hb dX3_comesQuestion_81 rfl (lv_at hl 0 rfl) ?_
          refine va_get (D := gD g) (ci := 3) (v := .ref (ad 4)) (C := RX3) (T := TX3) (N := 33) hx hb hts hi3 hown hK hP 0 rfl rfl 3 (by decide) k4 (fun _ h9 => h9) rfl dX3_comesQuestion_82 ?_
          refine lv_aload_n hx hb dX3_comesQuestion_85 rfl (lv_at hl 0 rfl) ?_
          refine va_get (D := gD g) (ci := 3) (v := .int (sNq (mS σ))) (C := RX3) (T := TX3) (N := 33) hx hb hts hi3 hown hK hP 0 rfl rfl 12 (by decide) k1 (fun _ h9 => h9) rfl dX3_comesQuestion_86 ?_
          refine lv_aload_n hx hb dX3_comesQuestion_89 rfl (lv_at hl 0 rfl) ?_
          refine va_get (D := gD g) (ci := 3) (v := .ref (ad 15)) (C := RX3) (T := TX3) (N := 33) hx hb hts hi3 hown hK hP 0 rfl rfl 19 (by decide) k0 (fun _ h9 => h9) rfl dX3_comesQuestion_90 ?_
          refine lv_iload_n hx hb dX3_comesQuestion_93 rfl (lv_at hl 1 rfl) ?_
          refine lv_iconst (v := 2) hx hb dX3_comesQuestion_94 (by decide) ?_
          refine lv_iadd hx hb dX3_comesQuestion_95 ?_
          have h9 := hv.1
          have hv := hv.2
          refine va_iald (f := (tTold (mT σ))) (n := 144) hx hb hK hP 15 0 rfl rfl h9 dX3_comesQuestion_96 ?_
          have h9 := hv.1
          have hv := hv.2
          refine va_iast (f := (sSecond (mS σ))) (n := 8) hx hb hK hP hD hS 4 0 rfl rfl h9 dX3_comesQuestion_97 (fun H locs hP hD hS => ?_)
          have hP : va_P (gD g) vwCl (wM g ad (((sCase (mS σ)), (sAsked (mS σ)), (sNq (mS σ)), (sNw (mS σ)), (sNh (mS σ)), (upd (sForm (mS σ)) ((sNq (mS σ))).toNatClampNeg ((tTold (mT σ)) (p0).toNatClampNeg)), (upd (sFirst (mS σ)) ((sNq (mS σ))).toNatClampNeg ((tTold (mT σ)) ((p0 + 1)).toNatClampNeg)), (upd (sSecond (mS σ)) ((sNq (mS σ))).toNatClampNeg ((tTold (mT σ)) ((p0 + 2)).toNatClampNeg)), (sKind (mS σ)), (sFigure (mS σ)), (sKnows (mS σ)), (sWhom (mS σ)), (sWhat (mS σ)), (sSaid (mS σ)), (sWhen (mS σ))), (mT σ), (mK σ), (mF σ), (mRow σ), (mRowMany σ), (mLots σ), (mRefused σ))) H := hP
          have hD : va_D (AD ad 0 21) (wM g ad (((sCase (mS σ)), (sAsked (mS σ)), (sNq (mS σ)), (sNw (mS σ)), (sNh (mS σ)), (upd (sForm (mS σ)) ((sNq (mS σ))).toNatClampNeg ((tTold (mT σ)) (p0).toNatClampNeg)), (upd (sFirst (mS σ)) ((sNq (mS σ))).toNatClampNeg ((tTold (mT σ)) ((p0 + 1)).toNatClampNeg)), (upd (sSecond (mS σ)) ((sNq (mS σ))).toNatClampNeg ((tTold (mT σ)) ((p0 + 2)).toNatClampNeg)), (sKind (mS σ)), (sFigure (mS σ)), (sKnows (mS σ)), (sWhom (mS σ)), (sWhat (mS σ)), (sSaid (mS σ)), (sWhen (mS σ))), (mT σ), (mK σ), (mF σ), (mRow σ), (mRowMany σ), (mLots σ), (mRefused σ))) := hD
          refine lv_aload_n hx hb dX3_comesQuestion_98 rfl (lv_at hl 0 rfl) ?_
          refine lv_dup hx hb dX3_comesQuestion_99 rfl ?_
          refine va_get (D := gD g) (ci := 3) (v := .int (sNq (mS σ))) (C := RX3) (T := TX3) (N := 33) hx hb hts hi3 hown hK hP 0 rfl rfl 12 (by decide) k1 (fun _ h9 => h9) rfl dX3_comesQuestion_100 ?_
          refine lv_iconst (v := 1) hx hb dX3_comesQuestion_103 (by decide) ?_
          refine lv_iadd hx hb dX3_comesQuestion_104 ?_
          refine va_put (D := gD g) (ci := 3) (v := .int ((sNq (mS σ)) + 1)) (ty := .int) (C := RX3) (T := TX3) (N := 33) hx hb hts hi3 tyX3 tyX3_ok nmX3 hown hK hP hD hS 0 rfl rfl 12 (by decide) k1 (fun _ h9 => h9) rfl (by decide +kernel) rfl rfl (Nat.le_of_ble_eq_true rfl) dX3_comesQuestion_105 (fun H locs hP hD hS => ?_)
          have hP : va_P (gD g) vwCl (wM g ad (((sCase (mS σ)), (sAsked (mS σ)), ((sNq (mS σ)) + 1), (sNw (mS σ)), (sNh (mS σ)), (upd (sForm (mS σ)) ((sNq (mS σ))).toNatClampNeg ((tTold (mT σ)) (p0).toNatClampNeg)), (upd (sFirst (mS σ)) ((sNq (mS σ))).toNatClampNeg ((tTold (mT σ)) ((p0 + 1)).toNatClampNeg)), (upd (sSecond (mS σ)) ((sNq (mS σ))).toNatClampNeg ((tTold (mT σ)) ((p0 + 2)).toNatClampNeg)), (sKind (mS σ)), (sFigure (mS σ)), (sKnows (mS σ)), (sWhom (mS σ)), (sWhat (mS σ)), (sSaid (mS σ)), (sWhen (mS σ))), (mT σ), (mK σ), (mF σ), (mRow σ), (mRowMany σ), (mLots σ), (mRefused σ))) H := hP
          have hD : va_D (AD ad 0 21) (wM g ad (((sCase (mS σ)), (sAsked (mS σ)), ((sNq (mS σ)) + 1), (sNw (mS σ)), (sNh (mS σ)), (upd (sForm (mS σ)) ((sNq (mS σ))).toNatClampNeg ((tTold (mT σ)) (p0).toNatClampNeg)), (upd (sFirst (mS σ)) ((sNq (mS σ))).toNatClampNeg ((tTold (mT σ)) ((p0 + 1)).toNatClampNeg)), (upd (sSecond (mS σ)) ((sNq (mS σ))).toNatClampNeg ((tTold (mT σ)) ((p0 + 2)).toNatClampNeg)), (sKind (mS σ)), (sFigure (mS σ)), (sKnows (mS σ)), (sWhom (mS σ)), (sWhat (mS σ)), (sSaid (mS σ)), (sWhen (mS σ))), (mT σ), (mK σ), (mF σ), (mRow σ), (mRowMany σ), (mLots σ), (mRefused σ))) := hD
          refine lv_iconst (v := 1) hx hb dX3_comesQuestion_108 (by decide) ?_
          exact W.zret (v := 1) hx hb hr rfl (fun t ht hW => ⟨⟨1, (((sCase (mS σ)), (sAsked (mS σ)), ((sNq (mS σ)) + 1), (sNw (mS σ)), (sNh (mS σ)), (upd (sForm (mS σ)) ((sNq (mS σ))).toNatClampNeg ((tTold (mT σ)) (p0).toNatClampNeg)), (upd (sFirst (mS σ)) ((sNq (mS σ))).toNatClampNeg ((tTold (mT σ)) ((p0 + 1)).toNatClampNeg)), (upd (sSecond (mS σ)) ((sNq (mS σ))).toNatClampNeg ((tTold (mT σ)) ((p0 + 2)).toNatClampNeg)), (sKind (mS σ)), (sFigure (mS σ)), (sKnows (mS σ)), (sWhom (mS σ)), (sWhat (mS σ)), (sSaid (mS σ)), (sWhen (mS σ))), (mT σ), (mK σ), (mF σ), (mRow σ), (mRowMany σ), (mLots σ), (mRefused σ)), rfl, hv, P_at ht hP⟩, hS.F ht⟩) hS.2.2 dX3_comesQuestion_109
        · have hv := hv.2 c44
          refine lv_iconst (v := 0) hx hb dX3_comesQuestion_47 (by decide) ?_
          exact W.zret (v := 0) hx hb hr rfl (fun t ht hW => ⟨⟨0, σ, rfl, hv, P_at ht hP⟩, hS.F ht⟩) hS.2.2 dX3_comesQuestion_48

set_option maxHeartbeats 4000000 in
set_option maxRecDepth 100000 in
theorem m_X3_comesWitness (l : Launch)  (g : CX) (ad : Nat → Nat) (σ : KM) (p0 : Int32) (Post : Int32 → KM → Prop) (hv : vc_X3_comesWitness σ p0 Post) : Met l yX3_comesWitness wsX3_comesWitness { frames := 0, cells := 0, slots := 0, locals := 0 } (va_Pc [.ref (ad 0), .int p0] (RW g (AD ad 0 21) (wM g ad σ))) (va_Qi (fun (r : Int32) (u : KM) => Post r u) (fun u t => va_P (gD g) vwCl (wM g ad u) t.heap) (AD ad 0 21)) 0 0 (AD ad 0 21) := by
  unfold vc_X3_comesWitness at hv
  refine Met.ofW (cc := cX3_comesWitness) (maxL := 2) (ret := (some .boolean)) (by decide) rfl ?_
  intro p e s m args below meth c s₁ B hml hv0
  obtain ⟨rfl, hP, hK, hE, hD⟩ := hv0
  have hx := B.exec
  have hb := B.bytes
  have hr := B.returns
  have hts := atoms_spec (ws := wsX3_comesWitness) B.pre
  have hown : s.vm.findClass RX3 = some m.cls := findClass_of_methodNamed B.named
  have hlocks := B.notSynchronized
  have hi3 : ∀ w ∈ wsX30, w ∈ wsX3_comesWitness := by decide +kernel
  have k0 := hts (.fieldLink RX3 52 "JuryHearsAnswersModel" "told" "[I") (by decide +kernel)
  have k1 := hts (.fieldLink RX3 76 "JuryHearsAnswersModel" "witnesses" "I") (by decide +kernel)
  have k2 := hts (.fieldLink RX3 22 "JuryHearsAnswersModel" "kind" "[I") (by decide +kernel)
  have k3 := hts (.fieldLink RX3 25 "JuryHearsAnswersModel" "figure" "[I") (by decide +kernel)
  have k4 := hts (.fieldLink RX3 28 "JuryHearsAnswersModel" "knows" "[I") (by decide +kernel)
  have hS : va_S (AD ad 0 21) s.heap s.heap [] := va_S.rf
  have hP : va_P (gD g) vwCl (wM g ad σ) s.heap := hP
  have hl := lv_entry ([.ref (ad 0), .int p0]) (n := 2) (Nat.le_of_ble_eq_true rfl)
  rw [lg_entry_eq]
  generalize (lg_sl ([.ref (ad 0), .int p0]) ++ List.replicate (2 - (lg_sl ([.ref (ad 0), .int p0])).length) Slot.unset).toArray = ls at hl ⊢
  have hl : lv_has ls 2 [(0, .ref (ad 0)), (1, .int p0)] := hl
  obtain ⟨H, hH⟩ : ∃ z, z = s.heap := ⟨_, rfl⟩
  obtain ⟨locs, hL⟩ : ∃ z : List Loc, z = [] := ⟨_, rfl⟩
  rw [← hL] at hS ⊢
  have hS : va_S (AD ad 0 21) s.heap H locs := by rw [hH]; exact hS
  rw [← hH] at hP ⊢
  clear hH hL
  refine lv_aload_n hx hb dX3_comesWitness_0 rfl (lv_at hl 0 rfl) ?_
  refine va_get (D := gD g) (ci := 3) (v := .ref (ad 15)) (C := RX3) (T := TX3) (N := 33) hx hb hts hi3 hown hK hP 0 rfl rfl 19 (by decide) k0 (fun _ h9 => h9) rfl dX3_comesWitness_1 ?_
  refine lv_iload_n hx hb dX3_comesWitness_4 rfl (lv_at hl 1 rfl) ?_
  refine lv_iconst (v := 2) hx hb dX3_comesWitness_5 (by decide) ?_
  refine lv_iadd hx hb dX3_comesWitness_6 ?_
  have h9 := hv.1
  have hv := hv.2
  refine va_iald (f := (tTold (mT σ))) (n := 144) hx hb hK hP 15 0 rfl rfl h9 dX3_comesWitness_7 ?_
  refine lv_bipush (v := 64) hx hb dX3_comesWitness_8 (by decide) ?_
  refine lv_icmp_ge (tgt := 21) hx hb dX3_comesWitness_10 (by decide) (fun c10 => ?_) (fun c10 => ?_)
  · have hv := hv.1 c10
    refine lv_iconst (v := 0) hx hb dX3_comesWitness_21 (by decide) ?_
    exact W.zret (v := 0) hx hb hr rfl (fun t ht hW => ⟨⟨0, σ, rfl, hv, P_at ht hP⟩, hS.F ht⟩) hS.2.2 dX3_comesWitness_22
  · have hv := hv.2 c10
    refine lv_aload_n hx hb dX3_comesWitness_13 rfl (lv_at hl 0 rfl) ?_
    refine va_get (D := gD g) (ci := 3) (v := .int (sNw (mS σ))) (C := RX3) (T := TX3) (N := 33) hx hb hts hi3 hown hK hP 0 rfl rfl 13 (by decide) k1 (fun _ h9 => h9) rfl dX3_comesWitness_14 ?_
    refine lv_iconst (v := 5) hx hb dX3_comesWitness_17 (by decide) ?_
    refine lv_icmp_ne (tgt := 23) hx hb dX3_comesWitness_18 (by decide) (fun c18 => ?_) (fun c18 => ?_)
    · have hv := hv.1 c18
      refine lv_aload_n hx hb dX3_comesWitness_23 rfl (lv_at hl 0 rfl) ?_
      refine va_get (D := gD g) (ci := 3) (v := .ref (ad 5)) (C := RX3) (T := TX3) (N := 33) hx hb hts hi3 hown hK hP 0 rfl rfl 4 (by decide) k2 (fun _ h9 => h9) rfl dX3_comesWitness_24 ?_
      refine lv_aload_n hx hb dX3_comesWitness_27 rfl (lv_at hl 0 rfl) ?_
      refine va_get (D := gD g) (ci := 3) (v := .int (sNw (mS σ))) (C := RX3) (T := TX3) (N := 33) hx hb hts hi3 hown hK hP 0 rfl rfl 13 (by decide) k1 (fun _ h9 => h9) rfl dX3_comesWitness_28 ?_
      refine lv_aload_n hx hb dX3_comesWitness_31 rfl (lv_at hl 0 rfl) ?_
      refine va_get (D := gD g) (ci := 3) (v := .ref (ad 15)) (C := RX3) (T := TX3) (N := 33) hx hb hts hi3 hown hK hP 0 rfl rfl 19 (by decide) k0 (fun _ h9 => h9) rfl dX3_comesWitness_32 ?_
      refine lv_iload_n hx hb dX3_comesWitness_35 rfl (lv_at hl 1 rfl) ?_
      have h9 := hv.1
      have hv := hv.2
      refine va_iald (f := (tTold (mT σ))) (n := 144) hx hb hK hP 15 0 rfl rfl h9 dX3_comesWitness_36 ?_
      have h9 := hv.1
      have hv := hv.2
      refine va_iast (f := (sKind (mS σ))) (n := 5) hx hb hK hP hD hS 5 0 rfl rfl h9 dX3_comesWitness_37 (fun H locs hP hD hS => ?_)
      have hP : va_P (gD g) vwCl (wM g ad (((sCase (mS σ)), (sAsked (mS σ)), (sNq (mS σ)), (sNw (mS σ)), (sNh (mS σ)), (sForm (mS σ)), (sFirst (mS σ)), (sSecond (mS σ)), (upd (sKind (mS σ)) ((sNw (mS σ))).toNatClampNeg ((tTold (mT σ)) (p0).toNatClampNeg)), (sFigure (mS σ)), (sKnows (mS σ)), (sWhom (mS σ)), (sWhat (mS σ)), (sSaid (mS σ)), (sWhen (mS σ))), (mT σ), (mK σ), (mF σ), (mRow σ), (mRowMany σ), (mLots σ), (mRefused σ))) H := hP
      have hD : va_D (AD ad 0 21) (wM g ad (((sCase (mS σ)), (sAsked (mS σ)), (sNq (mS σ)), (sNw (mS σ)), (sNh (mS σ)), (sForm (mS σ)), (sFirst (mS σ)), (sSecond (mS σ)), (upd (sKind (mS σ)) ((sNw (mS σ))).toNatClampNeg ((tTold (mT σ)) (p0).toNatClampNeg)), (sFigure (mS σ)), (sKnows (mS σ)), (sWhom (mS σ)), (sWhat (mS σ)), (sSaid (mS σ)), (sWhen (mS σ))), (mT σ), (mK σ), (mF σ), (mRow σ), (mRowMany σ), (mLots σ), (mRefused σ))) := hD
      refine lv_aload_n hx hb dX3_comesWitness_38 rfl (lv_at hl 0 rfl) ?_
      refine va_get (D := gD g) (ci := 3) (v := .ref (ad 6)) (C := RX3) (T := TX3) (N := 33) hx hb hts hi3 hown hK hP 0 rfl rfl 5 (by decide) k3 (fun _ h9 => h9) rfl dX3_comesWitness_39 ?_
      refine lv_aload_n hx hb dX3_comesWitness_42 rfl (lv_at hl 0 rfl) ?_
      refine va_get (D := gD g) (ci := 3) (v := .int (sNw (mS σ))) (C := RX3) (T := TX3) (N := 33) hx hb hts hi3 hown hK hP 0 rfl rfl 13 (by decide) k1 (fun _ h9 => h9) rfl dX3_comesWitness_43 ?_
      refine lv_aload_n hx hb dX3_comesWitness_46 rfl (lv_at hl 0 rfl) ?_
      refine va_get (D := gD g) (ci := 3) (v := .ref (ad 15)) (C := RX3) (T := TX3) (N := 33) hx hb hts hi3 hown hK hP 0 rfl rfl 19 (by decide) k0 (fun _ h9 => h9) rfl dX3_comesWitness_47 ?_
      refine lv_iload_n hx hb dX3_comesWitness_50 rfl (lv_at hl 1 rfl) ?_
      refine lv_iconst (v := 1) hx hb dX3_comesWitness_51 (by decide) ?_
      refine lv_iadd hx hb dX3_comesWitness_52 ?_
      have h9 := hv.1
      have hv := hv.2
      refine va_iald (f := (tTold (mT σ))) (n := 144) hx hb hK hP 15 0 rfl rfl h9 dX3_comesWitness_53 ?_
      have h9 := hv.1
      have hv := hv.2
      refine va_iast (f := (sFigure (mS σ))) (n := 5) hx hb hK hP hD hS 6 0 rfl rfl h9 dX3_comesWitness_54 (fun H locs hP hD hS => ?_)
      have hP : va_P (gD g) vwCl (wM g ad (((sCase (mS σ)), (sAsked (mS σ)), (sNq (mS σ)), (sNw (mS σ)), (sNh (mS σ)), (sForm (mS σ)), (sFirst (mS σ)), (sSecond (mS σ)), (upd (sKind (mS σ)) ((sNw (mS σ))).toNatClampNeg ((tTold (mT σ)) (p0).toNatClampNeg)), (upd (sFigure (mS σ)) ((sNw (mS σ))).toNatClampNeg ((tTold (mT σ)) ((p0 + 1)).toNatClampNeg)), (sKnows (mS σ)), (sWhom (mS σ)), (sWhat (mS σ)), (sSaid (mS σ)), (sWhen (mS σ))), (mT σ), (mK σ), (mF σ), (mRow σ), (mRowMany σ), (mLots σ), (mRefused σ))) H := hP
      have hD : va_D (AD ad 0 21) (wM g ad (((sCase (mS σ)), (sAsked (mS σ)), (sNq (mS σ)), (sNw (mS σ)), (sNh (mS σ)), (sForm (mS σ)), (sFirst (mS σ)), (sSecond (mS σ)), (upd (sKind (mS σ)) ((sNw (mS σ))).toNatClampNeg ((tTold (mT σ)) (p0).toNatClampNeg)), (upd (sFigure (mS σ)) ((sNw (mS σ))).toNatClampNeg ((tTold (mT σ)) ((p0 + 1)).toNatClampNeg)), (sKnows (mS σ)), (sWhom (mS σ)), (sWhat (mS σ)), (sSaid (mS σ)), (sWhen (mS σ))), (mT σ), (mK σ), (mF σ), (mRow σ), (mRowMany σ), (mLots σ), (mRefused σ))) := hD
      refine lv_aload_n hx hb dX3_comesWitness_55 rfl (lv_at hl 0 rfl) ?_
      refine va_get (D := gD g) (ci := 3) (v := .ref (ad 7)) (C := RX3) (T := TX3) (N := 33) hx hb hts hi3 hown hK hP 0 rfl rfl 6 (by decide) k4 (fun _ h9 => h9) rfl dX3_comesWitness_56 ?_
      refine lv_aload_n hx hb dX3_comesWitness_59 rfl (lv_at hl 0 rfl) ?_
      refine va_get (D := gD g) (ci := 3) (v := .int (sNw (mS σ))) (C := RX3) (T := TX3) (N := 33) hx hb hts hi3 hown hK hP 0 rfl rfl 13 (by decide) k1 (fun _ h9 => h9) rfl dX3_comesWitness_60 ?_
      refine lv_aload_n hx hb dX3_comesWitness_63 rfl (lv_at hl 0 rfl) ?_
      refine va_get (D := gD g) (ci := 3) (v := .ref (ad 15)) (C := RX3) (T := TX3) (N := 33) hx hb hts hi3 hown hK hP 0 rfl rfl 19 (by decide) k0 (fun _ h9 => h9) rfl dX3_comesWitness_64 ?_
      refine lv_iload_n hx hb dX3_comesWitness_67 rfl (lv_at hl 1 rfl) ?_
      refine lv_iconst (v := 2) hx hb dX3_comesWitness_68 (by decide) ?_
      refine lv_iadd hx hb dX3_comesWitness_69 ?_
      have h9 := hv.1
      have hv := hv.2
      refine va_iald (f := (tTold (mT σ))) (n := 144) hx hb hK hP 15 0 rfl rfl h9 dX3_comesWitness_70 ?_
      have h9 := hv.1
      have hv := hv.2
      refine va_iast (f := (sKnows (mS σ))) (n := 5) hx hb hK hP hD hS 7 0 rfl rfl h9 dX3_comesWitness_71 (fun H locs hP hD hS => ?_)
      have hP : va_P (gD g) vwCl (wM g ad (((sCase (mS σ)), (sAsked (mS σ)), (sNq (mS σ)), (sNw (mS σ)), (sNh (mS σ)), (sForm (mS σ)), (sFirst (mS σ)), (sSecond (mS σ)), (upd (sKind (mS σ)) ((sNw (mS σ))).toNatClampNeg ((tTold (mT σ)) (p0).toNatClampNeg)), (upd (sFigure (mS σ)) ((sNw (mS σ))).toNatClampNeg ((tTold (mT σ)) ((p0 + 1)).toNatClampNeg)), (upd (sKnows (mS σ)) ((sNw (mS σ))).toNatClampNeg ((tTold (mT σ)) ((p0 + 2)).toNatClampNeg)), (sWhom (mS σ)), (sWhat (mS σ)), (sSaid (mS σ)), (sWhen (mS σ))), (mT σ), (mK σ), (mF σ), (mRow σ), (mRowMany σ), (mLots σ), (mRefused σ))) H := hP
      have hD : va_D (AD ad 0 21) (wM g ad (((sCase (mS σ)), (sAsked (mS σ)), (sNq (mS σ)), (sNw (mS σ)), (sNh (mS σ)), (sForm (mS σ)), (sFirst (mS σ)), (sSecond (mS σ)), (upd (sKind (mS σ)) ((sNw (mS σ))).toNatClampNeg ((tTold (mT σ)) (p0).toNatClampNeg)), (upd (sFigure (mS σ)) ((sNw (mS σ))).toNatClampNeg ((tTold (mT σ)) ((p0 + 1)).toNatClampNeg)), (upd (sKnows (mS σ)) ((sNw (mS σ))).toNatClampNeg ((tTold (mT σ)) ((p0 + 2)).toNatClampNeg)), (sWhom (mS σ)), (sWhat (mS σ)), (sSaid (mS σ)), (sWhen (mS σ))), (mT σ), (mK σ), (mF σ), (mRow σ), (mRowMany σ), (mLots σ), (mRefused σ))) := hD
      refine lv_aload_n hx hb dX3_comesWitness_72 rfl (lv_at hl 0 rfl) ?_
      refine lv_dup hx hb dX3_comesWitness_73 rfl ?_
      refine va_get (D := gD g) (ci := 3) (v := .int (sNw (mS σ))) (C := RX3) (T := TX3) (N := 33) hx hb hts hi3 hown hK hP 0 rfl rfl 13 (by decide) k1 (fun _ h9 => h9) rfl dX3_comesWitness_74 ?_
      refine lv_iconst (v := 1) hx hb dX3_comesWitness_77 (by decide) ?_
      refine lv_iadd hx hb dX3_comesWitness_78 ?_
      refine va_put (D := gD g) (ci := 3) (v := .int ((sNw (mS σ)) + 1)) (ty := .int) (C := RX3) (T := TX3) (N := 33) hx hb hts hi3 tyX3 tyX3_ok nmX3 hown hK hP hD hS 0 rfl rfl 13 (by decide) k1 (fun _ h9 => h9) rfl (by decide +kernel) rfl rfl (Nat.le_of_ble_eq_true rfl) dX3_comesWitness_79 (fun H locs hP hD hS => ?_)
      have hP : va_P (gD g) vwCl (wM g ad (((sCase (mS σ)), (sAsked (mS σ)), (sNq (mS σ)), ((sNw (mS σ)) + 1), (sNh (mS σ)), (sForm (mS σ)), (sFirst (mS σ)), (sSecond (mS σ)), (upd (sKind (mS σ)) ((sNw (mS σ))).toNatClampNeg ((tTold (mT σ)) (p0).toNatClampNeg)), (upd (sFigure (mS σ)) ((sNw (mS σ))).toNatClampNeg ((tTold (mT σ)) ((p0 + 1)).toNatClampNeg)), (upd (sKnows (mS σ)) ((sNw (mS σ))).toNatClampNeg ((tTold (mT σ)) ((p0 + 2)).toNatClampNeg)), (sWhom (mS σ)), (sWhat (mS σ)), (sSaid (mS σ)), (sWhen (mS σ))), (mT σ), (mK σ), (mF σ), (mRow σ), (mRowMany σ), (mLots σ), (mRefused σ))) H := hP
      have hD : va_D (AD ad 0 21) (wM g ad (((sCase (mS σ)), (sAsked (mS σ)), (sNq (mS σ)), ((sNw (mS σ)) + 1), (sNh (mS σ)), (sForm (mS σ)), (sFirst (mS σ)), (sSecond (mS σ)), (upd (sKind (mS σ)) ((sNw (mS σ))).toNatClampNeg ((tTold (mT σ)) (p0).toNatClampNeg)), (upd (sFigure (mS σ)) ((sNw (mS σ))).toNatClampNeg ((tTold (mT σ)) ((p0 + 1)).toNatClampNeg)), (upd (sKnows (mS σ)) ((sNw (mS σ))).toNatClampNeg ((tTold (mT σ)) ((p0 + 2)).toNatClampNeg)), (sWhom (mS σ)), (sWhat (mS σ)), (sSaid (mS σ)), (sWhen (mS σ))), (mT σ), (mK σ), (mF σ), (mRow σ), (mRowMany σ), (mLots σ), (mRefused σ))) := hD
      refine lv_iconst (v := 1) hx hb dX3_comesWitness_82 (by decide) ?_
      exact W.zret (v := 1) hx hb hr rfl (fun t ht hW => ⟨⟨1, (((sCase (mS σ)), (sAsked (mS σ)), (sNq (mS σ)), ((sNw (mS σ)) + 1), (sNh (mS σ)), (sForm (mS σ)), (sFirst (mS σ)), (sSecond (mS σ)), (upd (sKind (mS σ)) ((sNw (mS σ))).toNatClampNeg ((tTold (mT σ)) (p0).toNatClampNeg)), (upd (sFigure (mS σ)) ((sNw (mS σ))).toNatClampNeg ((tTold (mT σ)) ((p0 + 1)).toNatClampNeg)), (upd (sKnows (mS σ)) ((sNw (mS σ))).toNatClampNeg ((tTold (mT σ)) ((p0 + 2)).toNatClampNeg)), (sWhom (mS σ)), (sWhat (mS σ)), (sSaid (mS σ)), (sWhen (mS σ))), (mT σ), (mK σ), (mF σ), (mRow σ), (mRowMany σ), (mLots σ), (mRefused σ)), rfl, hv, P_at ht hP⟩, hS.F ht⟩) hS.2.2 dX3_comesWitness_83
    · have hv := hv.2 c18
      refine lv_iconst (v := 0) hx hb dX3_comesWitness_21 (by decide) ?_
      exact W.zret (v := 0) hx hb hr rfl (fun t ht hW => ⟨⟨0, σ, rfl, hv, P_at ht hP⟩, hS.F ht⟩) hS.2.2 dX3_comesWitness_22

set_option maxHeartbeats 4000000 in
set_option maxRecDepth 100000 in
theorem m_X3_comesAsking (l : Launch) (h_X3_asksOne : C_X3_asksOne l) (h_X3_isQuestion : C_X3_isQuestion l) (h_X3_isWitness : C_X3_isWitness l) (g : CX) (ad : Nat → Nat) (σ : KM) (p0 : Int32) (p1 : Int32) (Post : Int32 → KM → Prop) (hv : vc_X3_comesAsking σ p0 p1 Post) : Met l yX3_comesAsking wsX3_comesAsking { frames := 5, cells := 0, slots := 0, locals := 116 } (va_Pc [.ref (ad 0), .int p0, .int p1] (RW g (AD ad 0 21) (wM g ad σ))) (va_Qi (fun (r : Int32) (u : KM) => Post r u) (fun u t => va_P (gD g) vwCl (wM g ad u) t.heap) (AD ad 0 21)) 0 0 (AD ad 0 21) := by
  unfold vc_X3_comesAsking at hv
  refine Met.ofW (cc := cX3_comesAsking) (maxL := 3) (ret := (some .boolean)) (by decide) rfl ?_
  intro p e s m args below meth c s₁ B hml hv0
  obtain ⟨rfl, hP, hK, hE, hD⟩ := hv0
  have hx := B.exec
  have hb := B.bytes
  have hr := B.returns
  have hts := atoms_spec (ws := wsX3_comesAsking) B.pre
  have hown : s.vm.findClass RX3 = some m.cls := findClass_of_methodNamed B.named
  have hlocks := B.notSynchronized
  have hi3 : ∀ w ∈ wsX30, w ∈ wsX3_comesAsking := by decide +kernel
  have k0 := hts (.fieldLink RX3 127 "JuryHearsAnswersModel" "asked" "I") (by decide +kernel)
  have hS : va_S (AD ad 0 21) s.heap s.heap [] := va_S.rf
  have hP : va_P (gD g) vwCl (wM g ad σ) s.heap := hP
  have hl := lv_entry ([.ref (ad 0), .int p0, .int p1]) (n := 3) (Nat.le_of_ble_eq_true rfl)
  rw [lg_entry_eq]
  generalize (lg_sl ([.ref (ad 0), .int p0, .int p1]) ++ List.replicate (3 - (lg_sl ([.ref (ad 0), .int p0, .int p1])).length) Slot.unset).toArray = ls at hl ⊢
  have hl : lv_has ls 3 [(0, .ref (ad 0)), (1, .int p0), (2, .int p1)] := hl
  obtain ⟨H, hH⟩ : ∃ z, z = s.heap := ⟨_, rfl⟩
  obtain ⟨locs, hL⟩ : ∃ z : List Loc, z = [] := ⟨_, rfl⟩
  rw [← hL] at hS ⊢
  have hS : va_S (AD ad 0 21) s.heap H locs := by rw [hH]; exact hS
  rw [← hH] at hP ⊢
  clear hH hL
  refine lv_aload_n hx hb dX3_comesAsking_0 rfl (lv_at hl 0 rfl) ?_
  refine lv_iload_n hx hb dX3_comesAsking_1 rfl (lv_at hl 1 rfl) ?_
  have hPc := hP
  refine ro_int (va_runV (As := [.int p0]) (rest := []) ⟨hx, hb, hml, hown, hts⟩ (h_X3_isWitness g ad σ p0) (cwV 1 hts gX3_comesAsking_X3_isWitness rfl rfl rfl (by decide +kernel) ⟨Nat.le_of_ble_eq_true rfl, Nat.le_of_ble_eq_true rfl⟩) ⟨RO_blind, va_recv hK hP (ci := 3) (q0 := 0) rfl rfl, fun U hU hW => ⟨rfl, by rw [hU]; exact hPc, va_K.moved hW.alike hK, hE.call hW hU hS (fun _ h => h.elim)⟩⟩ rfl rfl hl.1 rfl (lv_room (Nat.le_of_ble_eq_true rfl)) dX3_comesAsking_2 ⟨Nat.le_of_ble_eq_true rfl, Nat.le_of_ble_eq_true rfl⟩) hS hP (fun r H locs hw hP hS => ?_)
  subst r
  refine lv_if_eq (tgt := 26) hx hb dX3_comesAsking_5 (by decide) (fun c5 => ?_) (fun c5 => ?_)
  · have hv := hv.1 c5
    refine lv_iconst (v := 0) hx hb dX3_comesAsking_26 (by decide) ?_
    exact W.zret (v := 0) hx hb hr rfl (fun t ht hW => ⟨⟨0, σ, rfl, hv, P_at ht hP⟩, hS.F ht⟩) hS.2.2 dX3_comesAsking_27
  · have hv := hv.2 c5
    refine lv_aload_n hx hb dX3_comesAsking_8 rfl (lv_at hl 0 rfl) ?_
    refine lv_iload_n hx hb dX3_comesAsking_9 rfl (lv_at hl 2 rfl) ?_
    have hPc := hP
    refine ro_int (va_runV (As := [.int p1]) (rest := []) ⟨hx, hb, hml, hown, hts⟩ (h_X3_isQuestion g ad σ p1) (cwV 1 hts gX3_comesAsking_X3_isQuestion rfl rfl rfl (by decide +kernel) ⟨Nat.le_of_ble_eq_true rfl, Nat.le_of_ble_eq_true rfl⟩) ⟨RO_blind, va_recv hK hP (ci := 3) (q0 := 0) rfl rfl, fun U hU hW => ⟨rfl, by rw [hU]; exact hPc, va_K.moved hW.alike hK, hE.call hW hU hS (fun _ h => h.elim)⟩⟩ rfl rfl hl.1 rfl (lv_room (Nat.le_of_ble_eq_true rfl)) dX3_comesAsking_10 ⟨Nat.le_of_ble_eq_true rfl, Nat.le_of_ble_eq_true rfl⟩) hS hP (fun r H locs hw hP hS => ?_)
    subst r
    refine lv_if_eq (tgt := 26) hx hb dX3_comesAsking_13 (by decide) (fun c13 => ?_) (fun c13 => ?_)
    · have hv := hv.1 c13
      refine lv_iconst (v := 0) hx hb dX3_comesAsking_26 (by decide) ?_
      exact W.zret (v := 0) hx hb hr rfl (fun t ht hW => ⟨⟨0, σ, rfl, hv, P_at ht hP⟩, hS.F ht⟩) hS.2.2 dX3_comesAsking_27
    · have hv := hv.2 c13
      refine lv_aload_n hx hb dX3_comesAsking_16 rfl (lv_at hl 0 rfl) ?_
      refine va_get (D := gD g) (ci := 3) (v := .int (sAsked (mS σ))) (C := RX3) (T := TX3) (N := 33) hx hb hts hi3 hown hK hP 0 rfl rfl 15 (by decide) k0 (fun _ h9 => h9) rfl dX3_comesAsking_17 ?_
      refine lv_sipush (v := 999) hx hb dX3_comesAsking_20 (by decide) ?_
      refine lv_icmp_ne (tgt := 28) hx hb dX3_comesAsking_23 (by decide) (fun c23 => ?_) (fun c23 => ?_)
      · have hv := hv.1 c23
        refine lv_aload_n hx hb dX3_comesAsking_28 rfl (lv_at hl 0 rfl) ?_
        refine lv_iload_n hx hb dX3_comesAsking_29 rfl (lv_at hl 1 rfl) ?_
        refine lv_iload_n hx hb dX3_comesAsking_30 rfl (lv_at hl 2 rfl) ?_
        have h8 := hv.1
        have hv := hv.2
        have hPc := hP
        have hDc := hD
        refine rw_int (va_runV (As := [.int p0, .int p1]) (rest := []) ⟨hx, hb, hml, hown, hts⟩ (h_X3_asksOne g ad σ p0 p1 h8) (cwV 2 hts gX3_comesAsking_X3_asksOne rfl rfl rfl (by decide +kernel) ⟨Nat.le_of_ble_eq_true rfl, Nat.le_of_ble_eq_true rfl⟩) ⟨RW_blind, va_recv hK hP (ci := 3) (q0 := 0) rfl rfl, fun U hU hW => ⟨rfl, by rw [hU]; exact hPc, va_K.moved hW.alike hK, hE.call hW hU hS (fun _ h => h), hDc⟩⟩ rfl rfl hl.1 rfl (lv_room (Nat.le_of_ble_eq_true rfl)) dX3_comesAsking_31 ⟨Nat.le_of_ble_eq_true rfl, Nat.le_of_ble_eq_true rfl⟩) hS (fun _ h => h) (fun r u H1 locs hw hP1 hk hS => ?_)
        obtain ⟨hw1, hw⟩ := hw; subst r; subst u
        have hP := hP1
        generalize H1 = H at hP hS ⊢
        have hP : va_P (gD g) vwCl (wM g ad ((askS (mS σ) p0 p1), (mT σ), (mK σ), (mF σ), (mRow σ), (mRowMany σ), (mLots σ), (mRefused σ))) H := hP
        have hD : va_D (AD ad 0 21) (wM g ad ((askS (mS σ) p0 p1), (mT σ), (mK σ), (mF σ), (mRow σ), (mRowMany σ), (mLots σ), (mRefused σ))) := hD.addr (by rfl)
        refine lv_pop hx hb dX3_comesAsking_34 rfl ?_
        refine lv_iconst (v := 1) hx hb dX3_comesAsking_35 (by decide) ?_
        exact W.zret (v := 1) hx hb hr rfl (fun t ht hW => ⟨⟨1, ((askS (mS σ) p0 p1), (mT σ), (mK σ), (mF σ), (mRow σ), (mRowMany σ), (mLots σ), (mRefused σ)), rfl, hv, P_at ht hP⟩, hS.F ht⟩) hS.2.2 dX3_comesAsking_36
      · have hv := hv.2 c23
        refine lv_iconst (v := 0) hx hb dX3_comesAsking_26 (by decide) ?_
        exact W.zret (v := 0) hx hb hr rfl (fun t ht hW => ⟨⟨0, σ, rfl, hv, P_at ht hP⟩, hS.F ht⟩) hS.2.2 dX3_comesAsking_27

