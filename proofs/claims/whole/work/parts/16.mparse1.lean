set_option maxHeartbeats 4000000 in
set_option maxRecDepth 100000 in
theorem m_X3_next (l : Launch)  (g : CX) (ad : Nat → Nat) (σ : KM)  (Post : Int32 → Prop) (hv : vc_X3_next σ Post) : Met l yX3_next wsX3_next { frames := 0, cells := 0, slots := 0, locals := 0 } (va_Pc [.ref (ad 0)] (RO g (wM g ad σ))) (va_Qi (fun r (_ : Unit) => Post r) (fun _ _ => True) A0) 0 0 A0 := by
  unfold vc_X3_next at hv
  refine Met.ofW (cc := cX3_next) (maxL := 1) (ret := (some .int)) (by decide) rfl ?_
  intro p e s m args below meth c s₁ B hml hv0
  obtain ⟨rfl, hP, hK, hE⟩ := hv0
  have hx := B.exec
  have hb := B.bytes
  have hr := B.returns
  have hts := atoms_spec (ws := wsX3_next) B.pre
  have hown : s.vm.findClass RX3 = some m.cls := findClass_of_methodNamed B.named
  have hlocks := B.notSynchronized
  have hi3 : ∀ w ∈ wsX30, w ∈ wsX3_next := by decide +kernel
  have k0 := hts (.fieldLink RX3 90 "JuryHearsAnswersModel" "at" "I") (by decide +kernel)
  have k1 := hts (.fieldLink RX3 83 "JuryHearsAnswersModel" "taped" "I") (by decide +kernel)
  have k2 := hts (.fieldLink RX3 43 "JuryHearsAnswersModel" "tape" "[I") (by decide +kernel)
  have hS : va_S A0 s.heap s.heap [] := va_S.rf
  have hP : va_P (gD g) vwCl (wM g ad σ) s.heap := hP
  have hl := lv_entry ([.ref (ad 0)]) (n := 1) (Nat.le_of_ble_eq_true rfl)
  rw [lg_entry_eq]
  generalize (lg_sl ([.ref (ad 0)]) ++ List.replicate (1 - (lg_sl ([.ref (ad 0)])).length) Slot.unset).toArray = ls at hl ⊢
  have hl : lv_has ls 1 [(0, .ref (ad 0))] := hl
  obtain ⟨H, hH⟩ : ∃ z, z = s.heap := ⟨_, rfl⟩
  obtain ⟨locs, hL⟩ : ∃ z : List Loc, z = [] := ⟨_, rfl⟩
  rw [← hL] at hS ⊢
  have hS : va_S A0 s.heap H locs := by rw [hH]; exact hS
  rw [← hH] at hP ⊢
  clear hH hL
  refine lv_aload_n hx hb dX3_next_0 rfl (lv_at hl 0 rfl) ?_
  refine va_get (D := gD g) (ci := 3) (v := .int (tAt (mT σ))) (C := RX3) (T := TX3) (N := 33) hx hb hts hi3 hown hK hP 0 rfl rfl 21 (by decide) k0 (fun _ h9 => h9) rfl dX3_next_1 ?_
  refine lv_aload_n hx hb dX3_next_4 rfl (lv_at hl 0 rfl) ?_
  refine va_get (D := gD g) (ci := 3) (v := .int (tTaped (mT σ))) (C := RX3) (T := TX3) (N := 33) hx hb hts hi3 hown hK hP 0 rfl rfl 20 (by decide) k1 (fun _ h9 => h9) rfl dX3_next_5 ?_
  refine lv_icmp_ge (tgt := 23) hx hb dX3_next_8 (by decide) (fun c8 => ?_) (fun c8 => ?_)
  · have hv := hv.1 c8
    refine lv_iconst (v := (-1)) hx hb dX3_next_23 (by decide) ?_
    exact W.iret (v := (-1)) hx hb hr (fun t ht hW => ⟨⟨(-1), (), rfl, hv, trivial⟩, hS.F ht⟩) hS.2.2 dX3_next_24
  · have hv := hv.2 c8
    refine lv_aload_n hx hb dX3_next_11 rfl (lv_at hl 0 rfl) ?_
    refine va_get (D := gD g) (ci := 3) (v := .ref (ad 12)) (C := RX3) (T := TX3) (N := 33) hx hb hts hi3 hown hK hP 0 rfl rfl 16 (by decide) k2 (fun _ h9 => h9) rfl dX3_next_12 ?_
    refine lv_aload_n hx hb dX3_next_15 rfl (lv_at hl 0 rfl) ?_
    refine va_get (D := gD g) (ci := 3) (v := .int (tAt (mT σ))) (C := RX3) (T := TX3) (N := 33) hx hb hts hi3 hown hK hP 0 rfl rfl 21 (by decide) k0 (fun _ h9 => h9) rfl dX3_next_16 ?_
    have h9 := hv.1
    have hv := hv.2
    refine va_iald (f := (tTape (mT σ))) (n := 96) hx hb hK hP 12 0 rfl rfl h9 dX3_next_19 ?_
    refine lv_goto (tgt := 24) hx hb dX3_next_20 (by decide) ?_
    exact W.iret (v := ((tTape (mT σ)) ((tAt (mT σ))).toNatClampNeg)) hx hb hr (fun t ht hW => ⟨⟨((tTape (mT σ)) ((tAt (mT σ))).toNatClampNeg), (), rfl, hv, trivial⟩, hS.F ht⟩) hS.2.2 dX3_next_24

set_option maxHeartbeats 4000000 in
set_option maxRecDepth 100000 in
theorem m_X3_kindOf (l : Launch)  (g : CX) (p0 : Int32) (Post : Int32 → Prop) (hv : vc_X3_kindOf p0 Post) : Met l yX3_kindOf wsX3_kindOf { frames := 0, cells := 0, slots := 0, locals := 0 } (va_Pc [.int p0] (RO g [])) (va_Qi (fun r (_ : Unit) => Post r) (fun _ _ => True) A0) 0 0 A0 := by
  unfold vc_X3_kindOf at hv
  refine Met.ofW (cc := cX3_kindOf) (maxL := 1) (ret := (some .int)) (by decide) rfl ?_
  intro p e s m args below meth c s₁ B hml hv0
  obtain ⟨rfl, hP, hK, hE⟩ := hv0
  have hx := B.exec
  have hb := B.bytes
  have hr := B.returns
  have hts := atoms_spec (ws := wsX3_kindOf) B.pre
  have hown : s.vm.findClass RX3 = some m.cls := findClass_of_methodNamed B.named
  have hlocks := B.notSynchronized
  have hS : va_S A0 s.heap s.heap [] := va_S.rf
  have hP : va_P (gD g) vwCl ([]) s.heap := hP
  have hl := lv_entry ([.int p0]) (n := 1) (Nat.le_of_ble_eq_true rfl)
  rw [lg_entry_eq]
  generalize (lg_sl ([.int p0]) ++ List.replicate (1 - (lg_sl ([.int p0])).length) Slot.unset).toArray = ls at hl ⊢
  have hl : lv_has ls 1 [(0, .int p0)] := hl
  obtain ⟨H, hH⟩ : ∃ z, z = s.heap := ⟨_, rfl⟩
  obtain ⟨locs, hL⟩ : ∃ z : List Loc, z = [] := ⟨_, rfl⟩
  rw [← hL] at hS ⊢
  have hS : va_S A0 s.heap H locs := by rw [hH]; exact hS
  rw [← hH] at hP ⊢
  clear hH hL
  refine lv_iload_n hx hb dX3_kindOf_0 rfl (lv_at hl 0 rfl) ?_
  refine lv_bipush (v := 119) hx hb dX3_kindOf_1 (by decide) ?_
  refine lv_icmp_ne (tgt := 10) hx hb dX3_kindOf_3 (by decide) (fun c3 => ?_) (fun c3 => ?_)
  · have hv := hv.1 c3
    refine lv_iload_n hx hb dX3_kindOf_10 rfl (lv_at hl 0 rfl) ?_
    refine lv_bipush (v := 108) hx hb dX3_kindOf_11 (by decide) ?_
    refine lv_icmp_ne (tgt := 20) hx hb dX3_kindOf_13 (by decide) (fun c13 => ?_) (fun c13 => ?_)
    · have hv := hv.1 c13
      refine lv_iload_n hx hb dX3_kindOf_20 rfl (lv_at hl 0 rfl) ?_
      refine lv_bipush (v := 98) hx hb dX3_kindOf_21 (by decide) ?_
      refine lv_icmp_ne (tgt := 30) hx hb dX3_kindOf_23 (by decide) (fun c23 => ?_) (fun c23 => ?_)
      · have hv := hv.1 c23
        refine lv_iload_n hx hb dX3_kindOf_30 rfl (lv_at hl 0 rfl) ?_
        refine lv_bipush (v := 102) hx hb dX3_kindOf_31 (by decide) ?_
        refine lv_icmp_ne (tgt := 40) hx hb dX3_kindOf_33 (by decide) (fun c33 => ?_) (fun c33 => ?_)
        · have hv := hv.1 c33
          refine lv_iload_n hx hb dX3_kindOf_40 rfl (lv_at hl 0 rfl) ?_
          refine lv_bipush (v := 114) hx hb dX3_kindOf_41 (by decide) ?_
          refine lv_icmp_ne (tgt := 50) hx hb dX3_kindOf_43 (by decide) (fun c43 => ?_) (fun c43 => ?_)
          · have hv := hv.1 c43
            refine lv_iload_n hx hb dX3_kindOf_50 rfl (lv_at hl 0 rfl) ?_
            refine lv_bipush (v := 99) hx hb dX3_kindOf_51 (by decide) ?_
            refine lv_icmp_ne (tgt := 60) hx hb dX3_kindOf_53 (by decide) (fun c53 => ?_) (fun c53 => ?_)
            · have hv := hv.1 c53
              refine lv_iconst (v := (-1)) hx hb dX3_kindOf_60 (by decide) ?_
              exact W.iret (v := (-1)) hx hb hr (fun t ht hW => ⟨⟨(-1), (), rfl, hv, trivial⟩, hS.F ht⟩) hS.2.2 dX3_kindOf_61
            · have hv := hv.2 c53
              refine lv_iconst (v := 5) hx hb dX3_kindOf_56 (by decide) ?_
              refine lv_goto (tgt := 61) hx hb dX3_kindOf_57 (by decide) ?_
              exact W.iret (v := 5) hx hb hr (fun t ht hW => ⟨⟨5, (), rfl, hv, trivial⟩, hS.F ht⟩) hS.2.2 dX3_kindOf_61
          · have hv := hv.2 c43
            refine lv_iconst (v := 4) hx hb dX3_kindOf_46 (by decide) ?_
            refine lv_goto (tgt := 61) hx hb dX3_kindOf_47 (by decide) ?_
            exact W.iret (v := 4) hx hb hr (fun t ht hW => ⟨⟨4, (), rfl, hv, trivial⟩, hS.F ht⟩) hS.2.2 dX3_kindOf_61
        · have hv := hv.2 c33
          refine lv_iconst (v := 3) hx hb dX3_kindOf_36 (by decide) ?_
          refine lv_goto (tgt := 61) hx hb dX3_kindOf_37 (by decide) ?_
          exact W.iret (v := 3) hx hb hr (fun t ht hW => ⟨⟨3, (), rfl, hv, trivial⟩, hS.F ht⟩) hS.2.2 dX3_kindOf_61
      · have hv := hv.2 c23
        refine lv_iconst (v := 2) hx hb dX3_kindOf_26 (by decide) ?_
        refine lv_goto (tgt := 61) hx hb dX3_kindOf_27 (by decide) ?_
        exact W.iret (v := 2) hx hb hr (fun t ht hW => ⟨⟨2, (), rfl, hv, trivial⟩, hS.F ht⟩) hS.2.2 dX3_kindOf_61
    · have hv := hv.2 c13
      refine lv_iconst (v := 1) hx hb dX3_kindOf_16 (by decide) ?_
      refine lv_goto (tgt := 61) hx hb dX3_kindOf_17 (by decide) ?_
      exact W.iret (v := 1) hx hb hr (fun t ht hW => ⟨⟨1, (), rfl, hv, trivial⟩, hS.F ht⟩) hS.2.2 dX3_kindOf_61
  · have hv := hv.2 c3
    refine lv_iconst (v := 0) hx hb dX3_kindOf_6 (by decide) ?_
    refine lv_goto (tgt := 61) hx hb dX3_kindOf_7 (by decide) ?_
    exact W.iret (v := 0) hx hb hr (fun t ht hW => ⟨⟨0, (), rfl, hv, trivial⟩, hS.F ht⟩) hS.2.2 dX3_kindOf_61

set_option maxHeartbeats 4000000 in
set_option maxRecDepth 100000 in
theorem m_X3_readsDigits (l : Launch) (h_X3_isIn : C_X3_isIn l) (h_X3_next : C_X3_next l) (g : CX) (ad : Nat → Nat) (σ : KM) (p0 : Int32) (p1 : Int32) (Post : Int32 → KM → Prop) (hv : vc_X3_readsDigits σ p0 p1 Post) : Met l yX3_readsDigits wsX3_readsDigits { frames := 1, cells := 0, slots := 0, locals := 22 } (va_Pc [.ref (ad 0), .int p0, .int p1] (RW g (AD ad 0 21) (wM g ad σ))) (va_Qi (fun (r : Int32) (u : KM) => Post r u) (fun u t => va_P (gD g) vwCl (wM g ad u) t.heap) (AD ad 0 21)) 0 0 (AD ad 0 21) := by
  unfold vc_X3_readsDigits at hv
  refine Met.ofW (cc := cX3_readsDigits) (maxL := 5) (ret := (some .boolean)) (by decide) rfl ?_
  intro p e s m args below meth c s₁ B hml hv0
  obtain ⟨rfl, hP, hK, hE, hD⟩ := hv0
  have hx := B.exec
  have hb := B.bytes
  have hr := B.returns
  have hts := atoms_spec (ws := wsX3_readsDigits) B.pre
  have hown : s.vm.findClass RX3 = some m.cls := findClass_of_methodNamed B.named
  have hlocks := B.notSynchronized
  have hi3 : ∀ w ∈ wsX30, w ∈ wsX3_readsDigits := by decide +kernel
  have k0 := hts (.fieldLink RX3 52 "JuryHearsAnswersModel" "told" "[I") (by decide +kernel)
  have k1 := hts (.fieldLink RX3 90 "JuryHearsAnswersModel" "at" "I") (by decide +kernel)
  have hS : va_S (AD ad 0 21) s.heap s.heap [] := va_S.rf
  have hP : va_P (gD g) vwCl (wM g ad σ) s.heap := hP
  have hl := lv_entry ([.ref (ad 0), .int p0, .int p1]) (n := 5) (Nat.le_of_ble_eq_true rfl)
  rw [lg_entry_eq]
  generalize (lg_sl ([.ref (ad 0), .int p0, .int p1]) ++ List.replicate (5 - (lg_sl ([.ref (ad 0), .int p0, .int p1])).length) Slot.unset).toArray = ls at hl ⊢
  have hl : lv_has ls 5 [(0, .ref (ad 0)), (1, .int p0), (2, .int p1)] := hl
  have hv := hv (fun (x3 : Int32) (x4 : Int32) (s_T_at : Int32) (s_T_told : FI) => ∀ (H : Heap) (locs : List Loc) (ls : Array Slot), va_P (gD g) vwCl (wM g ad ((mS σ), ((tTape (mT σ)), (tLetter (mT σ)), (tLetterAt (mT σ)), s_T_told, (tTaped (mT σ)), s_T_at, (tStm (mT σ))), (mK σ), (mF σ), (mRow σ), (mRowMany σ), (mLots σ), (mRefused σ))) H → va_D (AD ad 0 21) (wM g ad ((mS σ), ((tTape (mT σ)), (tLetter (mT σ)), (tLetterAt (mT σ)), s_T_told, (tTaped (mT σ)), s_T_at, (tStm (mT σ))), (mK σ), (mF σ), (mRow σ), (mRowMany σ), (mLots σ), (mRefused σ))) → va_S (AD ad 0 21) s.heap H locs → lv_has ls 5 [(0, .ref (ad 0)), (1, .int p0), (2, .int p1), (3, .int x3), (4, .int x4)] → W p l e { frames := 1, cells := 0, slots := 0, locals := 22 } s m ([.ref (ad 0), .int p0, .int p1] : List Value).toArray below meth c H locs 0 0 (MQ below (va_Qi (fun (r : Int32) (u : KM) => Post r u) (fun u t => va_P (gD g) vwCl (wM g ad u) t.heap) (AD ad 0 21)) ([.ref (ad 0), .int p0, .int p1] : List Value).toArray s 0 0 (AD ad 0 21)) (F0 m 5 ls []))
  have hv := hv (by
    intro x3 x4 s_T_at s_T_told hv H locs ls hP hD hS hl
    refine lv_iload hx hb dX3_readsDigits_5 (lv_at hl 4 rfl) ?_
    refine lv_iload_n hx hb dX3_readsDigits_7 rfl (lv_at hl 2 rfl) ?_
    refine lv_icmp_ge (tgt := 56) hx hb dX3_readsDigits_8 (by decide) (fun c8 => ?_) (fun c8 => ?_)
    · have hv := hv.1 c8
      refine lv_aload_n hx hb dX3_readsDigits_56 rfl (lv_at hl 0 rfl) ?_
      refine va_get (D := gD g) (ci := 3) (v := .ref (ad 15)) (C := RX3) (T := TX3) (N := 33) hx hb hts hi3 hown hK hP 0 rfl rfl 19 (by decide) k0 (fun _ h9 => h9) rfl dX3_readsDigits_57 ?_
      refine lv_iload_n hx hb dX3_readsDigits_60 rfl (lv_at hl 1 rfl) ?_
      refine lv_iload_n hx hb dX3_readsDigits_61 rfl (lv_at hl 3 rfl) ?_
      have h9 := hv.1
      have hv := hv.2
      refine va_iast (f := s_T_told) (n := 144) hx hb hK hP hD hS 15 0 rfl rfl h9 dX3_readsDigits_62 (fun H locs hP hD hS => ?_)
      have hP : va_P (gD g) vwCl (wM g ad ((mS σ), ((tTape (mT σ)), (tLetter (mT σ)), (tLetterAt (mT σ)), (upd s_T_told (p0).toNatClampNeg x3), (tTaped (mT σ)), s_T_at, (tStm (mT σ))), (mK σ), (mF σ), (mRow σ), (mRowMany σ), (mLots σ), (mRefused σ))) H := hP
      have hD : va_D (AD ad 0 21) (wM g ad ((mS σ), ((tTape (mT σ)), (tLetter (mT σ)), (tLetterAt (mT σ)), (upd s_T_told (p0).toNatClampNeg x3), (tTaped (mT σ)), s_T_at, (tStm (mT σ))), (mK σ), (mF σ), (mRow σ), (mRowMany σ), (mLots σ), (mRefused σ))) := hD
      refine lv_iconst (v := 1) hx hb dX3_readsDigits_63 (by decide) ?_
      exact W.zret (v := 1) hx hb hr rfl (fun t ht hW => ⟨⟨1, ((mS σ), ((tTape (mT σ)), (tLetter (mT σ)), (tLetterAt (mT σ)), (upd s_T_told (p0).toNatClampNeg x3), (tTaped (mT σ)), s_T_at, (tStm (mT σ))), (mK σ), (mF σ), (mRow σ), (mRowMany σ), (mLots σ), (mRefused σ)), rfl, hv, P_at ht hP⟩, hS.F ht⟩) hS.2.2 dX3_readsDigits_64
    · have hv := hv.2 c8
      refine lv_aload_n hx hb dX3_readsDigits_11 rfl (lv_at hl 0 rfl) ?_
      have h8 := hv.1
      have hv := hv.2
      have hPc := hP
      refine ro_int (va_runV (As := []) (rest := []) ⟨hx, hb, hml, hown, hts⟩ (h_X3_next g ad ((mS σ), ((tTape (mT σ)), (tLetter (mT σ)), (tLetterAt (mT σ)), s_T_told, (tTaped (mT σ)), s_T_at, (tStm (mT σ))), (mK σ), (mF σ), (mRow σ), (mRowMany σ), (mLots σ), (mRefused σ)) h8) (cwV 0 hts gX3_readsDigits_X3_next rfl rfl rfl (by decide +kernel) ⟨Nat.le_of_ble_eq_true rfl, Nat.le_of_ble_eq_true rfl⟩) ⟨RO_blind, va_recv hK hP (ci := 3) (q0 := 0) rfl rfl, fun U hU hW => ⟨rfl, by rw [hU]; exact hPc, va_K.moved hW.alike hK, hE.call hW hU hS (fun _ h => h.elim)⟩⟩ rfl rfl hl.1 rfl (lv_room (Nat.le_of_ble_eq_true rfl)) dX3_readsDigits_12 ⟨Nat.le_of_ble_eq_true rfl, Nat.le_of_ble_eq_true rfl⟩) hS hP (fun r H locs hw hP hS => ?_)
      subst r
      refine lv_bipush (v := 48) hx hb dX3_readsDigits_15 (by decide) ?_
      refine lv_bipush (v := 57) hx hb dX3_readsDigits_17 (by decide) ?_
      have hPc : va_P (gD g) vwCl [] H := fun k q h => by simp at h
      refine ro_int (va_runS (As := [.int (nxt ((tTape (mT σ)), (tLetter (mT σ)), (tLetterAt (mT σ)), s_T_told, (tTaped (mT σ)), s_T_at, (tStm (mT σ))) s_T_at), .int 48, .int 57]) (rest := []) ⟨hx, hb, hml, hown, hts⟩ (h_X3_isIn g (nxt ((tTape (mT σ)), (tLetter (mT σ)), (tLetterAt (mT σ)), s_T_told, (tTaped (mT σ)), s_T_at, (tStm (mT σ))) s_T_at) 48 57) (va_cwS 3 hts gX3_readsDigits_X3_isIn rfl rfl rfl (by decide +kernel) ⟨Nat.le_of_ble_eq_true rfl, Nat.le_of_ble_eq_true rfl⟩) ⟨RO_blind, fun U hU hW => ⟨rfl, by rw [hU]; exact hPc, va_K.moved hW.alike hK, hE.call hW hU hS (fun _ h => h.elim)⟩⟩ rfl rfl hl.1 rfl (lv_room (Nat.le_of_ble_eq_true rfl)) dX3_readsDigits_19 ⟨Nat.le_of_ble_eq_true rfl, Nat.le_of_ble_eq_true rfl⟩) hS hP (fun r H locs hw hP hS => ?_)
      subst r
      refine lv_if_ne (tgt := 27) hx hb dX3_readsDigits_22 (by decide) (fun c22 => ?_) (fun c22 => ?_)
      · have hv := hv.1 c22
        refine lv_bipush (v := 10) hx hb dX3_readsDigits_27 (by decide) ?_
        refine lv_iload_n hx hb dX3_readsDigits_29 rfl (lv_at hl 3 rfl) ?_
        refine lv_imul hx hb dX3_readsDigits_30 ?_
        refine lv_aload_n hx hb dX3_readsDigits_31 rfl (lv_at hl 0 rfl) ?_
        have h8 := hv.1
        have hv := hv.2
        have hPc := hP
        refine ro_int (va_runV (As := []) (rest := [.int (10 * x3)]) ⟨hx, hb, hml, hown, hts⟩ (h_X3_next g ad ((mS σ), ((tTape (mT σ)), (tLetter (mT σ)), (tLetterAt (mT σ)), s_T_told, (tTaped (mT σ)), s_T_at, (tStm (mT σ))), (mK σ), (mF σ), (mRow σ), (mRowMany σ), (mLots σ), (mRefused σ)) h8) (cwV 0 hts gX3_readsDigits_X3_next rfl rfl rfl (by decide +kernel) ⟨Nat.le_of_ble_eq_true rfl, Nat.le_of_ble_eq_true rfl⟩) ⟨RO_blind, va_recv hK hP (ci := 3) (q0 := 0) rfl rfl, fun U hU hW => ⟨rfl, by rw [hU]; exact hPc, va_K.moved hW.alike hK, hE.call hW hU hS (fun _ h => h.elim)⟩⟩ rfl rfl hl.1 rfl (lv_room (Nat.le_of_ble_eq_true rfl)) dX3_readsDigits_32 ⟨Nat.le_of_ble_eq_true rfl, Nat.le_of_ble_eq_true rfl⟩) hS hP (fun r H locs hw hP hS => ?_)
        subst r
        refine lv_iadd hx hb dX3_readsDigits_35 ?_
        refine lv_bipush (v := 48) hx hb dX3_readsDigits_36 (by decide) ?_
        refine lv_isub hx hb dX3_readsDigits_38 ?_
        refine lv_istore_n (lv' := [(3, .int (((10 * x3) + (nxt ((tTape (mT σ)), (tLetter (mT σ)), (tLetterAt (mT σ)), s_T_told, (tTaped (mT σ)), s_T_at, (tStm (mT σ))) s_T_at)) - 48)), (0, .ref (ad 0)), (1, .int p0), (2, .int p1), (4, .int x4)]) hx hb dX3_readsDigits_39 rfl hl (by decide) rfl (fun ls hl => ?_)
        refine lv_aload_n hx hb dX3_readsDigits_40 rfl (lv_at hl 1 rfl) ?_
        refine lv_dup hx hb dX3_readsDigits_41 rfl ?_
        refine va_get (D := gD g) (ci := 3) (v := .int s_T_at) (C := RX3) (T := TX3) (N := 33) hx hb hts hi3 hown hK hP 0 rfl rfl 21 (by decide) k1 (fun _ h9 => h9) rfl dX3_readsDigits_42 ?_
        refine lv_iconst (v := 1) hx hb dX3_readsDigits_45 (by decide) ?_
        refine lv_iadd hx hb dX3_readsDigits_46 ?_
        refine va_put (D := gD g) (ci := 3) (v := .int (s_T_at + 1)) (ty := .int) (C := RX3) (T := TX3) (N := 33) hx hb hts hi3 tyX3 tyX3_ok nmX3 hown hK hP hD hS 0 rfl rfl 21 (by decide) k1 (fun _ h9 => h9) rfl (by decide +kernel) rfl rfl (Nat.le_of_ble_eq_true rfl) dX3_readsDigits_47 (fun H locs hP hD hS => ?_)
        have hP : va_P (gD g) vwCl (wM g ad ((mS σ), ((tTape (mT σ)), (tLetter (mT σ)), (tLetterAt (mT σ)), s_T_told, (tTaped (mT σ)), (s_T_at + 1), (tStm (mT σ))), (mK σ), (mF σ), (mRow σ), (mRowMany σ), (mLots σ), (mRefused σ))) H := hP
        have hD : va_D (AD ad 0 21) (wM g ad ((mS σ), ((tTape (mT σ)), (tLetter (mT σ)), (tLetterAt (mT σ)), s_T_told, (tTaped (mT σ)), (s_T_at + 1), (tStm (mT σ))), (mK σ), (mF σ), (mRow σ), (mRowMany σ), (mLots σ), (mRefused σ))) := hD
        refine lv_iinc (v := (x4 + 1)) (lv' := [(4, .int (x4 + 1)), (3, .int (((10 * x3) + (nxt ((tTape (mT σ)), (tLetter (mT σ)), (tLetterAt (mT σ)), s_T_told, (tTaped (mT σ)), s_T_at, (tStm (mT σ))) s_T_at)) - 48)), (0, .ref (ad 0)), (1, .int p0), (2, .int p1)]) hx hb dX3_readsDigits_50 hl (k := 4) rfl (by first | rfl | exact congrArg _ (by decide)) (by decide) rfl (fun ls hl => ?_)
        refine lv_goto (tgt := 5) hx hb dX3_readsDigits_53 (by decide) ?_
        exact hv H locs ls hP hD hS (lv_sub hl [2, 3, 4, 1, 0] rfl)
      · have hv := hv.2 c22
        refine lv_iconst (v := 0) hx hb dX3_readsDigits_25 (by decide) ?_
        exact W.zret (v := 0) hx hb hr rfl (fun t ht hW => ⟨⟨0, ((mS σ), ((tTape (mT σ)), (tLetter (mT σ)), (tLetterAt (mT σ)), s_T_told, (tTaped (mT σ)), s_T_at, (tStm (mT σ))), (mK σ), (mF σ), (mRow σ), (mRowMany σ), (mLots σ), (mRefused σ)), rfl, hv, P_at ht hP⟩, hS.F ht⟩) hS.2.2 dX3_readsDigits_26)
  obtain ⟨H, hH⟩ : ∃ z, z = s.heap := ⟨_, rfl⟩
  obtain ⟨locs, hL⟩ : ∃ z : List Loc, z = [] := ⟨_, rfl⟩
  rw [← hL] at hS ⊢
  have hS : va_S (AD ad 0 21) s.heap H locs := by rw [hH]; exact hS
  rw [← hH] at hP ⊢
  clear hH hL
  refine lv_iconst (v := 0) hx hb dX3_readsDigits_0 (by decide) ?_
  refine lv_istore_n (lv' := [(3, .int 0), (0, .ref (ad 0)), (1, .int p0), (2, .int p1)]) hx hb dX3_readsDigits_1 rfl hl (by decide) rfl (fun ls hl => ?_)
  refine lv_iconst (v := 0) hx hb dX3_readsDigits_2 (by decide) ?_
  refine lv_istore (lv' := [(4, .int 0), (3, .int 0), (0, .ref (ad 0)), (1, .int p0), (2, .int p1)]) hx hb dX3_readsDigits_3 hl (by decide) rfl (fun ls hl => ?_)
  exact hv H locs ls hP hD hS (lv_sub hl [2, 3, 4, 1, 0] rfl)

set_option maxHeartbeats 4000000 in
set_option maxRecDepth 100000 in
theorem m_X3_readsWitness (l : Launch) (h_X3_kindOf : C_X3_kindOf l) (h_X3_next : C_X3_next l) (h_X3_readsDigits : C_X3_readsDigits l) (g : CX) (ad : Nat → Nat) (σ : KM) (p0 : Int32) (Post : Int32 → KM → Prop) (hv : vc_X3_readsWitness σ p0 Post) : Met l yX3_readsWitness wsX3_readsWitness { frames := 2, cells := 0, slots := 0, locals := 46 } (va_Pc [.ref (ad 0), .int p0] (RW g (AD ad 0 21) (wM g ad σ))) (va_Qi (fun (r : Int32) (u : KM) => Post r u) (fun u t => va_P (gD g) vwCl (wM g ad u) t.heap) (AD ad 0 21)) 0 0 (AD ad 0 21) := by
  unfold vc_X3_readsWitness at hv
  refine Met.ofW (cc := cX3_readsWitness) (maxL := 2) (ret := (some .boolean)) (by decide) rfl ?_
  intro p e s m args below meth c s₁ B hml hv0
  obtain ⟨rfl, hP, hK, hE, hD⟩ := hv0
  have hx := B.exec
  have hb := B.bytes
  have hr := B.returns
  have hts := atoms_spec (ws := wsX3_readsWitness) B.pre
  have hown : s.vm.findClass RX3 = some m.cls := findClass_of_methodNamed B.named
  have hlocks := B.notSynchronized
  have hi3 : ∀ w ∈ wsX30, w ∈ wsX3_readsWitness := by decide +kernel
  have k0 := hts (.fieldLink RX3 52 "JuryHearsAnswersModel" "told" "[I") (by decide +kernel)
  have k1 := hts (.fieldLink RX3 90 "JuryHearsAnswersModel" "at" "I") (by decide +kernel)
  have hS : va_S (AD ad 0 21) s.heap s.heap [] := va_S.rf
  have hP : va_P (gD g) vwCl (wM g ad σ) s.heap := hP
  have hl := lv_entry ([.ref (ad 0), .int p0]) (n := 2) (Nat.le_of_ble_eq_true rfl)
  rw [lg_entry_eq]
  generalize (lg_sl ([.ref (ad 0), .int p0]) ++ List.replicate (2 - (lg_sl ([.ref (ad 0), .int p0])).length) Slot.unset).toArray = ls at hl ⊢
  have hl : lv_has ls 2 [(0, .ref (ad 0)), (1, .int p0)] := hl
  obtain ⟨H, hH⟩ : ∃ z, z = s.heap := ⟨_, rfl⟩
  obtain ⟨locs, hL⟩ : ∃ z : List Loc, z = [] := ⟨_, rfl⟩
  rw [← hL] at hS ⊢
  have hS : va_S (AD ad 0 21) s.heap H locs := by rw [hH]; exact hS
  rw [← hH] at hP ⊢
  clear hH hL
  refine lv_aload_n hx hb dX3_readsWitness_0 rfl (lv_at hl 0 rfl) ?_
  refine va_get (D := gD g) (ci := 3) (v := .ref (ad 15)) (C := RX3) (T := TX3) (N := 33) hx hb hts hi3 hown hK hP 0 rfl rfl 19 (by decide) k0 (fun _ h9 => h9) rfl dX3_readsWitness_1 ?_
  refine lv_iload_n hx hb dX3_readsWitness_4 rfl (lv_at hl 1 rfl) ?_
  refine lv_aload_n hx hb dX3_readsWitness_5 rfl (lv_at hl 0 rfl) ?_
  have h8 := hv.1
  have hv := hv.2
  have hPc := hP
  refine ro_int (va_runV (As := []) (rest := [.int p0, .ref (ad 15)]) ⟨hx, hb, hml, hown, hts⟩ (h_X3_next g ad σ h8) (cwV 0 hts gX3_readsWitness_X3_next rfl rfl rfl (by decide +kernel) ⟨Nat.le_of_ble_eq_true rfl, Nat.le_of_ble_eq_true rfl⟩) ⟨RO_blind, va_recv hK hP (ci := 3) (q0 := 0) rfl rfl, fun U hU hW => ⟨rfl, by rw [hU]; exact hPc, va_K.moved hW.alike hK, hE.call hW hU hS (fun _ h => h.elim)⟩⟩ rfl rfl hl.1 rfl (lv_room (Nat.le_of_ble_eq_true rfl)) dX3_readsWitness_6 ⟨Nat.le_of_ble_eq_true rfl, Nat.le_of_ble_eq_true rfl⟩) hS hP (fun r H locs hw hP hS => ?_)
  subst r
  have hPc : va_P (gD g) vwCl [] H := fun k q h => by simp at h
  refine ro_int (va_runS (As := [.int (nxt (mT σ) (tAt (mT σ)))]) (rest := [.int p0, .ref (ad 15)]) ⟨hx, hb, hml, hown, hts⟩ (h_X3_kindOf g (nxt (mT σ) (tAt (mT σ)))) (va_cwS 1 hts gX3_readsWitness_X3_kindOf rfl rfl rfl (by decide +kernel) ⟨Nat.le_of_ble_eq_true rfl, Nat.le_of_ble_eq_true rfl⟩) ⟨RO_blind, fun U hU hW => ⟨rfl, by rw [hU]; exact hPc, va_K.moved hW.alike hK, hE.call hW hU hS (fun _ h => h.elim)⟩⟩ rfl rfl hl.1 rfl (lv_room (Nat.le_of_ble_eq_true rfl)) dX3_readsWitness_9 ⟨Nat.le_of_ble_eq_true rfl, Nat.le_of_ble_eq_true rfl⟩) hS hP (fun r H locs hw hP hS => ?_)
  subst r
  have h9 := hv.1
  have hv := hv.2
  refine va_iast (f := (tTold (mT σ))) (n := 144) hx hb hK hP hD hS 15 0 rfl rfl h9 dX3_readsWitness_12 (fun H locs hP hD hS => ?_)
  have hP : va_P (gD g) vwCl (wM g ad ((mS σ), ((tTape (mT σ)), (tLetter (mT σ)), (tLetterAt (mT σ)), (upd (tTold (mT σ)) (p0).toNatClampNeg (kindOfI (nxt (mT σ) (tAt (mT σ))))), (tTaped (mT σ)), (tAt (mT σ)), (tStm (mT σ))), (mK σ), (mF σ), (mRow σ), (mRowMany σ), (mLots σ), (mRefused σ))) H := hP
  have hD : va_D (AD ad 0 21) (wM g ad ((mS σ), ((tTape (mT σ)), (tLetter (mT σ)), (tLetterAt (mT σ)), (upd (tTold (mT σ)) (p0).toNatClampNeg (kindOfI (nxt (mT σ) (tAt (mT σ))))), (tTaped (mT σ)), (tAt (mT σ)), (tStm (mT σ))), (mK σ), (mF σ), (mRow σ), (mRowMany σ), (mLots σ), (mRefused σ))) := hD
  refine lv_aload_n hx hb dX3_readsWitness_13 rfl (lv_at hl 0 rfl) ?_
  refine va_get (D := gD g) (ci := 3) (v := .ref (ad 15)) (C := RX3) (T := TX3) (N := 33) hx hb hts hi3 hown hK hP 0 rfl rfl 19 (by decide) k0 (fun _ h9 => h9) rfl dX3_readsWitness_14 ?_
  refine lv_iload_n hx hb dX3_readsWitness_17 rfl (lv_at hl 1 rfl) ?_
  have h9 := hv.1
  have hv := hv.2
  refine va_iald (f := (upd (tTold (mT σ)) (p0).toNatClampNeg (kindOfI (nxt (mT σ) (tAt (mT σ)))))) (n := 144) hx hb hK hP 15 0 rfl rfl h9 dX3_readsWitness_18 ?_
  refine lv_if_ge (tgt := 24) hx hb dX3_readsWitness_19 (by decide) (fun c19 => ?_) (fun c19 => ?_)
  · have hv := hv.1 c19
    refine lv_aload_n hx hb dX3_readsWitness_24 rfl (lv_at hl 0 rfl) ?_
    refine lv_dup hx hb dX3_readsWitness_25 rfl ?_
    refine va_get (D := gD g) (ci := 3) (v := .int (tAt (mT σ))) (C := RX3) (T := TX3) (N := 33) hx hb hts hi3 hown hK hP 0 rfl rfl 21 (by decide) k1 (fun _ h9 => h9) rfl dX3_readsWitness_26 ?_
    refine lv_iconst (v := 1) hx hb dX3_readsWitness_29 (by decide) ?_
    refine lv_iadd hx hb dX3_readsWitness_30 ?_
    refine va_put (D := gD g) (ci := 3) (v := .int ((tAt (mT σ)) + 1)) (ty := .int) (C := RX3) (T := TX3) (N := 33) hx hb hts hi3 tyX3 tyX3_ok nmX3 hown hK hP hD hS 0 rfl rfl 21 (by decide) k1 (fun _ h9 => h9) rfl (by decide +kernel) rfl rfl (Nat.le_of_ble_eq_true rfl) dX3_readsWitness_31 (fun H locs hP hD hS => ?_)
    have hP : va_P (gD g) vwCl (wM g ad ((mS σ), ((tTape (mT σ)), (tLetter (mT σ)), (tLetterAt (mT σ)), (upd (tTold (mT σ)) (p0).toNatClampNeg (kindOfI (nxt (mT σ) (tAt (mT σ))))), (tTaped (mT σ)), ((tAt (mT σ)) + 1), (tStm (mT σ))), (mK σ), (mF σ), (mRow σ), (mRowMany σ), (mLots σ), (mRefused σ))) H := hP
    have hD : va_D (AD ad 0 21) (wM g ad ((mS σ), ((tTape (mT σ)), (tLetter (mT σ)), (tLetterAt (mT σ)), (upd (tTold (mT σ)) (p0).toNatClampNeg (kindOfI (nxt (mT σ) (tAt (mT σ))))), (tTaped (mT σ)), ((tAt (mT σ)) + 1), (tStm (mT σ))), (mK σ), (mF σ), (mRow σ), (mRowMany σ), (mLots σ), (mRefused σ))) := hD
    refine lv_aload_n hx hb dX3_readsWitness_34 rfl (lv_at hl 0 rfl) ?_
    refine lv_iload_n hx hb dX3_readsWitness_35 rfl (lv_at hl 1 rfl) ?_
    refine lv_iconst (v := 1) hx hb dX3_readsWitness_36 (by decide) ?_
    refine lv_iadd hx hb dX3_readsWitness_37 ?_
    refine lv_iconst (v := 1) hx hb dX3_readsWitness_38 (by decide) ?_
    have h8 := hv.1
    have hv := hv.2
    have hPc := hP
    have hDc := hD
    refine rw_int (va_runV (As := [.int (p0 + 1), .int 1]) (rest := []) ⟨hx, hb, hml, hown, hts⟩ (h_X3_readsDigits g ad ((mS σ), ((tTape (mT σ)), (tLetter (mT σ)), (tLetterAt (mT σ)), (upd (tTold (mT σ)) (p0).toNatClampNeg (kindOfI (nxt (mT σ) (tAt (mT σ))))), (tTaped (mT σ)), ((tAt (mT σ)) + 1), (tStm (mT σ))), (mK σ), (mF σ), (mRow σ), (mRowMany σ), (mLots σ), (mRefused σ)) (p0 + 1) 1 h8) (cwV 2 hts gX3_readsWitness_X3_readsDigits rfl rfl rfl (by decide +kernel) ⟨Nat.le_of_ble_eq_true rfl, Nat.le_of_ble_eq_true rfl⟩) ⟨RW_blind, va_recv hK hP (ci := 3) (q0 := 0) rfl rfl, fun U hU hW => ⟨rfl, by rw [hU]; exact hPc, va_K.moved hW.alike hK, hE.call hW hU hS (fun _ h => h), hDc⟩⟩ rfl rfl hl.1 rfl (lv_room (Nat.le_of_ble_eq_true rfl)) dX3_readsWitness_39 ⟨Nat.le_of_ble_eq_true rfl, Nat.le_of_ble_eq_true rfl⟩) hS (fun _ h => h) (fun r u39 H1 locs hw hP1 hk hS => ?_)
    obtain ⟨hw1, hw⟩ := hw; subst r
    have hv := hv u39 hw
    have hP := hP1
    generalize H1 = H at hP hS ⊢
    have hP : va_P (gD g) vwCl (wM g ad u39) H := hP
    have hD : va_D (AD ad 0 21) (wM g ad u39) := hD.addr (by rfl)
    refine lv_if_eq (tgt := 60) hx hb dX3_readsWitness_42 (by decide) (fun c42 => ?_) (fun c42 => ?_)
    · have hv := hv.1 c42
      refine lv_iconst (v := 0) hx hb dX3_readsWitness_60 (by decide) ?_
      exact W.zret (v := 0) hx hb hr rfl (fun t ht hW => ⟨⟨0, u39, rfl, hv, P_at ht hP⟩, hS.F ht⟩) hS.2.2 dX3_readsWitness_61
    · have hv := hv.2 c42
      refine lv_aload_n hx hb dX3_readsWitness_45 rfl (lv_at hl 0 rfl) ?_
      refine lv_iload_n hx hb dX3_readsWitness_46 rfl (lv_at hl 1 rfl) ?_
      refine lv_iconst (v := 2) hx hb dX3_readsWitness_47 (by decide) ?_
      refine lv_iadd hx hb dX3_readsWitness_48 ?_
      refine lv_iconst (v := 2) hx hb dX3_readsWitness_49 (by decide) ?_
      have h8 := hv.1
      have hv := hv.2
      have hPc := hP
      have hDc := hD
      refine rw_int (va_runV (As := [.int (p0 + 2), .int 2]) (rest := []) ⟨hx, hb, hml, hown, hts⟩ (h_X3_readsDigits g ad u39 (p0 + 2) 2 h8) (cwV 2 hts gX3_readsWitness_X3_readsDigits rfl rfl rfl (by decide +kernel) ⟨Nat.le_of_ble_eq_true rfl, Nat.le_of_ble_eq_true rfl⟩) ⟨RW_blind, va_recv hK hP (ci := 3) (q0 := 0) rfl rfl, fun U hU hW => ⟨rfl, by rw [hU]; exact hPc, va_K.moved hW.alike hK, hE.call hW hU hS (fun _ h => h), hDc⟩⟩ rfl rfl hl.1 rfl (lv_room (Nat.le_of_ble_eq_true rfl)) dX3_readsWitness_50 ⟨Nat.le_of_ble_eq_true rfl, Nat.le_of_ble_eq_true rfl⟩) hS (fun _ h => h) (fun r u50 H1 locs hw hP1 hk hS => ?_)
      obtain ⟨hw1, hw⟩ := hw; subst r
      have hv := hv u50 hw
      have hP := hP1
      generalize H1 = H at hP hS ⊢
      have hP : va_P (gD g) vwCl (wM g ad u50) H := hP
      have hD : va_D (AD ad 0 21) (wM g ad u50) := hD.addr (by rfl)
      refine lv_if_eq (tgt := 60) hx hb dX3_readsWitness_53 (by decide) (fun c53 => ?_) (fun c53 => ?_)
      · have hv := hv.1 c53
        refine lv_iconst (v := 0) hx hb dX3_readsWitness_60 (by decide) ?_
        exact W.zret (v := 0) hx hb hr rfl (fun t ht hW => ⟨⟨0, u50, rfl, hv, P_at ht hP⟩, hS.F ht⟩) hS.2.2 dX3_readsWitness_61
      · have hv := hv.2 c53
        refine lv_iconst (v := 1) hx hb dX3_readsWitness_56 (by decide) ?_
        refine lv_goto (tgt := 61) hx hb dX3_readsWitness_57 (by decide) ?_
        exact W.zret (v := 1) hx hb hr rfl (fun t ht hW => ⟨⟨1, u50, rfl, hv, P_at ht hP⟩, hS.F ht⟩) hS.2.2 dX3_readsWitness_61
  · have hv := hv.2 c19
    refine lv_iconst (v := 0) hx hb dX3_readsWitness_22 (by decide) ?_
    exact W.zret (v := 0) hx hb hr rfl (fun t ht hW => ⟨⟨0, ((mS σ), ((tTape (mT σ)), (tLetter (mT σ)), (tLetterAt (mT σ)), (upd (tTold (mT σ)) (p0).toNatClampNeg (kindOfI (nxt (mT σ) (tAt (mT σ))))), (tTaped (mT σ)), (tAt (mT σ)), (tStm (mT σ))), (mK σ), (mF σ), (mRow σ), (mRowMany σ), (mLots σ), (mRefused σ)), rfl, hv, P_at ht hP⟩, hS.F ht⟩) hS.2.2 dX3_readsWitness_23

