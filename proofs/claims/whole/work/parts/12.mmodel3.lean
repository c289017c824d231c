set_option maxHeartbeats 4000000 in
set_option maxRecDepth 100000 in
theorem m_X3_settle (l : Launch) (h_X3_findFit : C_X3_findFit l) (h_X3_has : C_X3_has l) (h_X3_isFact : C_X3_isFact l) (h_X3_isIn : C_X3_isIn l) (h_X3_isSettled : C_X3_isSettled l) (h_X3_isWitness : C_X3_isWitness l) (h_X3_no : C_X3_no l) (h_X3_power : C_X3_power l) (h_X3_sureIn : C_X3_sureIn l) (g : CX) (ad : Nat → Nat) (σ : KM) (p0 : Int32) (p1 : Int32) (p2 : Int32) (Post : Int32 → KM → Prop) (hv : vc_X3_settle σ p0 p1 p2 Post) : Met l yX3_settle wsX3_settle { frames := 7, cells := 0, slots := 0, locals := 160 } (va_Pc [.ref (ad 0), .int p0, .int p1, .int p2] (RW g (AD ad 0 21) (wM g ad σ))) (va_Qi (fun (r : Int32) (u : KM) => Post r u) (fun u t => va_P (gD g) vwCl (wM g ad u) t.heap) (AD ad 0 21)) 0 0 (AD ad 0 21) := by
  unfold vc_X3_settle at hv
  refine Met.ofW (cc := cX3_settle) (maxL := 7) (ret := (some .int)) (by decide) rfl ?_
  intro p e s m args below meth c s₁ B hml hv0
  obtain ⟨rfl, hP, hK, hE, hD⟩ := hv0
  have hx := B.exec
  have hb := B.bytes
  have hr := B.returns
  have hts := atoms_spec (ws := wsX3_settle) B.pre
  have hown : s.vm.findClass RX3 = some m.cls := findClass_of_methodNamed B.named
  have hlocks := B.notSynchronized
  have hi3 : ∀ w ∈ wsX30, w ∈ wsX3_settle := by decide +kernel
  have k0 := hts (.fieldLink RX3 58 "JuryHearsAnswersModel" "fit" "[I") (by decide +kernel)
  have k1 := hts (.fieldLink RX3 70 "JuryHearsAnswersModel" "questions" "I") (by decide +kernel)
  have hS : va_S (AD ad 0 21) s.heap s.heap [] := va_S.rf
  have hP : va_P (gD g) vwCl (wM g ad σ) s.heap := hP
  have hl := lv_entry ([.ref (ad 0), .int p0, .int p1, .int p2]) (n := 7) (Nat.le_of_ble_eq_true rfl)
  rw [lg_entry_eq]
  generalize (lg_sl ([.ref (ad 0), .int p0, .int p1, .int p2]) ++ List.replicate (7 - (lg_sl ([.ref (ad 0), .int p0, .int p1, .int p2])).length) Slot.unset).toArray = ls at hl ⊢
  have hl : lv_has ls 7 [(0, .ref (ad 0)), (1, .int p0), (2, .int p1), (3, .int p2)] := hl
  have hv := hv (fun (x5 : Int32) (s_F_fit : FI) (s_F_left : FI) (s_refused : FI) => ∀ (H : Heap) (locs : List Loc) (ls : Array Slot), va_P (gD g) vwCl (wM g ad ((mS σ), (mT σ), (mK σ), (s_F_fit, s_F_left, (fLeftBy (mF σ))), (mRow σ), (mRowMany σ), (mLots σ), s_refused)) H → va_D (AD ad 0 21) (wM g ad ((mS σ), (mT σ), (mK σ), (s_F_fit, s_F_left, (fLeftBy (mF σ))), (mRow σ), (mRowMany σ), (mLots σ), s_refused)) → va_S (AD ad 0 21) s.heap H locs → lv_has ls 7 [(0, .ref (ad 0)), (1, .int p0), (2, .int p1), (3, .int p2), (5, .int x5)] → W p l e { frames := 7, cells := 0, slots := 0, locals := 160 } s m ([.ref (ad 0), .int p0, .int p1, .int p2] : List Value).toArray below meth c H locs 0 0 (MQ below (va_Qi (fun (r : Int32) (u : KM) => Post r u) (fun u t => va_P (gD g) vwCl (wM g ad u) t.heap) (AD ad 0 21)) ([.ref (ad 0), .int p0, .int p1, .int p2] : List Value).toArray s 0 0 (AD ad 0 21)) (F0 m 81 ls []))
  have hv := hv (fun (x5 : Int32) (x6 : Int32) (s_F_fit : FI) (s_F_left : FI) (s_refused : FI) => ∀ (H : Heap) (locs : List Loc) (ls : Array Slot), va_P (gD g) vwCl (wM g ad ((mS σ), (mT σ), (mK σ), (s_F_fit, s_F_left, (fLeftBy (mF σ))), (mRow σ), (mRowMany σ), (mLots σ), s_refused)) H → va_D (AD ad 0 21) (wM g ad ((mS σ), (mT σ), (mK σ), (s_F_fit, s_F_left, (fLeftBy (mF σ))), (mRow σ), (mRowMany σ), (mLots σ), s_refused)) → va_S (AD ad 0 21) s.heap H locs → lv_has ls 7 [(0, .ref (ad 0)), (1, .int p0), (2, .int p1), (3, .int p2), (5, .int x5), (6, .int x6)] → W p l e { frames := 7, cells := 0, slots := 0, locals := 160 } s m ([.ref (ad 0), .int p0, .int p1, .int p2] : List Value).toArray below meth c H locs 0 0 (MQ below (va_Qi (fun (r : Int32) (u : KM) => Post r u) (fun u t => va_P (gD g) vwCl (wM g ad u) t.heap) (AD ad 0 21)) ([.ref (ad 0), .int p0, .int p1, .int p2] : List Value).toArray s 0 0 (AD ad 0 21)) (F0 m 90 ls []))
  have hv := hv (by
    intro x5 s_F_fit s_F_left s_refused hv H locs ls hP hD hS hl
    refine lv_iload hx hb dX3_settle_81 (lv_at hl 4 rfl) ?_
    refine lv_iconst (v := 4) hx hb dX3_settle_83 (by decide) ?_
    refine lv_icmp_ge (tgt := 153) hx hb dX3_settle_84 (by decide) (fun c84 => ?_) (fun c84 => ?_)
    · have hv := hv.1 c84
      refine lv_bipush (v := (-9)) hx hb dX3_settle_153 (by decide) ?_
      exact W.iret (v := (-9)) hx hb hr (fun t ht hW => ⟨⟨(-9), ((mS σ), (mT σ), (mK σ), (s_F_fit, s_F_left, (fLeftBy (mF σ))), (mRow σ), (mRowMany σ), (mLots σ), s_refused), rfl, hv, P_at ht hP⟩, hS.F ht⟩) hS.2.2 dX3_settle_155
    · have hv := hv.2 c84
      refine lv_iconst (v := 0) hx hb dX3_settle_87 (by decide) ?_
      refine lv_istore (lv' := [(6, .int 0), (0, .ref (ad 0)), (1, .int p0), (2, .int p1), (3, .int p2), (5, .int x5)]) hx hb dX3_settle_88 hl (by decide) rfl (fun ls hl => ?_)
      exact hv H locs ls hP hD hS (lv_sub hl [1, 2, 3, 4, 5, 0] rfl))
  have hv := hv (by
    intro x5 x6 s_F_fit s_F_left s_refused hv H locs ls hP hD hS hl
    refine lv_iload hx hb dX3_settle_90 (lv_at hl 5 rfl) ?_
    refine lv_aload_n hx hb dX3_settle_92 rfl (lv_at hl 0 rfl) ?_
    refine va_get (D := gD g) (ci := 3) (v := .int (sNq (mS σ))) (C := RX3) (T := TX3) (N := 33) hx hb hts hi3 hown hK hP 0 rfl rfl 12 (by decide) k1 (fun _ h9 => h9) rfl dX3_settle_93 ?_
    refine lv_iload hx hb dX3_settle_96 (lv_at hl 4 rfl) ?_
    have h8 := hv.1
    have hv := hv.2
    have hPc : va_P (gD g) vwCl [] H := fun k q h => by simp at h
    refine ro_int (va_runS (As := [.int (sNq (mS σ)), .int x5]) (rest := [.int x6]) ⟨hx, hb, hml, hown, hts⟩ (h_X3_power g (sNq (mS σ)) x5 h8) (va_cwS 2 hts gX3_settle_X3_power rfl rfl rfl (by decide +kernel) ⟨Nat.le_of_ble_eq_true rfl, Nat.le_of_ble_eq_true rfl⟩) ⟨RO_blind, fun U hU hW => ⟨rfl, by rw [hU]; exact hPc, va_K.moved hW.alike hK, hE.call hW hU hS (fun _ h => h.elim)⟩⟩ rfl rfl hl.1 rfl (lv_room (Nat.le_of_ble_eq_true rfl)) dX3_settle_98 ⟨Nat.le_of_ble_eq_true rfl, Nat.le_of_ble_eq_true rfl⟩) hS hP (fun r H locs hw hP hS => ?_)
    subst r
    refine lv_icmp_ge (tgt := 147) hx hb dX3_settle_101 (by decide) (fun c101 => ?_) (fun c101 => ?_)
    · have hv := hv.1 c101
      refine lv_iinc (v := (x5 + 1)) (lv' := [(5, .int (x5 + 1)), (0, .ref (ad 0)), (1, .int p0), (2, .int p1), (3, .int p2), (6, .int x6)]) hx hb dX3_settle_147 hl (k := 4) rfl (by first | rfl | exact congrArg _ (by decide)) (by decide) rfl (fun ls hl => ?_)
      refine lv_goto (tgt := 81) hx hb dX3_settle_150 (by decide) ?_
      exact hv H locs ls hP hD hS (lv_sub hl [1, 2, 3, 4, 0] rfl)
    · have hv := hv.2 c101
      refine lv_aload_n hx hb dX3_settle_104 rfl (lv_at hl 0 rfl) ?_
      refine lv_iload_n hx hb dX3_settle_105 rfl (lv_at hl 1 rfl) ?_
      refine lv_iload_n hx hb dX3_settle_106 rfl (lv_at hl 2 rfl) ?_
      refine lv_iload hx hb dX3_settle_107 (lv_at hl 5 rfl) ?_
      refine lv_iload hx hb dX3_settle_109 (lv_at hl 4 rfl) ?_
      have h8 := hv.1
      have hv := hv.2
      have hPc := hP
      have hDc := hD
      refine rw_int (va_runV (As := [.int p0, .int p1, .int x6, .int x5]) (rest := []) ⟨hx, hb, hml, hown, hts⟩ (h_X3_isSettled g ad ((mS σ), (mT σ), (mK σ), (s_F_fit, s_F_left, (fLeftBy (mF σ))), (mRow σ), (mRowMany σ), (mLots σ), s_refused) p0 p1 x6 x5 h8) (cwV 4 hts gX3_settle_X3_isSettled rfl rfl rfl (by decide +kernel) ⟨Nat.le_of_ble_eq_true rfl, Nat.le_of_ble_eq_true rfl⟩) ⟨RW_blind, va_recv hK hP (ci := 3) (q0 := 0) rfl rfl, fun U hU hW => ⟨rfl, by rw [hU]; exact hPc, va_K.moved hW.alike hK, hE.call hW hU hS (fun _ h => h), hDc⟩⟩ rfl rfl hl.1 rfl (lv_room (Nat.le_of_ble_eq_true rfl)) dX3_settle_111 ⟨Nat.le_of_ble_eq_true rfl, Nat.le_of_ble_eq_true rfl⟩) hS (fun _ h => h) (fun r u H1 locs hw hP1 hk hS => ?_)
      obtain ⟨e111_left, hw1, hw⟩ := hw; subst r; subst u
      have hv := hv e111_left
      have hP := hP1
      generalize H1 = H at hP hS ⊢
      have hP : va_P (gD g) vwCl (wM g ad ((mS σ), (mT σ), (mK σ), (s_F_fit, (e111_left), (fLeftBy (mF σ))), (mRow σ), (mRowMany σ), (mLots σ), s_refused)) H := hP
      have hD : va_D (AD ad 0 21) (wM g ad ((mS σ), (mT σ), (mK σ), (s_F_fit, (e111_left), (fLeftBy (mF σ))), (mRow σ), (mRowMany σ), (mLots σ), s_refused)) := hD.addr (by rfl)
      refine lv_if_eq (tgt := 141) hx hb dX3_settle_114 (by decide) (fun c114 => ?_) (fun c114 => ?_)
      · have hv := hv.1 c114
        refine lv_iinc (v := (x6 + 1)) (lv' := [(6, .int (x6 + 1)), (0, .ref (ad 0)), (1, .int p0), (2, .int p1), (3, .int p2), (5, .int x5)]) hx hb dX3_settle_141 hl (k := 5) rfl (by first | rfl | exact congrArg _ (by decide)) (by decide) rfl (fun ls hl => ?_)
        refine lv_goto (tgt := 90) hx hb dX3_settle_144 (by decide) ?_
        exact hv H locs ls hP hD hS (lv_sub hl [1, 2, 3, 4, 5, 0] rfl)
      · have hv := hv.2 c114
        refine lv_iload_n hx hb dX3_settle_117 rfl (lv_at hl 3 rfl) ?_
        refine lv_if_ne (tgt := 126) hx hb dX3_settle_118 (by decide) (fun c118 => ?_) (fun c118 => ?_)
        · have hv := hv.1 c118
          refine lv_iload hx hb dX3_settle_126 (lv_at hl 5 rfl) ?_
          refine lv_aload_n hx hb dX3_settle_128 rfl (lv_at hl 0 rfl) ?_
          refine va_get (D := gD g) (ci := 3) (v := .int (sNq (mS σ))) (C := RX3) (T := TX3) (N := 33) hx hb hts hi3 hown hK hP 0 rfl rfl 12 (by decide) k1 (fun _ h9 => h9) rfl dX3_settle_129 ?_
          refine lv_iload hx hb dX3_settle_132 (lv_at hl 4 rfl) ?_
          refine lv_iconst (v := 1) hx hb dX3_settle_134 (by decide) ?_
          refine lv_isub hx hb dX3_settle_135 ?_
          have h8 := hv.1
          have hv := hv.2
          have hPc : va_P (gD g) vwCl [] H := fun k q h => by simp at h
          refine ro_int (va_runS (As := [.int (sNq (mS σ)), .int (x5 - 1)]) (rest := [.int x6]) ⟨hx, hb, hml, hown, hts⟩ (h_X3_power g (sNq (mS σ)) (x5 - 1) h8) (va_cwS 2 hts gX3_settle_X3_power rfl rfl rfl (by decide +kernel) ⟨Nat.le_of_ble_eq_true rfl, Nat.le_of_ble_eq_true rfl⟩) ⟨RO_blind, fun U hU hW => ⟨rfl, by rw [hU]; exact hPc, va_K.moved hW.alike hK, hE.call hW hU hS (fun _ h => h.elim)⟩⟩ rfl rfl hl.1 rfl (lv_room (Nat.le_of_ble_eq_true rfl)) dX3_settle_136 ⟨Nat.le_of_ble_eq_true rfl, Nat.le_of_ble_eq_true rfl⟩) hS hP (fun r H locs hw hP hS => ?_)
          subst r
          have h0 := hv.1
          have hv := hv.2
          refine lv_idiv hx hb dX3_settle_139 h0 ?_
          exact W.iret (v := (x6 / (powI (sNq (mS σ)) (x5 - 1).toNatClampNeg))) hx hb hr (fun t ht hW => ⟨⟨(x6 / (powI (sNq (mS σ)) (x5 - 1).toNatClampNeg)), ((mS σ), (mT σ), (mK σ), (s_F_fit, (e111_left), (fLeftBy (mF σ))), (mRow σ), (mRowMany σ), (mLots σ), s_refused), rfl, hv, P_at ht hP⟩, hS.F ht⟩) hS.2.2 dX3_settle_140
        · have hv := hv.2 c118
          refine lv_iload hx hb dX3_settle_121 (lv_at hl 4 rfl) ?_
          refine lv_goto (tgt := 140) hx hb dX3_settle_123 (by decide) ?_
          exact W.iret (v := x5) hx hb hr (fun t ht hW => ⟨⟨x5, ((mS σ), (mT σ), (mK σ), (s_F_fit, (e111_left), (fLeftBy (mF σ))), (mRow σ), (mRowMany σ), (mLots σ), s_refused), rfl, hv, P_at ht hP⟩, hS.F ht⟩) hS.2.2 dX3_settle_140)
  obtain ⟨H, hH⟩ : ∃ z, z = s.heap := ⟨_, rfl⟩
  obtain ⟨locs, hL⟩ : ∃ z : List Loc, z = [] := ⟨_, rfl⟩
  rw [← hL] at hS ⊢
  have hS : va_S (AD ad 0 21) s.heap H locs := by rw [hH]; exact hS
  rw [← hH] at hP ⊢
  clear hH hL
  refine lv_aload_n hx hb dX3_settle_0 rfl (lv_at hl 0 rfl) ?_
  refine lv_iload_n hx hb dX3_settle_1 rfl (lv_at hl 1 rfl) ?_
  have hPc := hP
  refine ro_int (va_runV (As := [.int p0]) (rest := []) ⟨hx, hb, hml, hown, hts⟩ (h_X3_isWitness g ad σ p0) (cwV 1 hts gX3_settle_X3_isWitness rfl rfl rfl (by decide +kernel) ⟨Nat.le_of_ble_eq_true rfl, Nat.le_of_ble_eq_true rfl⟩) ⟨RO_blind, va_recv hK hP (ci := 3) (q0 := 0) rfl rfl, fun U hU hW => ⟨rfl, by rw [hU]; exact hPc, va_K.moved hW.alike hK, hE.call hW hU hS (fun _ h => h.elim)⟩⟩ rfl rfl hl.1 rfl (lv_room (Nat.le_of_ble_eq_true rfl)) dX3_settle_2 ⟨Nat.le_of_ble_eq_true rfl, Nat.le_of_ble_eq_true rfl⟩) hS hP (fun r H locs hw hP hS => ?_)
  subst r
  refine lv_if_eq (tgt := 15) hx hb dX3_settle_5 (by decide) (fun c5 => ?_) (fun c5 => ?_)
  · have hv := hv.1 c5
    refine lv_iconst (v := (-1)) hx hb dX3_settle_15 (by decide) ?_
    refine lv_goto (tgt := 34) hx hb dX3_settle_16 (by decide) ?_
    refine lv_istore (lv' := [(4, .int (-1)), (0, .ref (ad 0)), (1, .int p0), (2, .int p1), (3, .int p2)]) hx hb dX3_settle_34 hl (by decide) rfl (fun ls hl => ?_)
    refine lv_iload hx hb dX3_settle_36 (lv_at hl 0 rfl) ?_
    refine lv_if_eq (tgt := 48) hx hb dX3_settle_38 (by decide) (fun c38 => ?_) (fun c38 => ?_)
    · exact absurd c38 (by decide)
    · refine lv_aload_n hx hb dX3_settle_41 rfl (lv_at hl 1 rfl) ?_
      refine lv_iload hx hb dX3_settle_42 (lv_at hl 0 rfl) ?_
      have h8 := hv.1
      have hv := hv.2
      have hPc := hP
      have hDc := hD
      refine rw_int (va_runV (As := [.int (-1)]) (rest := []) ⟨hx, hb, hml, hown, hts⟩ (h_X3_no g ad σ (-1) h8) (cwV 1 hts gX3_settle_X3_no rfl rfl rfl (by decide +kernel) ⟨Nat.le_of_ble_eq_true rfl, Nat.le_of_ble_eq_true rfl⟩) ⟨RW_blind, va_recv hK hP (ci := 3) (q0 := 0) rfl rfl, fun U hU hW => ⟨rfl, by rw [hU]; exact hPc, va_K.moved hW.alike hK, hE.call hW hU hS (fun _ h => h), hDc⟩⟩ rfl rfl hl.1 rfl (lv_room (Nat.le_of_ble_eq_true rfl)) dX3_settle_44 ⟨Nat.le_of_ble_eq_true rfl, Nat.le_of_ble_eq_true rfl⟩) hS (fun _ h => h) (fun r u H1 locs hw hP1 hk hS => ?_)
      obtain ⟨hw1, hw⟩ := hw; subst r; subst u
      have hP := hP1
      generalize H1 = H at hP hS ⊢
      have hP : va_P (gD g) vwCl (wM g ad ((mS σ), (mT σ), (mK σ), (mF σ), (mRow σ), (mRowMany σ), (mLots σ), (refuX (mRefused σ) ((-1) : Int32)))) H := hP
      have hD : va_D (AD ad 0 21) (wM g ad ((mS σ), (mT σ), (mK σ), (mF σ), (mRow σ), (mRowMany σ), (mLots σ), (refuX (mRefused σ) ((-1) : Int32)))) := hD.addr (by rfl)
      exact W.iret (v := (((-1) : Int32))) hx hb hr (fun t ht hW => ⟨⟨(((-1) : Int32)), ((mS σ), (mT σ), (mK σ), (mF σ), (mRow σ), (mRowMany σ), (mLots σ), (refuX (mRefused σ) ((-1) : Int32))), rfl, hv, P_at ht hP⟩, hS.F ht⟩) hS.2.2 dX3_settle_47
  · have hv := hv.2 c5
    refine lv_iload_n hx hb dX3_settle_8 rfl (lv_at hl 2 rfl) ?_
    have hPc : va_P (gD g) vwCl [] H := fun k q h => by simp at h
    refine ro_int (va_runS (As := [.int p1]) (rest := []) ⟨hx, hb, hml, hown, hts⟩ (h_X3_isFact g p1) (va_cwS 1 hts gX3_settle_X3_isFact rfl rfl rfl (by decide +kernel) ⟨Nat.le_of_ble_eq_true rfl, Nat.le_of_ble_eq_true rfl⟩) ⟨RO_blind, fun U hU hW => ⟨rfl, by rw [hU]; exact hPc, va_K.moved hW.alike hK, hE.call hW hU hS (fun _ h => h.elim)⟩⟩ rfl rfl hl.1 rfl (lv_room (Nat.le_of_ble_eq_true rfl)) dX3_settle_9 ⟨Nat.le_of_ble_eq_true rfl, Nat.le_of_ble_eq_true rfl⟩) hS hP (fun r H locs hw hP hS => ?_)
    subst r
    refine lv_if_ne (tgt := 19) hx hb dX3_settle_12 (by decide) (fun c12 => ?_) (fun c12 => ?_)
    · have hv := hv.1 c12
      refine lv_iload_n hx hb dX3_settle_19 rfl (lv_at hl 3 rfl) ?_
      refine lv_iconst (v := 0) hx hb dX3_settle_20 (by decide) ?_
      refine lv_iconst (v := 1) hx hb dX3_settle_21 (by decide) ?_
      have hPc : va_P (gD g) vwCl [] H := fun k q h => by simp at h
      refine ro_int (va_runS (As := [.int p2, .int 0, .int 1]) (rest := []) ⟨hx, hb, hml, hown, hts⟩ (h_X3_isIn g p2 0 1) (va_cwS 3 hts gX3_settle_X3_isIn rfl rfl rfl (by decide +kernel) ⟨Nat.le_of_ble_eq_true rfl, Nat.le_of_ble_eq_true rfl⟩) ⟨RO_blind, fun U hU hW => ⟨rfl, by rw [hU]; exact hPc, va_K.moved hW.alike hK, hE.call hW hU hS (fun _ h => h.elim)⟩⟩ rfl rfl hl.1 rfl (lv_room (Nat.le_of_ble_eq_true rfl)) dX3_settle_22 ⟨Nat.le_of_ble_eq_true rfl, Nat.le_of_ble_eq_true rfl⟩) hS hP (fun r H locs hw hP hS => ?_)
      subst r
      refine lv_if_ne (tgt := 33) hx hb dX3_settle_25 (by decide) (fun c25 => ?_) (fun c25 => ?_)
      · have hv := hv.1 c25
        refine lv_iconst (v := 0) hx hb dX3_settle_33 (by decide) ?_
        refine lv_istore (lv' := [(4, .int 0), (0, .ref (ad 0)), (1, .int p0), (2, .int p1), (3, .int p2)]) hx hb dX3_settle_34 hl (by decide) rfl (fun ls hl => ?_)
        refine lv_iload hx hb dX3_settle_36 (lv_at hl 0 rfl) ?_
        refine lv_if_eq (tgt := 48) hx hb dX3_settle_38 (by decide) (fun c38 => ?_) (fun c38 => ?_)
        · refine lv_aload_n hx hb dX3_settle_48 rfl (lv_at hl 1 rfl) ?_
          refine lv_iconst (v := 0) hx hb dX3_settle_49 (by decide) ?_
          have h8 := hv.1
          have hv := hv.2
          have hPc := hP
          have hDc := hD
          refine rw_void (va_runV (As := [.int 0]) (rest := []) ⟨hx, hb, hml, hown, hts⟩ (h_X3_findFit g ad σ 0 h8) (cwV 1 hts gX3_settle_X3_findFit rfl rfl rfl (by decide +kernel) ⟨Nat.le_of_ble_eq_true rfl, Nat.le_of_ble_eq_true rfl⟩) ⟨RW_blind, va_recv hK hP (ci := 3) (q0 := 0) rfl rfl, fun U hU hW => ⟨rfl, by rw [hU]; exact hPc, va_K.moved hW.alike hK, hE.call hW hU hS (fun _ h => h), hDc⟩⟩ rfl rfl hl.1 rfl (lv_room (Nat.le_of_ble_eq_true rfl)) dX3_settle_50 ⟨Nat.le_of_ble_eq_true rfl, Nat.le_of_ble_eq_true rfl⟩) hS (fun _ h => h) (fun u H1 locs hw hP1 hk hS => ?_)
          subst u
          have hP := hP1
          generalize H1 = H at hP hS ⊢
          have hP : va_P (gD g) vwCl (wM g ad ((mS σ), (mT σ), (mK σ), ((fitM (mS σ) (0 : Int32) (fFit (mF σ))), (fLeft (mF σ)), (fLeftBy (mF σ))), (mRow σ), (mRowMany σ), (mLots σ), (mRefused σ))) H := hP
          have hD : va_D (AD ad 0 21) (wM g ad ((mS σ), (mT σ), (mK σ), ((fitM (mS σ) (0 : Int32) (fFit (mF σ))), (fLeft (mF σ)), (fLeftBy (mF σ))), (mRow σ), (mRowMany σ), (mLots σ), (mRefused σ))) := hD.addr (by rfl)
          refine lv_aload_n hx hb dX3_settle_53 rfl (lv_at hl 1 rfl) ?_
          refine va_get (D := gD g) (ci := 3) (v := .ref (ad 17)) (C := RX3) (T := TX3) (N := 33) hx hb hts hi3 hown hK hP 0 rfl rfl 27 (by decide) k0 (fun _ h9 => h9) rfl dX3_settle_54 ?_
          have hPc : va_P (gD g) vwCl (wA g ad 17 (fitM (mS σ) (0 : Int32) (fFit (mF σ)))) H := hP.sub [17] rfl
          refine ro_int (va_runS (As := [.ref (ad 17)]) (rest := []) ⟨hx, hb, hml, hown, hts⟩ (h_X3_sureIn g ad 17 (fitM (mS σ) (0 : Int32) (fFit (mF σ)))) (va_cwS 1 hts gX3_settle_X3_sureIn rfl rfl rfl (by decide +kernel) ⟨Nat.le_of_ble_eq_true rfl, Nat.le_of_ble_eq_true rfl⟩) ⟨RO_blind, fun U hU hW => ⟨rfl, by rw [hU]; exact hPc, va_K.moved hW.alike hK, hE.call hW hU hS (fun _ h => h.elim)⟩⟩ rfl rfl hl.1 rfl (lv_room (Nat.le_of_ble_eq_true rfl)) dX3_settle_57 ⟨Nat.le_of_ble_eq_true rfl, Nat.le_of_ble_eq_true rfl⟩) hS hP (fun r H locs hw hP hS => ?_)
          subst r
          refine lv_iload_n hx hb dX3_settle_60 rfl (lv_at hl 3 rfl) ?_
          have hPc : va_P (gD g) vwCl [] H := fun k q h => by simp at h
          refine ro_int (va_runS (As := [.int (sureOf (fitM (mS σ) (0 : Int32) (fFit (mF σ)))), .int p1]) (rest := []) ⟨hx, hb, hml, hown, hts⟩ (h_X3_has g (sureOf (fitM (mS σ) (0 : Int32) (fFit (mF σ)))) p1) (va_cwS 2 hts gX3_settle_X3_has rfl rfl rfl (by decide +kernel) ⟨Nat.le_of_ble_eq_true rfl, Nat.le_of_ble_eq_true rfl⟩) ⟨RO_blind, fun U hU hW => ⟨rfl, by rw [hU]; exact hPc, va_K.moved hW.alike hK, hE.call hW hU hS (fun _ h => h.elim)⟩⟩ rfl rfl hl.1 rfl (lv_room (Nat.le_of_ble_eq_true rfl)) dX3_settle_61 ⟨Nat.le_of_ble_eq_true rfl, Nat.le_of_ble_eq_true rfl⟩) hS hP (fun r H locs hw hP hS => ?_)
          subst r
          refine lv_if_eq (tgt := 78) hx hb dX3_settle_64 (by decide) (fun c64 => ?_) (fun c64 => ?_)
          · have hv := hv.1 c64
            refine lv_iconst (v := 1) hx hb dX3_settle_78 (by decide) ?_
            refine lv_istore (lv' := [(5, .int 1), (4, .int 0), (0, .ref (ad 0)), (1, .int p0), (2, .int p1), (3, .int p2)]) hx hb dX3_settle_79 hl (by decide) rfl (fun ls hl => ?_)
            exact hv H locs ls hP hD hS (lv_sub hl [2, 3, 4, 5, 0] rfl)
          · have hv := hv.2 c64
            refine lv_iload_n hx hb dX3_settle_67 rfl (lv_at hl 4 rfl) ?_
            refine lv_if_ne (tgt := 75) hx hb dX3_settle_68 (by decide) (fun c68 => ?_) (fun c68 => ?_)
            · have hv := hv.1 c68
              refine lv_bipush (v := (-9)) hx hb dX3_settle_75 (by decide) ?_
              exact W.iret (v := (-9)) hx hb hr (fun t ht hW => ⟨⟨(-9), ((mS σ), (mT σ), (mK σ), ((fitM (mS σ) (0 : Int32) (fFit (mF σ))), (fLeft (mF σ)), (fLeftBy (mF σ))), (mRow σ), (mRowMany σ), (mLots σ), (mRefused σ)), rfl, hv, P_at ht hP⟩, hS.F ht⟩) hS.2.2 dX3_settle_77
            · have hv := hv.2 c68
              refine lv_iconst (v := 0) hx hb dX3_settle_71 (by decide) ?_
              refine lv_goto (tgt := 77) hx hb dX3_settle_72 (by decide) ?_
              exact W.iret (v := 0) hx hb hr (fun t ht hW => ⟨⟨0, ((mS σ), (mT σ), (mK σ), ((fitM (mS σ) (0 : Int32) (fFit (mF σ))), (fLeft (mF σ)), (fLeftBy (mF σ))), (mRow σ), (mRowMany σ), (mLots σ), (mRefused σ)), rfl, hv, P_at ht hP⟩, hS.F ht⟩) hS.2.2 dX3_settle_77
        · exact (c38 (by decide)).elim
      · have hv := hv.2 c25
        refine lv_bipush (v := (-2)) hx hb dX3_settle_28 (by decide) ?_
        refine lv_goto (tgt := 34) hx hb dX3_settle_30 (by decide) ?_
        refine lv_istore (lv' := [(4, .int (-2)), (0, .ref (ad 0)), (1, .int p0), (2, .int p1), (3, .int p2)]) hx hb dX3_settle_34 hl (by decide) rfl (fun ls hl => ?_)
        refine lv_iload hx hb dX3_settle_36 (lv_at hl 0 rfl) ?_
        refine lv_if_eq (tgt := 48) hx hb dX3_settle_38 (by decide) (fun c38 => ?_) (fun c38 => ?_)
        · exact absurd c38 (by decide)
        · refine lv_aload_n hx hb dX3_settle_41 rfl (lv_at hl 1 rfl) ?_
          refine lv_iload hx hb dX3_settle_42 (lv_at hl 0 rfl) ?_
          have h8 := hv.1
          have hv := hv.2
          have hPc := hP
          have hDc := hD
          refine rw_int (va_runV (As := [.int (-2)]) (rest := []) ⟨hx, hb, hml, hown, hts⟩ (h_X3_no g ad σ (-2) h8) (cwV 1 hts gX3_settle_X3_no rfl rfl rfl (by decide +kernel) ⟨Nat.le_of_ble_eq_true rfl, Nat.le_of_ble_eq_true rfl⟩) ⟨RW_blind, va_recv hK hP (ci := 3) (q0 := 0) rfl rfl, fun U hU hW => ⟨rfl, by rw [hU]; exact hPc, va_K.moved hW.alike hK, hE.call hW hU hS (fun _ h => h), hDc⟩⟩ rfl rfl hl.1 rfl (lv_room (Nat.le_of_ble_eq_true rfl)) dX3_settle_44 ⟨Nat.le_of_ble_eq_true rfl, Nat.le_of_ble_eq_true rfl⟩) hS (fun _ h => h) (fun r u H1 locs hw hP1 hk hS => ?_)
          obtain ⟨hw1, hw⟩ := hw; subst r; subst u
          have hP := hP1
          generalize H1 = H at hP hS ⊢
          have hP : va_P (gD g) vwCl (wM g ad ((mS σ), (mT σ), (mK σ), (mF σ), (mRow σ), (mRowMany σ), (mLots σ), (refuX (mRefused σ) ((-2) : Int32)))) H := hP
          have hD : va_D (AD ad 0 21) (wM g ad ((mS σ), (mT σ), (mK σ), (mF σ), (mRow σ), (mRowMany σ), (mLots σ), (refuX (mRefused σ) ((-2) : Int32)))) := hD.addr (by rfl)
          exact W.iret (v := (((-2) : Int32))) hx hb hr (fun t ht hW => ⟨⟨(((-2) : Int32)), ((mS σ), (mT σ), (mK σ), (mF σ), (mRow σ), (mRowMany σ), (mLots σ), (refuX (mRefused σ) ((-2) : Int32))), rfl, hv, P_at ht hP⟩, hS.F ht⟩) hS.2.2 dX3_settle_47
    · have hv := hv.2 c12
      refine lv_iconst (v := (-1)) hx hb dX3_settle_15 (by decide) ?_
      refine lv_goto (tgt := 34) hx hb dX3_settle_16 (by decide) ?_
      refine lv_istore (lv' := [(4, .int (-1)), (0, .ref (ad 0)), (1, .int p0), (2, .int p1), (3, .int p2)]) hx hb dX3_settle_34 hl (by decide) rfl (fun ls hl => ?_)
      refine lv_iload hx hb dX3_settle_36 (lv_at hl 0 rfl) ?_
      refine lv_if_eq (tgt := 48) hx hb dX3_settle_38 (by decide) (fun c38 => ?_) (fun c38 => ?_)
      · exact absurd c38 (by decide)
      · refine lv_aload_n hx hb dX3_settle_41 rfl (lv_at hl 1 rfl) ?_
        refine lv_iload hx hb dX3_settle_42 (lv_at hl 0 rfl) ?_
        have h8 := hv.1
        have hv := hv.2
        have hPc := hP
        have hDc := hD
        refine rw_int (va_runV (As := [.int (-1)]) (rest := []) ⟨hx, hb, hml, hown, hts⟩ (h_X3_no g ad σ (-1) h8) (cwV 1 hts gX3_settle_X3_no rfl rfl rfl (by decide +kernel) ⟨Nat.le_of_ble_eq_true rfl, Nat.le_of_ble_eq_true rfl⟩) ⟨RW_blind, va_recv hK hP (ci := 3) (q0 := 0) rfl rfl, fun U hU hW => ⟨rfl, by rw [hU]; exact hPc, va_K.moved hW.alike hK, hE.call hW hU hS (fun _ h => h), hDc⟩⟩ rfl rfl hl.1 rfl (lv_room (Nat.le_of_ble_eq_true rfl)) dX3_settle_44 ⟨Nat.le_of_ble_eq_true rfl, Nat.le_of_ble_eq_true rfl⟩) hS (fun _ h => h) (fun r u H1 locs hw hP1 hk hS => ?_)
        obtain ⟨hw1, hw⟩ := hw; subst r; subst u
        have hP := hP1
        generalize H1 = H at hP hS ⊢
        have hP : va_P (gD g) vwCl (wM g ad ((mS σ), (mT σ), (mK σ), (mF σ), (mRow σ), (mRowMany σ), (mLots σ), (refuX (mRefused σ) ((-1) : Int32)))) H := hP
        have hD : va_D (AD ad 0 21) (wM g ad ((mS σ), (mT σ), (mK σ), (mF σ), (mRow σ), (mRowMany σ), (mLots σ), (refuX (mRefused σ) ((-1) : Int32)))) := hD.addr (by rfl)
        exact W.iret (v := (((-1) : Int32))) hx hb hr (fun t ht hW => ⟨⟨(((-1) : Int32)), ((mS σ), (mT σ), (mK σ), (mF σ), (mRow σ), (mRowMany σ), (mLots σ), (refuX (mRefused σ) ((-1) : Int32))), rfl, hv, P_at ht hP⟩, hS.F ht⟩) hS.2.2 dX3_settle_47

set_option maxHeartbeats 4000000 in
set_option maxRecDepth 100000 in
theorem m_X3_words (l : Launch) (h_X3_answerOf : C_X3_answerOf l) (h_X3_isIn : C_X3_isIn l) (h_X3_isWitness : C_X3_isWitness l) (h_X3_no : C_X3_no l) (g : CX) (ad : Nat → Nat) (σ : KM) (p0 : Int32) (p1 : Int32) (Post : Int32 → KM → Prop) (hv : vc_X3_words σ p0 p1 Post) : Met l yX3_words wsX3_words { frames := 4, cells := 0, slots := 0, locals := 93 } (va_Pc [.ref (ad 0), .int p0, .int p1] (RW g (AD ad 0 21) (wM g ad σ))) (va_Qi (fun (r : Int32) (u : KM) => Post r u) (fun u t => va_P (gD g) vwCl (wM g ad u) t.heap) (AD ad 0 21)) 0 0 (AD ad 0 21) := by
  unfold vc_X3_words at hv
  refine Met.ofW (cc := cX3_words) (maxL := 6) (ret := (some .int)) (by decide) rfl ?_
  intro p e s m args below meth c s₁ B hml hv0
  obtain ⟨rfl, hP, hK, hE, hD⟩ := hv0
  have hx := B.exec
  have hb := B.bytes
  have hr := B.returns
  have hts := atoms_spec (ws := wsX3_words) B.pre
  have hown : s.vm.findClass RX3 = some m.cls := findClass_of_methodNamed B.named
  have hlocks := B.notSynchronized
  have hi3 : ∀ w ∈ wsX30, w ∈ wsX3_words := by decide +kernel
  have k0 := hts (.fieldLink RX3 70 "JuryHearsAnswersModel" "questions" "I") (by decide +kernel)
  have k1 := hts (.fieldLink RX3 134 "JuryHearsAnswersModel" "theCase" "I") (by decide +kernel)
  have k2 := hts (.fieldLink RX3 127 "JuryHearsAnswersModel" "asked" "I") (by decide +kernel)
  have hS : va_S (AD ad 0 21) s.heap s.heap [] := va_S.rf
  have hP : va_P (gD g) vwCl (wM g ad σ) s.heap := hP
  have hl := lv_entry ([.ref (ad 0), .int p0, .int p1]) (n := 6) (Nat.le_of_ble_eq_true rfl)
  rw [lg_entry_eq]
  generalize (lg_sl ([.ref (ad 0), .int p0, .int p1]) ++ List.replicate (6 - (lg_sl ([.ref (ad 0), .int p0, .int p1])).length) Slot.unset).toArray = ls at hl ⊢
  have hl : lv_has ls 6 [(0, .ref (ad 0)), (1, .int p0), (2, .int p1)] := hl
  have hv := hv (fun (x4 : Int32) (x5 : Int32) (s_refused : FI) => ∀ (H : Heap) (locs : List Loc) (ls : Array Slot), va_P (gD g) vwCl (wM g ad ((mS σ), (mT σ), (mK σ), (mF σ), (mRow σ), (mRowMany σ), (mLots σ), s_refused)) H → va_D (AD ad 0 21) (wM g ad ((mS σ), (mT σ), (mK σ), (mF σ), (mRow σ), (mRowMany σ), (mLots σ), s_refused)) → va_S (AD ad 0 21) s.heap H locs → lv_has ls 6 [(0, .ref (ad 0)), (1, .int p0), (2, .int p1), (4, .int x4), (5, .int x5)] → W p l e { frames := 4, cells := 0, slots := 0, locals := 93 } s m ([.ref (ad 0), .int p0, .int p1] : List Value).toArray below meth c H locs 0 0 (MQ below (va_Qi (fun (r : Int32) (u : KM) => Post r u) (fun u t => va_P (gD g) vwCl (wM g ad u) t.heap) (AD ad 0 21)) ([.ref (ad 0), .int p0, .int p1] : List Value).toArray s 0 0 (AD ad 0 21)) (F0 m 44 ls []))
  have hv := hv (by
    intro x4 x5 s_refused hv H locs ls hP hD hS hl
    refine lv_iload hx hb dX3_words_44 (lv_at hl 4 rfl) ?_
    refine lv_aload_n hx hb dX3_words_46 rfl (lv_at hl 0 rfl) ?_
    refine va_get (D := gD g) (ci := 3) (v := .int (sNq (mS σ))) (C := RX3) (T := TX3) (N := 33) hx hb hts hi3 hown hK hP 0 rfl rfl 12 (by decide) k0 (fun _ h9 => h9) rfl dX3_words_47 ?_
    refine lv_icmp_ge (tgt := 90) hx hb dX3_words_50 (by decide) (fun c50 => ?_) (fun c50 => ?_)
    · have hv := hv.1 c50
      refine lv_iload hx hb dX3_words_90 (lv_at hl 3 rfl) ?_
      exact W.iret (v := x4) hx hb hr (fun t ht hW => ⟨⟨x4, ((mS σ), (mT σ), (mK σ), (mF σ), (mRow σ), (mRowMany σ), (mLots σ), s_refused), rfl, hv, P_at ht hP⟩, hS.F ht⟩) hS.2.2 dX3_words_92
    · have hv := hv.2 c50
      refine lv_iload hx hb dX3_words_53 (lv_at hl 3 rfl) ?_
      refine lv_aload_n hx hb dX3_words_55 rfl (lv_at hl 0 rfl) ?_
      refine lv_iload_n hx hb dX3_words_56 rfl (lv_at hl 1 rfl) ?_
      refine lv_iload hx hb dX3_words_57 (lv_at hl 4 rfl) ?_
      refine lv_aload_n hx hb dX3_words_59 rfl (lv_at hl 0 rfl) ?_
      refine va_get (D := gD g) (ci := 3) (v := .int (sCase (mS σ))) (C := RX3) (T := TX3) (N := 33) hx hb hts hi3 hown hK hP 0 rfl rfl 11 (by decide) k1 (fun _ h9 => h9) rfl dX3_words_60 ?_
      refine lv_aload_n hx hb dX3_words_63 rfl (lv_at hl 0 rfl) ?_
      refine va_get (D := gD g) (ci := 3) (v := .int (sAsked (mS σ))) (C := RX3) (T := TX3) (N := 33) hx hb hts hi3 hown hK hP 0 rfl rfl 15 (by decide) k2 (fun _ h9 => h9) rfl dX3_words_64 ?_
      refine lv_iconst (v := 1) hx hb dX3_words_67 (by decide) ?_
      refine lv_iadd hx hb dX3_words_68 ?_
      have h8 := hv.1
      have hv := hv.2
      have hPc := hP
      refine ro_int (va_runV (As := [.int p0, .int x5, .int (sCase (mS σ)), .int ((sAsked (mS σ)) + 1)]) (rest := [.int x4]) ⟨hx, hb, hml, hown, hts⟩ (h_X3_answerOf g ad ((mS σ), (mT σ), (mK σ), (mF σ), (mRow σ), (mRowMany σ), (mLots σ), s_refused) p0 x5 (sCase (mS σ)) ((sAsked (mS σ)) + 1) h8) (cwV 4 hts gX3_words_X3_answerOf rfl rfl rfl (by decide +kernel) ⟨Nat.le_of_ble_eq_true rfl, Nat.le_of_ble_eq_true rfl⟩) ⟨RO_blind, va_recv hK hP (ci := 3) (q0 := 0) rfl rfl, fun U hU hW => ⟨rfl, by rw [hU]; exact hPc, va_K.moved hW.alike hK, hE.call hW hU hS (fun _ h => h.elim)⟩⟩ rfl rfl hl.1 rfl (lv_room (Nat.le_of_ble_eq_true rfl)) dX3_words_69 ⟨Nat.le_of_ble_eq_true rfl, Nat.le_of_ble_eq_true rfl⟩) hS hP (fun r H locs hw hP hS => ?_)
      subst r
      refine lv_iload_n hx hb dX3_words_72 rfl (lv_at hl 2 rfl) ?_
      refine lv_icmp_ne (tgt := 80) hx hb dX3_words_73 (by decide) (fun c73 => ?_) (fun c73 => ?_)
      · have hv := hv.1 c73
        refine lv_iconst (v := 0) hx hb dX3_words_80 (by decide) ?_
        refine lv_iadd hx hb dX3_words_81 ?_
        refine lv_istore (lv' := [(4, .int (x4 + 0)), (0, .ref (ad 0)), (1, .int p0), (2, .int p1), (5, .int x5)]) hx hb dX3_words_82 hl (by decide) rfl (fun ls hl => ?_)
        refine lv_iinc (v := (x5 + 1)) (lv' := [(5, .int (x5 + 1)), (4, .int (x4 + 0)), (0, .ref (ad 0)), (1, .int p0), (2, .int p1)]) hx hb dX3_words_84 hl (k := 4) rfl (by first | rfl | exact congrArg _ (by decide)) (by decide) rfl (fun ls hl => ?_)
        refine lv_goto (tgt := 44) hx hb dX3_words_87 (by decide) ?_
        exact hv H locs ls hP hD hS (lv_sub hl [2, 3, 4, 1, 0] rfl)
      · have hv := hv.2 c73
        refine lv_iconst (v := 1) hx hb dX3_words_76 (by decide) ?_
        refine lv_goto (tgt := 81) hx hb dX3_words_77 (by decide) ?_
        refine lv_iadd hx hb dX3_words_81 ?_
        refine lv_istore (lv' := [(4, .int (x4 + 1)), (0, .ref (ad 0)), (1, .int p0), (2, .int p1), (5, .int x5)]) hx hb dX3_words_82 hl (by decide) rfl (fun ls hl => ?_)
        refine lv_iinc (v := (x5 + 1)) (lv' := [(5, .int (x5 + 1)), (4, .int (x4 + 1)), (0, .ref (ad 0)), (1, .int p0), (2, .int p1)]) hx hb dX3_words_84 hl (k := 4) rfl (by first | rfl | exact congrArg _ (by decide)) (by decide) rfl (fun ls hl => ?_)
        refine lv_goto (tgt := 44) hx hb dX3_words_87 (by decide) ?_
        exact hv H locs ls hP hD hS (lv_sub hl [2, 3, 4, 1, 0] rfl))
  obtain ⟨H, hH⟩ : ∃ z, z = s.heap := ⟨_, rfl⟩
  obtain ⟨locs, hL⟩ : ∃ z : List Loc, z = [] := ⟨_, rfl⟩
  rw [← hL] at hS ⊢
  have hS : va_S (AD ad 0 21) s.heap H locs := by rw [hH]; exact hS
  rw [← hH] at hP ⊢
  clear hH hL
  refine lv_aload_n hx hb dX3_words_0 rfl (lv_at hl 0 rfl) ?_
  refine lv_iload_n hx hb dX3_words_1 rfl (lv_at hl 1 rfl) ?_
  have hPc := hP
  refine ro_int (va_runV (As := [.int p0]) (rest := []) ⟨hx, hb, hml, hown, hts⟩ (h_X3_isWitness g ad σ p0) (cwV 1 hts gX3_words_X3_isWitness rfl rfl rfl (by decide +kernel) ⟨Nat.le_of_ble_eq_true rfl, Nat.le_of_ble_eq_true rfl⟩) ⟨RO_blind, va_recv hK hP (ci := 3) (q0 := 0) rfl rfl, fun U hU hW => ⟨rfl, by rw [hU]; exact hPc, va_K.moved hW.alike hK, hE.call hW hU hS (fun _ h => h.elim)⟩⟩ rfl rfl hl.1 rfl (lv_room (Nat.le_of_ble_eq_true rfl)) dX3_words_2 ⟨Nat.le_of_ble_eq_true rfl, Nat.le_of_ble_eq_true rfl⟩) hS hP (fun r H locs hw hP hS => ?_)
  subst r
  refine lv_if_ne (tgt := 12) hx hb dX3_words_5 (by decide) (fun c5 => ?_) (fun c5 => ?_)
  · have hv := hv.1 c5
    refine lv_iload_n hx hb dX3_words_12 rfl (lv_at hl 2 rfl) ?_
    refine lv_iconst (v := 0) hx hb dX3_words_13 (by decide) ?_
    refine lv_iconst (v := 2) hx hb dX3_words_14 (by decide) ?_
    have hPc : va_P (gD g) vwCl [] H := fun k q h => by simp at h
    refine ro_int (va_runS (As := [.int p1, .int 0, .int 2]) (rest := []) ⟨hx, hb, hml, hown, hts⟩ (h_X3_isIn g p1 0 2) (va_cwS 3 hts gX3_words_X3_isIn rfl rfl rfl (by decide +kernel) ⟨Nat.le_of_ble_eq_true rfl, Nat.le_of_ble_eq_true rfl⟩) ⟨RO_blind, fun U hU hW => ⟨rfl, by rw [hU]; exact hPc, va_K.moved hW.alike hK, hE.call hW hU hS (fun _ h => h.elim)⟩⟩ rfl rfl hl.1 rfl (lv_room (Nat.le_of_ble_eq_true rfl)) dX3_words_15 ⟨Nat.le_of_ble_eq_true rfl, Nat.le_of_ble_eq_true rfl⟩) hS hP (fun r H locs hw hP hS => ?_)
    subst r
    refine lv_if_ne (tgt := 26) hx hb dX3_words_18 (by decide) (fun c18 => ?_) (fun c18 => ?_)
    · have hv := hv.1 c18
      refine lv_iconst (v := 0) hx hb dX3_words_26 (by decide) ?_
      refine lv_istore_n (lv' := [(3, .int 0), (0, .ref (ad 0)), (1, .int p0), (2, .int p1)]) hx hb dX3_words_27 rfl hl (by decide) rfl (fun ls hl => ?_)
      refine lv_iload_n hx hb dX3_words_28 rfl (lv_at hl 0 rfl) ?_
      refine lv_if_eq (tgt := 38) hx hb dX3_words_29 (by decide) (fun c29 => ?_) (fun c29 => ?_)
      · refine lv_iconst (v := 0) hx hb dX3_words_38 (by decide) ?_
        refine lv_istore (lv' := [(4, .int 0), (3, .int 0), (0, .ref (ad 0)), (1, .int p0), (2, .int p1)]) hx hb dX3_words_39 hl (by decide) rfl (fun ls hl => ?_)
        refine lv_iconst (v := 0) hx hb dX3_words_41 (by decide) ?_
        refine lv_istore (lv' := [(5, .int 0), (4, .int 0), (3, .int 0), (0, .ref (ad 0)), (1, .int p0), (2, .int p1)]) hx hb dX3_words_42 hl (by decide) rfl (fun ls hl => ?_)
        exact hv H locs ls hP hD hS (lv_sub hl [3, 4, 5, 1, 0] rfl)
      · exact (c29 (by decide)).elim
    · have hv := hv.2 c18
      refine lv_bipush (v := (-2)) hx hb dX3_words_21 (by decide) ?_
      refine lv_goto (tgt := 27) hx hb dX3_words_23 (by decide) ?_
      refine lv_istore_n (lv' := [(3, .int (-2)), (0, .ref (ad 0)), (1, .int p0), (2, .int p1)]) hx hb dX3_words_27 rfl hl (by decide) rfl (fun ls hl => ?_)
      refine lv_iload_n hx hb dX3_words_28 rfl (lv_at hl 0 rfl) ?_
      refine lv_if_eq (tgt := 38) hx hb dX3_words_29 (by decide) (fun c29 => ?_) (fun c29 => ?_)
      · exact absurd c29 (by decide)
      · refine lv_aload_n hx hb dX3_words_32 rfl (lv_at hl 1 rfl) ?_
        refine lv_iload_n hx hb dX3_words_33 rfl (lv_at hl 0 rfl) ?_
        have h8 := hv.1
        have hv := hv.2
        have hPc := hP
        have hDc := hD
        refine rw_int (va_runV (As := [.int (-2)]) (rest := []) ⟨hx, hb, hml, hown, hts⟩ (h_X3_no g ad σ (-2) h8) (cwV 1 hts gX3_words_X3_no rfl rfl rfl (by decide +kernel) ⟨Nat.le_of_ble_eq_true rfl, Nat.le_of_ble_eq_true rfl⟩) ⟨RW_blind, va_recv hK hP (ci := 3) (q0 := 0) rfl rfl, fun U hU hW => ⟨rfl, by rw [hU]; exact hPc, va_K.moved hW.alike hK, hE.call hW hU hS (fun _ h => h), hDc⟩⟩ rfl rfl hl.1 rfl (lv_room (Nat.le_of_ble_eq_true rfl)) dX3_words_34 ⟨Nat.le_of_ble_eq_true rfl, Nat.le_of_ble_eq_true rfl⟩) hS (fun _ h => h) (fun r u H1 locs hw hP1 hk hS => ?_)
        obtain ⟨hw1, hw⟩ := hw; subst r; subst u
        have hP := hP1
        generalize H1 = H at hP hS ⊢
        have hP : va_P (gD g) vwCl (wM g ad ((mS σ), (mT σ), (mK σ), (mF σ), (mRow σ), (mRowMany σ), (mLots σ), (refuX (mRefused σ) ((-2) : Int32)))) H := hP
        have hD : va_D (AD ad 0 21) (wM g ad ((mS σ), (mT σ), (mK σ), (mF σ), (mRow σ), (mRowMany σ), (mLots σ), (refuX (mRefused σ) ((-2) : Int32)))) := hD.addr (by rfl)
        exact W.iret (v := (((-2) : Int32))) hx hb hr (fun t ht hW => ⟨⟨(((-2) : Int32)), ((mS σ), (mT σ), (mK σ), (mF σ), (mRow σ), (mRowMany σ), (mLots σ), (refuX (mRefused σ) ((-2) : Int32))), rfl, hv, P_at ht hP⟩, hS.F ht⟩) hS.2.2 dX3_words_37
  · have hv := hv.2 c5
    refine lv_iconst (v := (-1)) hx hb dX3_words_8 (by decide) ?_
    refine lv_goto (tgt := 27) hx hb dX3_words_9 (by decide) ?_
    refine lv_istore_n (lv' := [(3, .int (-1)), (0, .ref (ad 0)), (1, .int p0), (2, .int p1)]) hx hb dX3_words_27 rfl hl (by decide) rfl (fun ls hl => ?_)
    refine lv_iload_n hx hb dX3_words_28 rfl (lv_at hl 0 rfl) ?_
    refine lv_if_eq (tgt := 38) hx hb dX3_words_29 (by decide) (fun c29 => ?_) (fun c29 => ?_)
    · exact absurd c29 (by decide)
    · refine lv_aload_n hx hb dX3_words_32 rfl (lv_at hl 1 rfl) ?_
      refine lv_iload_n hx hb dX3_words_33 rfl (lv_at hl 0 rfl) ?_
      have h8 := hv.1
      have hv := hv.2
      have hPc := hP
      have hDc := hD
      refine rw_int (va_runV (As := [.int (-1)]) (rest := []) ⟨hx, hb, hml, hown, hts⟩ (h_X3_no g ad σ (-1) h8) (cwV 1 hts gX3_words_X3_no rfl rfl rfl (by decide +kernel) ⟨Nat.le_of_ble_eq_true rfl, Nat.le_of_ble_eq_true rfl⟩) ⟨RW_blind, va_recv hK hP (ci := 3) (q0 := 0) rfl rfl, fun U hU hW => ⟨rfl, by rw [hU]; exact hPc, va_K.moved hW.alike hK, hE.call hW hU hS (fun _ h => h), hDc⟩⟩ rfl rfl hl.1 rfl (lv_room (Nat.le_of_ble_eq_true rfl)) dX3_words_34 ⟨Nat.le_of_ble_eq_true rfl, Nat.le_of_ble_eq_true rfl⟩) hS (fun _ h => h) (fun r u H1 locs hw hP1 hk hS => ?_)
      obtain ⟨hw1, hw⟩ := hw; subst r; subst u
      have hP := hP1
      generalize H1 = H at hP hS ⊢
      have hP : va_P (gD g) vwCl (wM g ad ((mS σ), (mT σ), (mK σ), (mF σ), (mRow σ), (mRowMany σ), (mLots σ), (refuX (mRefused σ) ((-1) : Int32)))) H := hP
      have hD : va_D (AD ad 0 21) (wM g ad ((mS σ), (mT σ), (mK σ), (mF σ), (mRow σ), (mRowMany σ), (mLots σ), (refuX (mRefused σ) ((-1) : Int32)))) := hD.addr (by rfl)
      exact W.iret (v := (((-1) : Int32))) hx hb hr (fun t ht hW => ⟨⟨(((-1) : Int32)), ((mS σ), (mT σ), (mK σ), (mF σ), (mRow σ), (mRowMany σ), (mLots σ), (refuX (mRefused σ) ((-1) : Int32))), rfl, hv, P_at ht hP⟩, hS.F ht⟩) hS.2.2 dX3_words_37

set_option maxHeartbeats 4000000 in
set_option maxRecDepth 100000 in
theorem m_X3_trueAt (l : Launch) (h_X3_isSo : C_X3_isSo l) (g : CX) (ad : Nat → Nat) (σ : KM) (p0 : Int32) (p1 : Int32) (Post : Int32 → Prop) (hv : vc_X3_trueAt σ p0 p1 Post) : Met l yX3_trueAt wsX3_trueAt { frames := 2, cells := 0, slots := 0, locals := 45 } (va_Pc [.ref (ad 0), .int p0, .int p1] (RO g (wM g ad σ))) (va_Qi (fun r (_ : Unit) => Post r) (fun _ _ => True) A0) 0 0 A0 := by
  unfold vc_X3_trueAt at hv
  refine Met.ofW (cc := cX3_trueAt) (maxL := 3) (ret := (some .int)) (by decide) rfl ?_
  intro p e s m args below meth c s₁ B hml hv0
  obtain ⟨rfl, hP, hK, hE⟩ := hv0
  have hx := B.exec
  have hb := B.bytes
  have hr := B.returns
  have hts := atoms_spec (ws := wsX3_trueAt) B.pre
  have hown : s.vm.findClass RX3 = some m.cls := findClass_of_methodNamed B.named
  have hlocks := B.notSynchronized
  have hi3 : ∀ w ∈ wsX30, w ∈ wsX3_trueAt := by decide +kernel
  have k0 := hts (.fieldLink RX3 37 "JuryHearsAnswersModel" "said" "[I") (by decide +kernel)
  have k1 := hts (.fieldLink RX3 34 "JuryHearsAnswersModel" "what" "[I") (by decide +kernel)
  have hS : va_S A0 s.heap s.heap [] := va_S.rf
  have hP : va_P (gD g) vwCl (wM g ad σ) s.heap := hP
  have hl := lv_entry ([.ref (ad 0), .int p0, .int p1]) (n := 3) (Nat.le_of_ble_eq_true rfl)
  rw [lg_entry_eq]
  generalize (lg_sl ([.ref (ad 0), .int p0, .int p1]) ++ List.replicate (3 - (lg_sl ([.ref (ad 0), .int p0, .int p1])).length) Slot.unset).toArray = ls at hl ⊢
  have hl : lv_has ls 3 [(0, .ref (ad 0)), (1, .int p0), (2, .int p1)] := hl
  obtain ⟨H, hH⟩ : ∃ z, z = s.heap := ⟨_, rfl⟩
  obtain ⟨locs, hL⟩ : ∃ z : List Loc, z = [] := ⟨_, rfl⟩
  rw [← hL] at hS ⊢
  have hS : va_S A0 s.heap H locs := by rw [hH]; exact hS
  rw [← hH] at hP ⊢
  clear hH hL
  refine lv_aload_n hx hb dX3_trueAt_0 rfl (lv_at hl 0 rfl) ?_
  refine va_get (D := gD g) (ci := 3) (v := .ref (ad 10)) (C := RX3) (T := TX3) (N := 33) hx hb hts hi3 hown hK hP 0 rfl rfl 9 (by decide) k0 (fun _ h9 => h9) rfl dX3_trueAt_1 ?_
  refine lv_iload_n hx hb dX3_trueAt_4 rfl (lv_at hl 1 rfl) ?_
  have h9 := hv.1
  have hv := hv.2
  refine va_iald (f := (sSaid (mS σ))) (n := 12) hx hb hK hP 10 0 rfl rfl h9 dX3_trueAt_5 ?_
  refine lv_iconst (v := 2) hx hb dX3_trueAt_6 (by decide) ?_
  refine lv_icmp_ne (tgt := 12) hx hb dX3_trueAt_7 (by decide) (fun c7 => ?_) (fun c7 => ?_)
  · have hv := hv.1 c7
    refine lv_aload_n hx hb dX3_trueAt_12 rfl (lv_at hl 0 rfl) ?_
    refine lv_aload_n hx hb dX3_trueAt_13 rfl (lv_at hl 0 rfl) ?_
    refine va_get (D := gD g) (ci := 3) (v := .ref (ad 9)) (C := RX3) (T := TX3) (N := 33) hx hb hts hi3 hown hK hP 0 rfl rfl 8 (by decide) k1 (fun _ h9 => h9) rfl dX3_trueAt_14 ?_
    refine lv_iload_n hx hb dX3_trueAt_17 rfl (lv_at hl 1 rfl) ?_
    have h9 := hv.1
    have hv := hv.2
    refine va_iald (f := (sWhat (mS σ))) (n := 12) hx hb hK hP 9 0 rfl rfl h9 dX3_trueAt_18 ?_
    refine lv_iload_n hx hb dX3_trueAt_19 rfl (lv_at hl 2 rfl) ?_
    have h8 := hv.1
    have hv := hv.2
    have hPc := hP
    refine ro_int (va_runV (As := [.int ((sWhat (mS σ)) (p0).toNatClampNeg), .int p1]) (rest := []) ⟨hx, hb, hml, hown, hts⟩ (h_X3_isSo g ad σ ((sWhat (mS σ)) (p0).toNatClampNeg) p1 h8) (cwV 2 hts gX3_trueAt_X3_isSo rfl rfl rfl (by decide +kernel) ⟨Nat.le_of_ble_eq_true rfl, Nat.le_of_ble_eq_true rfl⟩) ⟨RO_blind, va_recv hK hP (ci := 3) (q0 := 0) rfl rfl, fun U hU hW => ⟨rfl, by rw [hU]; exact hPc, va_K.moved hW.alike hK, hE.call hW hU hS (fun _ h => h.elim)⟩⟩ rfl rfl hl.1 rfl (lv_room (Nat.le_of_ble_eq_true rfl)) dX3_trueAt_20 ⟨Nat.le_of_ble_eq_true rfl, Nat.le_of_ble_eq_true rfl⟩) hS hP (fun r H locs hw hP hS => ?_)
    subst r
    refine lv_aload_n hx hb dX3_trueAt_23 rfl (lv_at hl 0 rfl) ?_
    refine va_get (D := gD g) (ci := 3) (v := .ref (ad 10)) (C := RX3) (T := TX3) (N := 33) hx hb hts hi3 hown hK hP 0 rfl rfl 9 (by decide) k0 (fun _ h9 => h9) rfl dX3_trueAt_24 ?_
    refine lv_iload_n hx hb dX3_trueAt_27 rfl (lv_at hl 1 rfl) ?_
    have h9 := hv.1
    have hv := hv.2
    refine va_iald (f := (sSaid (mS σ))) (n := 12) hx hb hK hP 10 0 rfl rfl h9 dX3_trueAt_28 ?_
    refine lv_iconst (v := 1) hx hb dX3_trueAt_29 (by decide) ?_
    refine lv_icmp_ne (tgt := 37) hx hb dX3_trueAt_30 (by decide) (fun c30 => ?_) (fun c30 => ?_)
    · have hv := hv.1 c30
      refine lv_iconst (v := 0) hx hb dX3_trueAt_37 (by decide) ?_
      refine lv_icmp_ne (tgt := 45) hx hb dX3_trueAt_38 (by decide) (fun c38 => ?_) (fun c38 => ?_)
      · have hv := hv.1 c38
        refine lv_iconst (v := 0) hx hb dX3_trueAt_45 (by decide) ?_
        exact W.iret (v := 0) hx hb hr (fun t ht hW => ⟨⟨0, (), rfl, hv, trivial⟩, hS.F ht⟩) hS.2.2 dX3_trueAt_46
      · have hv := hv.2 c38
        refine lv_iconst (v := 1) hx hb dX3_trueAt_41 (by decide) ?_
        refine lv_goto (tgt := 46) hx hb dX3_trueAt_42 (by decide) ?_
        exact W.iret (v := 1) hx hb hr (fun t ht hW => ⟨⟨1, (), rfl, hv, trivial⟩, hS.F ht⟩) hS.2.2 dX3_trueAt_46
    · have hv := hv.2 c30
      refine lv_iconst (v := 1) hx hb dX3_trueAt_33 (by decide) ?_
      refine lv_goto (tgt := 38) hx hb dX3_trueAt_34 (by decide) ?_
      refine lv_icmp_ne (tgt := 45) hx hb dX3_trueAt_38 (by decide) (fun c38 => ?_) (fun c38 => ?_)
      · have hv := hv.1 c38
        refine lv_iconst (v := 0) hx hb dX3_trueAt_45 (by decide) ?_
        exact W.iret (v := 0) hx hb hr (fun t ht hW => ⟨⟨0, (), rfl, hv, trivial⟩, hS.F ht⟩) hS.2.2 dX3_trueAt_46
      · have hv := hv.2 c38
        refine lv_iconst (v := 1) hx hb dX3_trueAt_41 (by decide) ?_
        refine lv_goto (tgt := 46) hx hb dX3_trueAt_42 (by decide) ?_
        exact W.iret (v := 1) hx hb hr (fun t ht hW => ⟨⟨1, (), rfl, hv, trivial⟩, hS.F ht⟩) hS.2.2 dX3_trueAt_46
  · have hv := hv.2 c7
    refine lv_iconst (v := 2) hx hb dX3_trueAt_10 (by decide) ?_
    exact W.iret (v := 2) hx hb hr (fun t ht hW => ⟨⟨2, (), rfl, hv, trivial⟩, hS.F ht⟩) hS.2.2 dX3_trueAt_11

set_option maxHeartbeats 4000000 in
set_option maxRecDepth 100000 in
theorem m_X3_hasLied (l : Launch) (h_X3_trueAt : C_X3_trueAt l) (g : CX) (ad : Nat → Nat) (σ : KM) (p0 : Int32) (p1 : Int32) (Post : Int32 → Prop) (hv : vc_X3_hasLied σ p0 p1 Post) : Met l yX3_hasLied wsX3_hasLied { frames := 3, cells := 0, slots := 0, locals := 67 } (va_Pc [.ref (ad 0), .int p0, .int p1] (RO g (wM g ad σ))) (va_Qi (fun r (_ : Unit) => Post r) (fun _ _ => True) A0) 0 0 A0 := by
  unfold vc_X3_hasLied at hv
  refine Met.ofW (cc := cX3_hasLied) (maxL := 4) (ret := (some .boolean)) (by decide) rfl ?_
  intro p e s m args below meth c s₁ B hml hv0
  obtain ⟨rfl, hP, hK, hE⟩ := hv0
  have hx := B.exec
  have hb := B.bytes
  have hr := B.returns
  have hts := atoms_spec (ws := wsX3_hasLied) B.pre
  have hown : s.vm.findClass RX3 = some m.cls := findClass_of_methodNamed B.named
  have hlocks := B.notSynchronized
  have hi3 : ∀ w ∈ wsX30, w ∈ wsX3_hasLied := by decide +kernel
  have k0 := hts (.fieldLink RX3 146 "JuryHearsAnswersModel" "heard" "I") (by decide +kernel)
  have k1 := hts (.fieldLink RX3 31 "JuryHearsAnswersModel" "whom" "[I") (by decide +kernel)
  have hS : va_S A0 s.heap s.heap [] := va_S.rf
  have hP : va_P (gD g) vwCl (wM g ad σ) s.heap := hP
  have hl := lv_entry ([.ref (ad 0), .int p0, .int p1]) (n := 4) (Nat.le_of_ble_eq_true rfl)
  rw [lg_entry_eq]
  generalize (lg_sl ([.ref (ad 0), .int p0, .int p1]) ++ List.replicate (4 - (lg_sl ([.ref (ad 0), .int p0, .int p1])).length) Slot.unset).toArray = ls at hl ⊢
  have hl : lv_has ls 4 [(0, .ref (ad 0)), (1, .int p0), (2, .int p1)] := hl
  have hv := hv (fun (x3 : Int32) => ∀ (H : Heap) (locs : List Loc) (ls : Array Slot), va_P (gD g) vwCl (wM g ad σ) H → va_S A0 s.heap H locs → lv_has ls 4 [(0, .ref (ad 0)), (1, .int p0), (2, .int p1), (3, .int x3)] → W p l e { frames := 3, cells := 0, slots := 0, locals := 67 } s m ([.ref (ad 0), .int p0, .int p1] : List Value).toArray below meth c H locs 0 0 (MQ below (va_Qi (fun r (_ : Unit) => Post r) (fun _ _ => True) A0) ([.ref (ad 0), .int p0, .int p1] : List Value).toArray s 0 0 A0) (F0 m 2 ls []))
  have hv := hv (by
    intro x3 hv H locs ls hP hS hl
    refine lv_iload_n hx hb dX3_hasLied_2 rfl (lv_at hl 3 rfl) ?_
    refine lv_aload_n hx hb dX3_hasLied_3 rfl (lv_at hl 0 rfl) ?_
    refine va_get (D := gD g) (ci := 3) (v := .int (sNh (mS σ))) (C := RX3) (T := TX3) (N := 33) hx hb hts hi3 hown hK hP 0 rfl rfl 14 (by decide) k0 (fun _ h9 => h9) rfl dX3_hasLied_4 ?_
    refine lv_icmp_ge (tgt := 37) hx hb dX3_hasLied_7 (by decide) (fun c7 => ?_) (fun c7 => ?_)
    · have hv := hv.1 c7
      refine lv_iconst (v := 0) hx hb dX3_hasLied_37 (by decide) ?_
      exact W.zret (v := 0) hx hb hr rfl (fun t ht hW => ⟨⟨0, (), rfl, hv, trivial⟩, hS.F ht⟩) hS.2.2 dX3_hasLied_38
    · have hv := hv.2 c7
      refine lv_aload_n hx hb dX3_hasLied_10 rfl (lv_at hl 0 rfl) ?_
      refine va_get (D := gD g) (ci := 3) (v := .ref (ad 8)) (C := RX3) (T := TX3) (N := 33) hx hb hts hi3 hown hK hP 0 rfl rfl 7 (by decide) k1 (fun _ h9 => h9) rfl dX3_hasLied_11 ?_
      refine lv_iload_n hx hb dX3_hasLied_14 rfl (lv_at hl 3 rfl) ?_
      have h9 := hv.1
      have hv := hv.2
      refine va_iald (f := (sWhom (mS σ))) (n := 12) hx hb hK hP 8 0 rfl rfl h9 dX3_hasLied_15 ?_
      refine lv_iload_n hx hb dX3_hasLied_16 rfl (lv_at hl 1 rfl) ?_
      refine lv_icmp_ne (tgt := 31) hx hb dX3_hasLied_17 (by decide) (fun c17 => ?_) (fun c17 => ?_)
      · have hv := hv.1 c17
        refine lv_iinc (v := (x3 + 1)) (lv' := [(3, .int (x3 + 1)), (0, .ref (ad 0)), (1, .int p0), (2, .int p1)]) hx hb dX3_hasLied_31 hl (k := 3) rfl (by first | rfl | exact congrArg _ (by decide)) (by decide) rfl (fun ls hl => ?_)
        refine lv_goto (tgt := 2) hx hb dX3_hasLied_34 (by decide) ?_
        exact hv H locs ls hP hS (lv_sub hl [1, 2, 3, 0] rfl)
      · have hv := hv.2 c17
        refine lv_aload_n hx hb dX3_hasLied_20 rfl (lv_at hl 0 rfl) ?_
        refine lv_iload_n hx hb dX3_hasLied_21 rfl (lv_at hl 3 rfl) ?_
        refine lv_iload_n hx hb dX3_hasLied_22 rfl (lv_at hl 2 rfl) ?_
        have h8 := hv.1
        have hv := hv.2
        have hPc := hP
        refine ro_int (va_runV (As := [.int x3, .int p1]) (rest := []) ⟨hx, hb, hml, hown, hts⟩ (h_X3_trueAt g ad σ x3 p1 h8) (cwV 2 hts gX3_hasLied_X3_trueAt rfl rfl rfl (by decide +kernel) ⟨Nat.le_of_ble_eq_true rfl, Nat.le_of_ble_eq_true rfl⟩) ⟨RO_blind, va_recv hK hP (ci := 3) (q0 := 0) rfl rfl, fun U hU hW => ⟨rfl, by rw [hU]; exact hPc, va_K.moved hW.alike hK, hE.call hW hU hS (fun _ h => h.elim)⟩⟩ rfl rfl hl.1 rfl (lv_room (Nat.le_of_ble_eq_true rfl)) dX3_hasLied_23 ⟨Nat.le_of_ble_eq_true rfl, Nat.le_of_ble_eq_true rfl⟩) hS hP (fun r H locs hw hP hS => ?_)
        subst r
        refine lv_if_ne (tgt := 31) hx hb dX3_hasLied_26 (by decide) (fun c26 => ?_) (fun c26 => ?_)
        · have hv := hv.1 c26
          refine lv_iinc (v := (x3 + 1)) (lv' := [(3, .int (x3 + 1)), (0, .ref (ad 0)), (1, .int p0), (2, .int p1)]) hx hb dX3_hasLied_31 hl (k := 3) rfl (by first | rfl | exact congrArg _ (by decide)) (by decide) rfl (fun ls hl => ?_)
          refine lv_goto (tgt := 2) hx hb dX3_hasLied_34 (by decide) ?_
          exact hv H locs ls hP hS (lv_sub hl [1, 2, 3, 0] rfl)
        · have hv := hv.2 c26
          refine lv_iconst (v := 1) hx hb dX3_hasLied_29 (by decide) ?_
          exact W.zret (v := 1) hx hb hr rfl (fun t ht hW => ⟨⟨1, (), rfl, hv, trivial⟩, hS.F ht⟩) hS.2.2 dX3_hasLied_30)
  obtain ⟨H, hH⟩ : ∃ z, z = s.heap := ⟨_, rfl⟩
  obtain ⟨locs, hL⟩ : ∃ z : List Loc, z = [] := ⟨_, rfl⟩
  rw [← hL] at hS ⊢
  have hS : va_S A0 s.heap H locs := by rw [hH]; exact hS
  rw [← hH] at hP ⊢
  clear hH hL
  refine lv_iconst (v := 0) hx hb dX3_hasLied_0 (by decide) ?_
  refine lv_istore_n (lv' := [(3, .int 0), (0, .ref (ad 0)), (1, .int p0), (2, .int p1)]) hx hb dX3_hasLied_1 rfl hl (by decide) rfl (fun ls hl => ?_)
  exact hv H locs ls hP hS (lv_sub hl [1, 2, 3, 0] rfl)

set_option maxHeartbeats 4000000 in
set_option maxRecDepth 100000 in
theorem m_X3_isLiar (l : Launch) (h_X3_hasLied : C_X3_hasLied l) (h_X3_manyIn : C_X3_manyIn l) (g : CX) (ad : Nat → Nat) (σ : KM) (p0 : Int32) (Post : Int32 → Prop) (hv : vc_X3_isLiar σ p0 Post) : Met l yX3_isLiar wsX3_isLiar { frames := 4, cells := 0, slots := 0, locals := 90 } (va_Pc [.ref (ad 0), .int p0] (RO g (wM g ad σ))) (va_Qi (fun r (_ : Unit) => Post r) (fun _ _ => True) A0) 0 0 A0 := by
  unfold vc_X3_isLiar at hv
  refine Met.ofW (cc := cX3_isLiar) (maxL := 3) (ret := (some .boolean)) (by decide) rfl ?_
  intro p e s m args below meth c s₁ B hml hv0
  obtain ⟨rfl, hP, hK, hE⟩ := hv0
  have hx := B.exec
  have hb := B.bytes
  have hr := B.returns
  have hts := atoms_spec (ws := wsX3_isLiar) B.pre
  have hown : s.vm.findClass RX3 = some m.cls := findClass_of_methodNamed B.named
  have hlocks := B.notSynchronized
  have hi3 : ∀ w ∈ wsX30, w ∈ wsX3_isLiar := by decide +kernel
  have k0 := hts (.fieldLink RX3 58 "JuryHearsAnswersModel" "fit" "[I") (by decide +kernel)
  have hS : va_S A0 s.heap s.heap [] := va_S.rf
  have hP : va_P (gD g) vwCl (wM g ad σ) s.heap := hP
  have hl := lv_entry ([.ref (ad 0), .int p0]) (n := 3) (Nat.le_of_ble_eq_true rfl)
  rw [lg_entry_eq]
  generalize (lg_sl ([.ref (ad 0), .int p0]) ++ List.replicate (3 - (lg_sl ([.ref (ad 0), .int p0])).length) Slot.unset).toArray = ls at hl ⊢
  have hl : lv_has ls 3 [(0, .ref (ad 0)), (1, .int p0)] := hl
  have hv := hv (fun (x2 : Int32) => ∀ (H : Heap) (locs : List Loc) (ls : Array Slot), va_P (gD g) vwCl (wM g ad σ) H → va_S A0 s.heap H locs → lv_has ls 3 [(0, .ref (ad 0)), (1, .int p0), (2, .int x2)] → W p l e { frames := 4, cells := 0, slots := 0, locals := 90 } s m ([.ref (ad 0), .int p0] : List Value).toArray below meth c H locs 0 0 (MQ below (va_Qi (fun r (_ : Unit) => Post r) (fun _ _ => True) A0) ([.ref (ad 0), .int p0] : List Value).toArray s 0 0 A0) (F0 m 2 ls []))
  have hv := hv (by
    intro x2 hv H locs ls hP hS hl
    refine lv_iload_n hx hb dX3_isLiar_2 rfl (lv_at hl 2 rfl) ?_
    refine lv_bipush (v := 64) hx hb dX3_isLiar_3 (by decide) ?_
    refine lv_icmp_ge (tgt := 35) hx hb dX3_isLiar_5 (by decide) (fun c5 => ?_) (fun c5 => ?_)
    · have hv := hv.1 c5
      refine lv_aload_n hx hb dX3_isLiar_35 rfl (lv_at hl 0 rfl) ?_
      refine va_get (D := gD g) (ci := 3) (v := .ref (ad 17)) (C := RX3) (T := TX3) (N := 33) hx hb hts hi3 hown hK hP 0 rfl rfl 27 (by decide) k0 (fun _ h9 => h9) rfl dX3_isLiar_36 ?_
      have hPc : va_P (gD g) vwCl (wA g ad 17 (fFit (mF σ))) H := hP.sub [17] rfl
      refine ro_int (va_runS (As := [.ref (ad 17)]) (rest := []) ⟨hx, hb, hml, hown, hts⟩ (h_X3_manyIn g ad 17 (fFit (mF σ))) (va_cwS 1 hts gX3_isLiar_X3_manyIn rfl rfl rfl (by decide +kernel) ⟨Nat.le_of_ble_eq_true rfl, Nat.le_of_ble_eq_true rfl⟩) ⟨RO_blind, fun U hU hW => ⟨rfl, by rw [hU]; exact hPc, va_K.moved hW.alike hK, hE.call hW hU hS (fun _ h => h.elim)⟩⟩ rfl rfl hl.1 rfl (lv_room (Nat.le_of_ble_eq_true rfl)) dX3_isLiar_39 ⟨Nat.le_of_ble_eq_true rfl, Nat.le_of_ble_eq_true rfl⟩) hS hP (fun r H locs hw hP hS => ?_)
      subst r
      refine lv_if_le (tgt := 49) hx hb dX3_isLiar_42 (by decide) (fun c42 => ?_) (fun c42 => ?_)
      · have hv := hv.1 c42
        refine lv_iconst (v := 0) hx hb dX3_isLiar_49 (by decide) ?_
        exact W.zret (v := 0) hx hb hr rfl (fun t ht hW => ⟨⟨0, (), rfl, hv, trivial⟩, hS.F ht⟩) hS.2.2 dX3_isLiar_50
      · have hv := hv.2 c42
        refine lv_iconst (v := 1) hx hb dX3_isLiar_45 (by decide) ?_
        refine lv_goto (tgt := 50) hx hb dX3_isLiar_46 (by decide) ?_
        exact W.zret (v := 1) hx hb hr rfl (fun t ht hW => ⟨⟨1, (), rfl, hv, trivial⟩, hS.F ht⟩) hS.2.2 dX3_isLiar_50
    · have hv := hv.2 c5
      refine lv_aload_n hx hb dX3_isLiar_8 rfl (lv_at hl 0 rfl) ?_
      refine va_get (D := gD g) (ci := 3) (v := .ref (ad 17)) (C := RX3) (T := TX3) (N := 33) hx hb hts hi3 hown hK hP 0 rfl rfl 27 (by decide) k0 (fun _ h9 => h9) rfl dX3_isLiar_9 ?_
      refine lv_iload_n hx hb dX3_isLiar_12 rfl (lv_at hl 2 rfl) ?_
      have h9 := hv.1
      have hv := hv.2
      refine va_iald (f := (fFit (mF σ))) (n := 64) hx hb hK hP 17 0 rfl rfl h9 dX3_isLiar_13 ?_
      refine lv_iconst (v := 1) hx hb dX3_isLiar_14 (by decide) ?_
      refine lv_icmp_ne (tgt := 29) hx hb dX3_isLiar_15 (by decide) (fun c15 => ?_) (fun c15 => ?_)
      · have hv := hv.1 c15
        refine lv_iinc (v := (x2 + 1)) (lv' := [(2, .int (x2 + 1)), (0, .ref (ad 0)), (1, .int p0)]) hx hb dX3_isLiar_29 hl (k := 2) rfl (by first | rfl | exact congrArg _ (by decide)) (by decide) rfl (fun ls hl => ?_)
        refine lv_goto (tgt := 2) hx hb dX3_isLiar_32 (by decide) ?_
        exact hv H locs ls hP hS (lv_sub hl [1, 2, 0] rfl)
      · have hv := hv.2 c15
        refine lv_aload_n hx hb dX3_isLiar_18 rfl (lv_at hl 0 rfl) ?_
        refine lv_iload_n hx hb dX3_isLiar_19 rfl (lv_at hl 1 rfl) ?_
        refine lv_iload_n hx hb dX3_isLiar_20 rfl (lv_at hl 2 rfl) ?_
        have h8 := hv.1
        have hv := hv.2
        have hPc := hP
        refine ro_int (va_runV (As := [.int p0, .int x2]) (rest := []) ⟨hx, hb, hml, hown, hts⟩ (h_X3_hasLied g ad σ p0 x2 h8) (cwV 2 hts gX3_isLiar_X3_hasLied rfl rfl rfl (by decide +kernel) ⟨Nat.le_of_ble_eq_true rfl, Nat.le_of_ble_eq_true rfl⟩) ⟨RO_blind, va_recv hK hP (ci := 3) (q0 := 0) rfl rfl, fun U hU hW => ⟨rfl, by rw [hU]; exact hPc, va_K.moved hW.alike hK, hE.call hW hU hS (fun _ h => h.elim)⟩⟩ rfl rfl hl.1 rfl (lv_room (Nat.le_of_ble_eq_true rfl)) dX3_isLiar_21 ⟨Nat.le_of_ble_eq_true rfl, Nat.le_of_ble_eq_true rfl⟩) hS hP (fun r H locs hw hP hS => ?_)
        subst r
        refine lv_if_ne (tgt := 29) hx hb dX3_isLiar_24 (by decide) (fun c24 => ?_) (fun c24 => ?_)
        · have hv := hv.1 c24
          refine lv_iinc (v := (x2 + 1)) (lv' := [(2, .int (x2 + 1)), (0, .ref (ad 0)), (1, .int p0)]) hx hb dX3_isLiar_29 hl (k := 2) rfl (by first | rfl | exact congrArg _ (by decide)) (by decide) rfl (fun ls hl => ?_)
          refine lv_goto (tgt := 2) hx hb dX3_isLiar_32 (by decide) ?_
          exact hv H locs ls hP hS (lv_sub hl [1, 2, 0] rfl)
        · have hv := hv.2 c24
          refine lv_iconst (v := 0) hx hb dX3_isLiar_27 (by decide) ?_
          exact W.zret (v := 0) hx hb hr rfl (fun t ht hW => ⟨⟨0, (), rfl, hv, trivial⟩, hS.F ht⟩) hS.2.2 dX3_isLiar_28)
  obtain ⟨H, hH⟩ : ∃ z, z = s.heap := ⟨_, rfl⟩
  obtain ⟨locs, hL⟩ : ∃ z : List Loc, z = [] := ⟨_, rfl⟩
  rw [← hL] at hS ⊢
  have hS : va_S A0 s.heap H locs := by rw [hH]; exact hS
  rw [← hH] at hP ⊢
  clear hH hL
  refine lv_iconst (v := 0) hx hb dX3_isLiar_0 (by decide) ?_
  refine lv_istore_n (lv' := [(2, .int 0), (0, .ref (ad 0)), (1, .int p0)]) hx hb dX3_isLiar_1 rfl hl (by decide) rfl (fun ls hl => ?_)
  exact hv H locs ls hP hS (lv_sub hl [1, 2, 0] rfl)

set_option maxHeartbeats 4000000 in
set_option maxRecDepth 100000 in
theorem m_X3_liars (l : Launch) (h_X3_findFit : C_X3_findFit l) (h_X3_isLiar : C_X3_isLiar l) (g : CX) (ad : Nat → Nat) (σ : KM)  (Post : Int32 → KM → Prop) (hv : vc_X3_liars σ Post) : Met l yX3_liars wsX3_liars { frames := 7, cells := 0, slots := 0, locals := 160 } (va_Pc [.ref (ad 0)] (RW g (AD ad 0 21) (wM g ad σ))) (va_Qi (fun (r : Int32) (u : KM) => Post r u) (fun u t => va_P (gD g) vwCl (wM g ad u) t.heap) (AD ad 0 21)) 0 0 (AD ad 0 21) := by
  unfold vc_X3_liars at hv
  refine Met.ofW (cc := cX3_liars) (maxL := 3) (ret := (some .int)) (by decide) rfl ?_
  intro p e s m args below meth c s₁ B hml hv0
  obtain ⟨rfl, hP, hK, hE, hD⟩ := hv0
  have hx := B.exec
  have hb := B.bytes
  have hr := B.returns
  have hts := atoms_spec (ws := wsX3_liars) B.pre
  have hown : s.vm.findClass RX3 = some m.cls := findClass_of_methodNamed B.named
  have hlocks := B.notSynchronized
  have hi3 : ∀ w ∈ wsX30, w ∈ wsX3_liars := by decide +kernel
  have k0 := hts (.fieldLink RX3 76 "JuryHearsAnswersModel" "witnesses" "I") (by decide +kernel)
  have hS : va_S (AD ad 0 21) s.heap s.heap [] := va_S.rf
  have hP : va_P (gD g) vwCl (wM g ad σ) s.heap := hP
  have hl := lv_entry ([.ref (ad 0)]) (n := 3) (Nat.le_of_ble_eq_true rfl)
  rw [lg_entry_eq]
  generalize (lg_sl ([.ref (ad 0)]) ++ List.replicate (3 - (lg_sl ([.ref (ad 0)])).length) Slot.unset).toArray = ls at hl ⊢
  have hl : lv_has ls 3 [(0, .ref (ad 0))] := hl
  have hv := hv (fun (x1 : Int32) (x2 : Int32) (s_F_fit : FI) => ∀ (H : Heap) (locs : List Loc) (ls : Array Slot), va_P (gD g) vwCl (wM g ad ((mS σ), (mT σ), (mK σ), (s_F_fit, (fLeft (mF σ)), (fLeftBy (mF σ))), (mRow σ), (mRowMany σ), (mLots σ), (mRefused σ))) H → va_D (AD ad 0 21) (wM g ad ((mS σ), (mT σ), (mK σ), (s_F_fit, (fLeft (mF σ)), (fLeftBy (mF σ))), (mRow σ), (mRowMany σ), (mLots σ), (mRefused σ))) → va_S (AD ad 0 21) s.heap H locs → lv_has ls 3 [(0, .ref (ad 0)), (1, .int x1), (2, .int x2)] → W p l e { frames := 7, cells := 0, slots := 0, locals := 160 } s m ([.ref (ad 0)] : List Value).toArray below meth c H locs 0 0 (MQ below (va_Qi (fun (r : Int32) (u : KM) => Post r u) (fun u t => va_P (gD g) vwCl (wM g ad u) t.heap) (AD ad 0 21)) ([.ref (ad 0)] : List Value).toArray s 0 0 (AD ad 0 21)) (F0 m 9 ls []))
  have hv := hv (by
    intro x1 x2 s_F_fit hv H locs ls hP hD hS hl
    refine lv_iload_n hx hb dX3_liars_9 rfl (lv_at hl 2 rfl) ?_
    refine lv_aload_n hx hb dX3_liars_10 rfl (lv_at hl 0 rfl) ?_
    refine va_get (D := gD g) (ci := 3) (v := .int (sNw (mS σ))) (C := RX3) (T := TX3) (N := 33) hx hb hts hi3 hown hK hP 0 rfl rfl 13 (by decide) k0 (fun _ h9 => h9) rfl dX3_liars_11 ?_
    refine lv_icmp_ge (tgt := 41) hx hb dX3_liars_14 (by decide) (fun c14 => ?_) (fun c14 => ?_)
    · have hv := hv.1 c14
      refine lv_iload_n hx hb dX3_liars_41 rfl (lv_at hl 1 rfl) ?_
      exact W.iret (v := x1) hx hb hr (fun t ht hW => ⟨⟨x1, ((mS σ), (mT σ), (mK σ), (s_F_fit, (fLeft (mF σ)), (fLeftBy (mF σ))), (mRow σ), (mRowMany σ), (mLots σ), (mRefused σ)), rfl, hv, P_at ht hP⟩, hS.F ht⟩) hS.2.2 dX3_liars_42
    · have hv := hv.2 c14
      refine lv_iload_n hx hb dX3_liars_17 rfl (lv_at hl 1 rfl) ?_
      refine lv_aload_n hx hb dX3_liars_18 rfl (lv_at hl 0 rfl) ?_
      refine lv_iload_n hx hb dX3_liars_19 rfl (lv_at hl 2 rfl) ?_
      have h8 := hv.1
      have hv := hv.2
      have hPc := hP
      refine ro_int (va_runV (As := [.int x2]) (rest := [.int x1]) ⟨hx, hb, hml, hown, hts⟩ (h_X3_isLiar g ad ((mS σ), (mT σ), (mK σ), (s_F_fit, (fLeft (mF σ)), (fLeftBy (mF σ))), (mRow σ), (mRowMany σ), (mLots σ), (mRefused σ)) x2 h8) (cwV 1 hts gX3_liars_X3_isLiar rfl rfl rfl (by decide +kernel) ⟨Nat.le_of_ble_eq_true rfl, Nat.le_of_ble_eq_true rfl⟩) ⟨RO_blind, va_recv hK hP (ci := 3) (q0 := 0) rfl rfl, fun U hU hW => ⟨rfl, by rw [hU]; exact hPc, va_K.moved hW.alike hK, hE.call hW hU hS (fun _ h => h.elim)⟩⟩ rfl rfl hl.1 rfl (lv_room (Nat.le_of_ble_eq_true rfl)) dX3_liars_20 ⟨Nat.le_of_ble_eq_true rfl, Nat.le_of_ble_eq_true rfl⟩) hS hP (fun r H locs hw hP hS => ?_)
      subst r
      refine lv_if_eq (tgt := 32) hx hb dX3_liars_23 (by decide) (fun c23 => ?_) (fun c23 => ?_)
      · have hv := hv.1 c23
        refine lv_iconst (v := 0) hx hb dX3_liars_32 (by decide) ?_
        refine lv_ior hx hb dX3_liars_33 ?_
        refine lv_istore_n (lv' := [(1, .int (x1 ||| 0)), (0, .ref (ad 0)), (2, .int x2)]) hx hb dX3_liars_34 rfl hl (by decide) rfl (fun ls hl => ?_)
        refine lv_iinc (v := (x2 + 1)) (lv' := [(2, .int (x2 + 1)), (1, .int (x1 ||| 0)), (0, .ref (ad 0))]) hx hb dX3_liars_35 hl (k := 2) rfl (by first | rfl | exact congrArg _ (by decide)) (by decide) rfl (fun ls hl => ?_)
        refine lv_goto (tgt := 9) hx hb dX3_liars_38 (by decide) ?_
        exact hv H locs ls hP hD hS (lv_sub hl [2, 1, 0] rfl)
      · have hv := hv.2 c23
        refine lv_iconst (v := 1) hx hb dX3_liars_26 (by decide) ?_
        refine lv_iload_n hx hb dX3_liars_27 rfl (lv_at hl 2 rfl) ?_
        refine lv_ishl hx hb dX3_liars_28 ?_
        refine lv_goto (tgt := 33) hx hb dX3_liars_29 (by decide) ?_
        refine lv_ior hx hb dX3_liars_33 ?_
        refine lv_istore_n (lv' := [(1, .int (x1 ||| (1 <<< (x2 &&& 31)))), (0, .ref (ad 0)), (2, .int x2)]) hx hb dX3_liars_34 rfl hl (by decide) rfl (fun ls hl => ?_)
        refine lv_iinc (v := (x2 + 1)) (lv' := [(2, .int (x2 + 1)), (1, .int (x1 ||| (1 <<< (x2 &&& 31)))), (0, .ref (ad 0))]) hx hb dX3_liars_35 hl (k := 2) rfl (by first | rfl | exact congrArg _ (by decide)) (by decide) rfl (fun ls hl => ?_)
        refine lv_goto (tgt := 9) hx hb dX3_liars_38 (by decide) ?_
        exact hv H locs ls hP hD hS (lv_sub hl [2, 1, 0] rfl))
  obtain ⟨H, hH⟩ : ∃ z, z = s.heap := ⟨_, rfl⟩
  obtain ⟨locs, hL⟩ : ∃ z : List Loc, z = [] := ⟨_, rfl⟩
  rw [← hL] at hS ⊢
  have hS : va_S (AD ad 0 21) s.heap H locs := by rw [hH]; exact hS
  rw [← hH] at hP ⊢
  clear hH hL
  refine lv_aload_n hx hb dX3_liars_0 rfl (lv_at hl 0 rfl) ?_
  refine lv_iconst (v := 0) hx hb dX3_liars_1 (by decide) ?_
  have h8 := hv.1
  have hv := hv.2
  have hPc := hP
  have hDc := hD
  refine rw_void (va_runV (As := [.int 0]) (rest := []) ⟨hx, hb, hml, hown, hts⟩ (h_X3_findFit g ad σ 0 h8) (cwV 1 hts gX3_liars_X3_findFit rfl rfl rfl (by decide +kernel) ⟨Nat.le_of_ble_eq_true rfl, Nat.le_of_ble_eq_true rfl⟩) ⟨RW_blind, va_recv hK hP (ci := 3) (q0 := 0) rfl rfl, fun U hU hW => ⟨rfl, by rw [hU]; exact hPc, va_K.moved hW.alike hK, hE.call hW hU hS (fun _ h => h), hDc⟩⟩ rfl rfl hl.1 rfl (lv_room (Nat.le_of_ble_eq_true rfl)) dX3_liars_2 ⟨Nat.le_of_ble_eq_true rfl, Nat.le_of_ble_eq_true rfl⟩) hS (fun _ h => h) (fun u H1 locs hw hP1 hk hS => ?_)
  subst u
  have hP := hP1
  generalize H1 = H at hP hS ⊢
  have hP : va_P (gD g) vwCl (wM g ad ((mS σ), (mT σ), (mK σ), ((fitM (mS σ) (0 : Int32) (fFit (mF σ))), (fLeft (mF σ)), (fLeftBy (mF σ))), (mRow σ), (mRowMany σ), (mLots σ), (mRefused σ))) H := hP
  have hD : va_D (AD ad 0 21) (wM g ad ((mS σ), (mT σ), (mK σ), ((fitM (mS σ) (0 : Int32) (fFit (mF σ))), (fLeft (mF σ)), (fLeftBy (mF σ))), (mRow σ), (mRowMany σ), (mLots σ), (mRefused σ))) := hD.addr (by rfl)
  refine lv_iconst (v := 0) hx hb dX3_liars_5 (by decide) ?_
  refine lv_istore_n (lv' := [(1, .int 0), (0, .ref (ad 0))]) hx hb dX3_liars_6 rfl hl (by decide) rfl (fun ls hl => ?_)
  refine lv_iconst (v := 0) hx hb dX3_liars_7 (by decide) ?_
  refine lv_istore_n (lv' := [(2, .int 0), (1, .int 0), (0, .ref (ad 0))]) hx hb dX3_liars_8 rfl hl (by decide) rfl (fun ls hl => ?_)
  exact hv H locs ls hP hD hS (lv_sub hl [2, 1, 0] rfl)

set_option maxHeartbeats 4000000 in
set_option maxRecDepth 100000 in
theorem m_X3_fitBoth (l : Launch) (h_X3_answerOf : C_X3_answerOf l) (g : CX) (ad : Nat → Nat) (σ : KM) (p0 : Int32) (p1 : Int32) (Post : Int32 → Prop) (hv : vc_X3_fitBoth σ p0 p1 Post) : Met l yX3_fitBoth wsX3_fitBoth { frames := 4, cells := 0, slots := 0, locals := 93 } (va_Pc [.ref (ad 0), .int p0, .int p1] (RO g (wM g ad σ))) (va_Qi (fun r (_ : Unit) => Post r) (fun _ _ => True) A0) 0 0 A0 := by
  unfold vc_X3_fitBoth at hv
  refine Met.ofW (cc := cX3_fitBoth) (maxL := 4) (ret := (some .boolean)) (by decide) rfl ?_
  intro p e s m args below meth c s₁ B hml hv0
  obtain ⟨rfl, hP, hK, hE⟩ := hv0
  have hx := B.exec
  have hb := B.bytes
  have hr := B.returns
  have hts := atoms_spec (ws := wsX3_fitBoth) B.pre
  have hown : s.vm.findClass RX3 = some m.cls := findClass_of_methodNamed B.named
  have hlocks := B.notSynchronized
  have hi3 : ∀ w ∈ wsX30, w ∈ wsX3_fitBoth := by decide +kernel
  have k0 := hts (.fieldLink RX3 31 "JuryHearsAnswersModel" "whom" "[I") (by decide +kernel)
  have k1 := hts (.fieldLink RX3 34 "JuryHearsAnswersModel" "what" "[I") (by decide +kernel)
  have k2 := hts (.fieldLink RX3 40 "JuryHearsAnswersModel" "when" "[I") (by decide +kernel)
  have k3 := hts (.fieldLink RX3 37 "JuryHearsAnswersModel" "said" "[I") (by decide +kernel)
  have hS : va_S A0 s.heap s.heap [] := va_S.rf
  have hP : va_P (gD g) vwCl (wM g ad σ) s.heap := hP
  have hl := lv_entry ([.ref (ad 0), .int p0, .int p1]) (n := 4) (Nat.le_of_ble_eq_true rfl)
  rw [lg_entry_eq]
  generalize (lg_sl ([.ref (ad 0), .int p0, .int p1]) ++ List.replicate (4 - (lg_sl ([.ref (ad 0), .int p0, .int p1])).length) Slot.unset).toArray = ls at hl ⊢
  have hl : lv_has ls 4 [(0, .ref (ad 0)), (1, .int p0), (2, .int p1)] := hl
  have hv := hv (fun (x3 : Int32) => ∀ (H : Heap) (locs : List Loc) (ls : Array Slot), va_P (gD g) vwCl (wM g ad σ) H → va_S A0 s.heap H locs → lv_has ls 4 [(0, .ref (ad 0)), (1, .int p0), (2, .int p1), (3, .int x3)] → W p l e { frames := 4, cells := 0, slots := 0, locals := 93 } s m ([.ref (ad 0), .int p0, .int p1] : List Value).toArray below meth c H locs 0 0 (MQ below (va_Qi (fun r (_ : Unit) => Post r) (fun _ _ => True) A0) ([.ref (ad 0), .int p0, .int p1] : List Value).toArray s 0 0 A0) (F0 m 2 ls []))
  have hv := hv (by
    intro x3 hv H locs ls hP hS hl
    refine lv_iload_n hx hb dX3_fitBoth_2 rfl (lv_at hl 3 rfl) ?_
    refine lv_bipush (v := 64) hx hb dX3_fitBoth_3 (by decide) ?_
    refine lv_icmp_ge (tgt := 80) hx hb dX3_fitBoth_5 (by decide) (fun c5 => ?_) (fun c5 => ?_)
    · have hv := hv.1 c5
      refine lv_iconst (v := 0) hx hb dX3_fitBoth_80 (by decide) ?_
      exact W.zret (v := 0) hx hb hr rfl (fun t ht hW => ⟨⟨0, (), rfl, hv, trivial⟩, hS.F ht⟩) hS.2.2 dX3_fitBoth_81
    · have hv := hv.2 c5
      refine lv_aload_n hx hb dX3_fitBoth_8 rfl (lv_at hl 0 rfl) ?_
      refine lv_aload_n hx hb dX3_fitBoth_9 rfl (lv_at hl 0 rfl) ?_
      refine va_get (D := gD g) (ci := 3) (v := .ref (ad 8)) (C := RX3) (T := TX3) (N := 33) hx hb hts hi3 hown hK hP 0 rfl rfl 7 (by decide) k0 (fun _ h9 => h9) rfl dX3_fitBoth_10 ?_
      refine lv_iload_n hx hb dX3_fitBoth_13 rfl (lv_at hl 1 rfl) ?_
      have h9 := hv.1
      have hv := hv.2
      refine va_iald (f := (sWhom (mS σ))) (n := 12) hx hb hK hP 8 0 rfl rfl h9 dX3_fitBoth_14 ?_
      refine lv_aload_n hx hb dX3_fitBoth_15 rfl (lv_at hl 0 rfl) ?_
      refine va_get (D := gD g) (ci := 3) (v := .ref (ad 9)) (C := RX3) (T := TX3) (N := 33) hx hb hts hi3 hown hK hP 0 rfl rfl 8 (by decide) k1 (fun _ h9 => h9) rfl dX3_fitBoth_16 ?_
      refine lv_iload_n hx hb dX3_fitBoth_19 rfl (lv_at hl 1 rfl) ?_
      have h9 := hv.1
      have hv := hv.2
      refine va_iald (f := (sWhat (mS σ))) (n := 12) hx hb hK hP 9 0 rfl rfl h9 dX3_fitBoth_20 ?_
      refine lv_iload_n hx hb dX3_fitBoth_21 rfl (lv_at hl 3 rfl) ?_
      refine lv_aload_n hx hb dX3_fitBoth_22 rfl (lv_at hl 0 rfl) ?_
      refine va_get (D := gD g) (ci := 3) (v := .ref (ad 11)) (C := RX3) (T := TX3) (N := 33) hx hb hts hi3 hown hK hP 0 rfl rfl 10 (by decide) k2 (fun _ h9 => h9) rfl dX3_fitBoth_23 ?_
      refine lv_iload_n hx hb dX3_fitBoth_26 rfl (lv_at hl 1 rfl) ?_
      have h9 := hv.1
      have hv := hv.2
      refine va_iald (f := (sWhen (mS σ))) (n := 12) hx hb hK hP 11 0 rfl rfl h9 dX3_fitBoth_27 ?_
      have h8 := hv.1
      have hv := hv.2
      have hPc := hP
      refine ro_int (va_runV (As := [.int ((sWhom (mS σ)) (p0).toNatClampNeg), .int ((sWhat (mS σ)) (p0).toNatClampNeg), .int x3, .int ((sWhen (mS σ)) (p0).toNatClampNeg)]) (rest := []) ⟨hx, hb, hml, hown, hts⟩ (h_X3_answerOf g ad σ ((sWhom (mS σ)) (p0).toNatClampNeg) ((sWhat (mS σ)) (p0).toNatClampNeg) x3 ((sWhen (mS σ)) (p0).toNatClampNeg) h8) (cwV 4 hts gX3_fitBoth_X3_answerOf rfl rfl rfl (by decide +kernel) ⟨Nat.le_of_ble_eq_true rfl, Nat.le_of_ble_eq_true rfl⟩) ⟨RO_blind, va_recv hK hP (ci := 3) (q0 := 0) rfl rfl, fun U hU hW => ⟨rfl, by rw [hU]; exact hPc, va_K.moved hW.alike hK, hE.call hW hU hS (fun _ h => h.elim)⟩⟩ rfl rfl hl.1 rfl (lv_room (Nat.le_of_ble_eq_true rfl)) dX3_fitBoth_28 ⟨Nat.le_of_ble_eq_true rfl, Nat.le_of_ble_eq_true rfl⟩) hS hP (fun r H locs hw hP hS => ?_)
      subst r
      refine lv_aload_n hx hb dX3_fitBoth_31 rfl (lv_at hl 0 rfl) ?_
      refine va_get (D := gD g) (ci := 3) (v := .ref (ad 10)) (C := RX3) (T := TX3) (N := 33) hx hb hts hi3 hown hK hP 0 rfl rfl 9 (by decide) k3 (fun _ h9 => h9) rfl dX3_fitBoth_32 ?_
      refine lv_iload_n hx hb dX3_fitBoth_35 rfl (lv_at hl 1 rfl) ?_
      have h9 := hv.1
      have hv := hv.2
      refine va_iald (f := (sSaid (mS σ))) (n := 12) hx hb hK hP 10 0 rfl rfl h9 dX3_fitBoth_36 ?_
      refine lv_icmp_ne (tgt := 74) hx hb dX3_fitBoth_37 (by decide) (fun c37 => ?_) (fun c37 => ?_)
      · have hv := hv.1 c37
        refine lv_iinc (v := (x3 + 1)) (lv' := [(3, .int (x3 + 1)), (0, .ref (ad 0)), (1, .int p0), (2, .int p1)]) hx hb dX3_fitBoth_74 hl (k := 3) rfl (by first | rfl | exact congrArg _ (by decide)) (by decide) rfl (fun ls hl => ?_)
        refine lv_goto (tgt := 2) hx hb dX3_fitBoth_77 (by decide) ?_
        exact hv H locs ls hP hS (lv_sub hl [1, 2, 3, 0] rfl)
      · have hv := hv.2 c37
        refine lv_aload_n hx hb dX3_fitBoth_40 rfl (lv_at hl 0 rfl) ?_
        refine lv_aload_n hx hb dX3_fitBoth_41 rfl (lv_at hl 0 rfl) ?_
        refine va_get (D := gD g) (ci := 3) (v := .ref (ad 8)) (C := RX3) (T := TX3) (N := 33) hx hb hts hi3 hown hK hP 0 rfl rfl 7 (by decide) k0 (fun _ h9 => h9) rfl dX3_fitBoth_42 ?_
        refine lv_iload_n hx hb dX3_fitBoth_45 rfl (lv_at hl 2 rfl) ?_
        have h9 := hv.1
        have hv := hv.2
        refine va_iald (f := (sWhom (mS σ))) (n := 12) hx hb hK hP 8 0 rfl rfl h9 dX3_fitBoth_46 ?_
        refine lv_aload_n hx hb dX3_fitBoth_47 rfl (lv_at hl 0 rfl) ?_
        refine va_get (D := gD g) (ci := 3) (v := .ref (ad 9)) (C := RX3) (T := TX3) (N := 33) hx hb hts hi3 hown hK hP 0 rfl rfl 8 (by decide) k1 (fun _ h9 => h9) rfl dX3_fitBoth_48 ?_
        refine lv_iload_n hx hb dX3_fitBoth_51 rfl (lv_at hl 2 rfl) ?_
        have h9 := hv.1
        have hv := hv.2
        refine va_iald (f := (sWhat (mS σ))) (n := 12) hx hb hK hP 9 0 rfl rfl h9 dX3_fitBoth_52 ?_
        refine lv_iload_n hx hb dX3_fitBoth_53 rfl (lv_at hl 3 rfl) ?_
        refine lv_aload_n hx hb dX3_fitBoth_54 rfl (lv_at hl 0 rfl) ?_
        refine va_get (D := gD g) (ci := 3) (v := .ref (ad 11)) (C := RX3) (T := TX3) (N := 33) hx hb hts hi3 hown hK hP 0 rfl rfl 10 (by decide) k2 (fun _ h9 => h9) rfl dX3_fitBoth_55 ?_
        refine lv_iload_n hx hb dX3_fitBoth_58 rfl (lv_at hl 2 rfl) ?_
        have h9 := hv.1
        have hv := hv.2
        refine va_iald (f := (sWhen (mS σ))) (n := 12) hx hb hK hP 11 0 rfl rfl h9 dX3_fitBoth_59 ?_
        have h8 := hv.1
        have hv := hv.2
        have hPc := hP
        refine ro_int (va_runV (As := [.int ((sWhom (mS σ)) (p1).toNatClampNeg), .int ((sWhat (mS σ)) (p1).toNatClampNeg), .int x3, .int ((sWhen (mS σ)) (p1).toNatClampNeg)]) (rest := []) ⟨hx, hb, hml, hown, hts⟩ (h_X3_answerOf g ad σ ((sWhom (mS σ)) (p1).toNatClampNeg) ((sWhat (mS σ)) (p1).toNatClampNeg) x3 ((sWhen (mS σ)) (p1).toNatClampNeg) h8) (cwV 4 hts gX3_fitBoth_X3_answerOf rfl rfl rfl (by decide +kernel) ⟨Nat.le_of_ble_eq_true rfl, Nat.le_of_ble_eq_true rfl⟩) ⟨RO_blind, va_recv hK hP (ci := 3) (q0 := 0) rfl rfl, fun U hU hW => ⟨rfl, by rw [hU]; exact hPc, va_K.moved hW.alike hK, hE.call hW hU hS (fun _ h => h.elim)⟩⟩ rfl rfl hl.1 rfl (lv_room (Nat.le_of_ble_eq_true rfl)) dX3_fitBoth_60 ⟨Nat.le_of_ble_eq_true rfl, Nat.le_of_ble_eq_true rfl⟩) hS hP (fun r H locs hw hP hS => ?_)
        subst r
        refine lv_aload_n hx hb dX3_fitBoth_63 rfl (lv_at hl 0 rfl) ?_
        refine va_get (D := gD g) (ci := 3) (v := .ref (ad 10)) (C := RX3) (T := TX3) (N := 33) hx hb hts hi3 hown hK hP 0 rfl rfl 9 (by decide) k3 (fun _ h9 => h9) rfl dX3_fitBoth_64 ?_
        refine lv_iload_n hx hb dX3_fitBoth_67 rfl (lv_at hl 2 rfl) ?_
        have h9 := hv.1
        have hv := hv.2
        refine va_iald (f := (sSaid (mS σ))) (n := 12) hx hb hK hP 10 0 rfl rfl h9 dX3_fitBoth_68 ?_
        refine lv_icmp_ne (tgt := 74) hx hb dX3_fitBoth_69 (by decide) (fun c69 => ?_) (fun c69 => ?_)
        · have hv := hv.1 c69
          refine lv_iinc (v := (x3 + 1)) (lv' := [(3, .int (x3 + 1)), (0, .ref (ad 0)), (1, .int p0), (2, .int p1)]) hx hb dX3_fitBoth_74 hl (k := 3) rfl (by first | rfl | exact congrArg _ (by decide)) (by decide) rfl (fun ls hl => ?_)
          refine lv_goto (tgt := 2) hx hb dX3_fitBoth_77 (by decide) ?_
          exact hv H locs ls hP hS (lv_sub hl [1, 2, 3, 0] rfl)
        · have hv := hv.2 c69
          refine lv_iconst (v := 1) hx hb dX3_fitBoth_72 (by decide) ?_
          exact W.zret (v := 1) hx hb hr rfl (fun t ht hW => ⟨⟨1, (), rfl, hv, trivial⟩, hS.F ht⟩) hS.2.2 dX3_fitBoth_73)
  obtain ⟨H, hH⟩ : ∃ z, z = s.heap := ⟨_, rfl⟩
  obtain ⟨locs, hL⟩ : ∃ z : List Loc, z = [] := ⟨_, rfl⟩
  rw [← hL] at hS ⊢
  have hS : va_S A0 s.heap H locs := by rw [hH]; exact hS
  rw [← hH] at hP ⊢
  clear hH hL
  refine lv_iconst (v := 0) hx hb dX3_fitBoth_0 (by decide) ?_
  refine lv_istore_n (lv' := [(3, .int 0), (0, .ref (ad 0)), (1, .int p0), (2, .int p1)]) hx hb dX3_fitBoth_1 rfl hl (by decide) rfl (fun ls hl => ?_)
  exact hv H locs ls hP hS (lv_sub hl [1, 2, 3, 0] rfl)

set_option maxHeartbeats 4000000 in
set_option maxRecDepth 100000 in
theorem m_X3_clash (l : Launch) (h_X3_fitBoth : C_X3_fitBoth l) (g : CX) (ad : Nat → Nat) (σ : KM)  (Post : Int32 → Prop) (hv : vc_X3_clash σ Post) : Met l yX3_clash wsX3_clash { frames := 5, cells := 0, slots := 0, locals := 116 } (va_Pc [.ref (ad 0)] (RO g (wM g ad σ))) (va_Qi (fun r (_ : Unit) => Post r) (fun _ _ => True) A0) 0 0 A0 := by
  unfold vc_X3_clash at hv
  refine Met.ofW (cc := cX3_clash) (maxL := 3) (ret := (some .int)) (by decide) rfl ?_
  intro p e s m args below meth c s₁ B hml hv0
  obtain ⟨rfl, hP, hK, hE⟩ := hv0
  have hx := B.exec
  have hb := B.bytes
  have hr := B.returns
  have hts := atoms_spec (ws := wsX3_clash) B.pre
  have hown : s.vm.findClass RX3 = some m.cls := findClass_of_methodNamed B.named
  have hlocks := B.notSynchronized
  have hi3 : ∀ w ∈ wsX30, w ∈ wsX3_clash := by decide +kernel
  have k0 := hts (.fieldLink RX3 146 "JuryHearsAnswersModel" "heard" "I") (by decide +kernel)
  have hS : va_S A0 s.heap s.heap [] := va_S.rf
  have hP : va_P (gD g) vwCl (wM g ad σ) s.heap := hP
  have hl := lv_entry ([.ref (ad 0)]) (n := 3) (Nat.le_of_ble_eq_true rfl)
  rw [lg_entry_eq]
  generalize (lg_sl ([.ref (ad 0)]) ++ List.replicate (3 - (lg_sl ([.ref (ad 0)])).length) Slot.unset).toArray = ls at hl ⊢
  have hl : lv_has ls 3 [(0, .ref (ad 0))] := hl
  have hv := hv (fun (x1 : Int32) => ∀ (H : Heap) (locs : List Loc) (ls : Array Slot), va_P (gD g) vwCl (wM g ad σ) H → va_S A0 s.heap H locs → lv_has ls 3 [(0, .ref (ad 0)), (1, .int x1)] → W p l e { frames := 5, cells := 0, slots := 0, locals := 116 } s m ([.ref (ad 0)] : List Value).toArray below meth c H locs 0 0 (MQ below (va_Qi (fun r (_ : Unit) => Post r) (fun _ _ => True) A0) ([.ref (ad 0)] : List Value).toArray s 0 0 A0) (F0 m 2 ls []))
  have hv := hv (fun (x1 : Int32) (x2 : Int32) => ∀ (H : Heap) (locs : List Loc) (ls : Array Slot), va_P (gD g) vwCl (wM g ad σ) H → va_S A0 s.heap H locs → lv_has ls 3 [(0, .ref (ad 0)), (1, .int x1), (2, .int x2)] → W p l e { frames := 5, cells := 0, slots := 0, locals := 116 } s m ([.ref (ad 0)] : List Value).toArray below meth c H locs 0 0 (MQ below (va_Qi (fun r (_ : Unit) => Post r) (fun _ _ => True) A0) ([.ref (ad 0)] : List Value).toArray s 0 0 A0) (F0 m 14 ls []))
  have hv := hv (by
    intro x1 hv H locs ls hP hS hl
    refine lv_iload_n hx hb dX3_clash_2 rfl (lv_at hl 1 rfl) ?_
    refine lv_aload_n hx hb dX3_clash_3 rfl (lv_at hl 0 rfl) ?_
    refine va_get (D := gD g) (ci := 3) (v := .int (sNh (mS σ))) (C := RX3) (T := TX3) (N := 33) hx hb hts hi3 hown hK hP 0 rfl rfl 14 (by decide) k0 (fun _ h9 => h9) rfl dX3_clash_4 ?_
    refine lv_icmp_ge (tgt := 50) hx hb dX3_clash_7 (by decide) (fun c7 => ?_) (fun c7 => ?_)
    · have hv := hv.1 c7
      refine lv_bipush (v := (-9)) hx hb dX3_clash_50 (by decide) ?_
      exact W.iret (v := (-9)) hx hb hr (fun t ht hW => ⟨⟨(-9), (), rfl, hv, trivial⟩, hS.F ht⟩) hS.2.2 dX3_clash_52
    · have hv := hv.2 c7
      refine lv_iload_n hx hb dX3_clash_10 rfl (lv_at hl 1 rfl) ?_
      refine lv_iconst (v := 1) hx hb dX3_clash_11 (by decide) ?_
      refine lv_iadd hx hb dX3_clash_12 ?_
      refine lv_istore_n (lv' := [(2, .int (x1 + 1)), (0, .ref (ad 0)), (1, .int x1)]) hx hb dX3_clash_13 rfl hl (by decide) rfl (fun ls hl => ?_)
      exact hv H locs ls hP hS (lv_sub hl [1, 2, 0] rfl))
  have hv := hv (by
    intro x1 x2 hv H locs ls hP hS hl
    refine lv_iload_n hx hb dX3_clash_14 rfl (lv_at hl 2 rfl) ?_
    refine lv_aload_n hx hb dX3_clash_15 rfl (lv_at hl 0 rfl) ?_
    refine va_get (D := gD g) (ci := 3) (v := .int (sNh (mS σ))) (C := RX3) (T := TX3) (N := 33) hx hb hts hi3 hown hK hP 0 rfl rfl 14 (by decide) k0 (fun _ h9 => h9) rfl dX3_clash_16 ?_
    refine lv_icmp_ge (tgt := 44) hx hb dX3_clash_19 (by decide) (fun c19 => ?_) (fun c19 => ?_)
    · have hv := hv.1 c19
      refine lv_iinc (v := (x1 + 1)) (lv' := [(1, .int (x1 + 1)), (0, .ref (ad 0)), (2, .int x2)]) hx hb dX3_clash_44 hl (k := 1) rfl (by first | rfl | exact congrArg _ (by decide)) (by decide) rfl (fun ls hl => ?_)
      refine lv_goto (tgt := 2) hx hb dX3_clash_47 (by decide) ?_
      exact hv H locs ls hP hS (lv_sub hl [1, 0] rfl)
    · have hv := hv.2 c19
      refine lv_aload_n hx hb dX3_clash_22 rfl (lv_at hl 0 rfl) ?_
      refine lv_iload_n hx hb dX3_clash_23 rfl (lv_at hl 1 rfl) ?_
      refine lv_iload_n hx hb dX3_clash_24 rfl (lv_at hl 2 rfl) ?_
      have h8 := hv.1
      have hv := hv.2
      have hPc := hP
      refine ro_int (va_runV (As := [.int x1, .int x2]) (rest := []) ⟨hx, hb, hml, hown, hts⟩ (h_X3_fitBoth g ad σ x1 x2 h8) (cwV 2 hts gX3_clash_X3_fitBoth rfl rfl rfl (by decide +kernel) ⟨Nat.le_of_ble_eq_true rfl, Nat.le_of_ble_eq_true rfl⟩) ⟨RO_blind, va_recv hK hP (ci := 3) (q0 := 0) rfl rfl, fun U hU hW => ⟨rfl, by rw [hU]; exact hPc, va_K.moved hW.alike hK, hE.call hW hU hS (fun _ h => h.elim)⟩⟩ rfl rfl hl.1 rfl (lv_room (Nat.le_of_ble_eq_true rfl)) dX3_clash_25 ⟨Nat.le_of_ble_eq_true rfl, Nat.le_of_ble_eq_true rfl⟩) hS hP (fun r H locs hw hP hS => ?_)
      subst r
      refine lv_if_ne (tgt := 38) hx hb dX3_clash_28 (by decide) (fun c28 => ?_) (fun c28 => ?_)
      · have hv := hv.1 c28
        refine lv_iinc (v := (x2 + 1)) (lv' := [(2, .int (x2 + 1)), (0, .ref (ad 0)), (1, .int x1)]) hx hb dX3_clash_38 hl (k := 2) rfl (by first | rfl | exact congrArg _ (by decide)) (by decide) rfl (fun ls hl => ?_)
        refine lv_goto (tgt := 14) hx hb dX3_clash_41 (by decide) ?_
        exact hv H locs ls hP hS (lv_sub hl [1, 2, 0] rfl)
      · have hv := hv.2 c28
        refine lv_bipush (v := 100) hx hb dX3_clash_31 (by decide) ?_
        refine lv_iload_n hx hb dX3_clash_33 rfl (lv_at hl 1 rfl) ?_
        refine lv_imul hx hb dX3_clash_34 ?_
        refine lv_iload_n hx hb dX3_clash_35 rfl (lv_at hl 2 rfl) ?_
        refine lv_iadd hx hb dX3_clash_36 ?_
        exact W.iret (v := ((100 * x1) + x2)) hx hb hr (fun t ht hW => ⟨⟨((100 * x1) + x2), (), rfl, hv, trivial⟩, hS.F ht⟩) hS.2.2 dX3_clash_37)
  obtain ⟨H, hH⟩ : ∃ z, z = s.heap := ⟨_, rfl⟩
  obtain ⟨locs, hL⟩ : ∃ z : List Loc, z = [] := ⟨_, rfl⟩
  rw [← hL] at hS ⊢
  have hS : va_S A0 s.heap H locs := by rw [hH]; exact hS
  rw [← hH] at hP ⊢
  clear hH hL
  refine lv_iconst (v := 0) hx hb dX3_clash_0 (by decide) ?_
  refine lv_istore_n (lv' := [(1, .int 0), (0, .ref (ad 0))]) hx hb dX3_clash_1 rfl hl (by decide) rfl (fun ls hl => ?_)
  exact hv H locs ls hP hS (lv_sub hl [1, 0] rfl)

set_option maxHeartbeats 4000000 in
set_option maxRecDepth 100000 in
theorem m_X3_trueOf (l : Launch) (h_X3_isWitness : C_X3_isWitness l) (h_X3_no : C_X3_no l) (h_X3_trueAt : C_X3_trueAt l) (g : CX) (ad : Nat → Nat) (σ : KM) (p0 : Int32) (Post : Int32 → KM → Prop) (hv : vc_X3_trueOf σ p0 Post) : Met l yX3_trueOf wsX3_trueOf { frames := 3, cells := 0, slots := 0, locals := 67 } (va_Pc [.ref (ad 0), .int p0] (RW g (AD ad 0 21) (wM g ad σ))) (va_Qi (fun (r : Int32) (u : KM) => Post r u) (fun u t => va_P (gD g) vwCl (wM g ad u) t.heap) (AD ad 0 21)) 0 0 (AD ad 0 21) := by
  unfold vc_X3_trueOf at hv
  refine Met.ofW (cc := cX3_trueOf) (maxL := 4) (ret := (some .int)) (by decide) rfl ?_
  intro p e s m args below meth c s₁ B hml hv0
  obtain ⟨rfl, hP, hK, hE, hD⟩ := hv0
  have hx := B.exec
  have hb := B.bytes
  have hr := B.returns
  have hts := atoms_spec (ws := wsX3_trueOf) B.pre
  have hown : s.vm.findClass RX3 = some m.cls := findClass_of_methodNamed B.named
  have hlocks := B.notSynchronized
  have hi3 : ∀ w ∈ wsX30, w ∈ wsX3_trueOf := by decide +kernel
  have k0 := hts (.fieldLink RX3 146 "JuryHearsAnswersModel" "heard" "I") (by decide +kernel)
  have k1 := hts (.fieldLink RX3 31 "JuryHearsAnswersModel" "whom" "[I") (by decide +kernel)
  have k2 := hts (.fieldLink RX3 134 "JuryHearsAnswersModel" "theCase" "I") (by decide +kernel)
  have hS : va_S (AD ad 0 21) s.heap s.heap [] := va_S.rf
  have hP : va_P (gD g) vwCl (wM g ad σ) s.heap := hP
  have hl := lv_entry ([.ref (ad 0), .int p0]) (n := 4) (Nat.le_of_ble_eq_true rfl)
  rw [lg_entry_eq]
  generalize (lg_sl ([.ref (ad 0), .int p0]) ++ List.replicate (4 - (lg_sl ([.ref (ad 0), .int p0])).length) Slot.unset).toArray = ls at hl ⊢
  have hl : lv_has ls 4 [(0, .ref (ad 0)), (1, .int p0)] := hl
  have hv := hv (fun (x2 : Int32) (x3 : Int32) (s_refused : FI) => ∀ (H : Heap) (locs : List Loc) (ls : Array Slot), va_P (gD g) vwCl (wM g ad ((mS σ), (mT σ), (mK σ), (mF σ), (mRow σ), (mRowMany σ), (mLots σ), s_refused)) H → va_D (AD ad 0 21) (wM g ad ((mS σ), (mT σ), (mK σ), (mF σ), (mRow σ), (mRowMany σ), (mLots σ), s_refused)) → va_S (AD ad 0 21) s.heap H locs → lv_has ls 4 [(0, .ref (ad 0)), (1, .int p0), (2, .int x2), (3, .int x3)] → W p l e { frames := 3, cells := 0, slots := 0, locals := 67 } s m ([.ref (ad 0), .int p0] : List Value).toArray below meth c H locs 0 0 (MQ below (va_Qi (fun (r : Int32) (u : KM) => Post r u) (fun u t => va_P (gD g) vwCl (wM g ad u) t.heap) (AD ad 0 21)) ([.ref (ad 0), .int p0] : List Value).toArray s 0 0 (AD ad 0 21)) (F0 m 18 ls []))
  have hv := hv (by
    intro x2 x3 s_refused hv H locs ls hP hD hS hl
    refine lv_iload_n hx hb dX3_trueOf_18 rfl (lv_at hl 3 rfl) ?_
    refine lv_aload_n hx hb dX3_trueOf_19 rfl (lv_at hl 0 rfl) ?_
    refine va_get (D := gD g) (ci := 3) (v := .int (sNh (mS σ))) (C := RX3) (T := TX3) (N := 33) hx hb hts hi3 hown hK hP 0 rfl rfl 14 (by decide) k0 (fun _ h9 => h9) rfl dX3_trueOf_20 ?_
    refine lv_icmp_ge (tgt := 63) hx hb dX3_trueOf_23 (by decide) (fun c23 => ?_) (fun c23 => ?_)
    · have hv := hv.1 c23
      refine lv_iload_n hx hb dX3_trueOf_63 rfl (lv_at hl 2 rfl) ?_
      exact W.iret (v := x2) hx hb hr (fun t ht hW => ⟨⟨x2, ((mS σ), (mT σ), (mK σ), (mF σ), (mRow σ), (mRowMany σ), (mLots σ), s_refused), rfl, hv, P_at ht hP⟩, hS.F ht⟩) hS.2.2 dX3_trueOf_64
    · have hv := hv.2 c23
      refine lv_iload_n hx hb dX3_trueOf_26 rfl (lv_at hl 2 rfl) ?_
      refine lv_aload_n hx hb dX3_trueOf_27 rfl (lv_at hl 0 rfl) ?_
      refine va_get (D := gD g) (ci := 3) (v := .ref (ad 8)) (C := RX3) (T := TX3) (N := 33) hx hb hts hi3 hown hK hP 0 rfl rfl 7 (by decide) k1 (fun _ h9 => h9) rfl dX3_trueOf_28 ?_
      refine lv_iload_n hx hb dX3_trueOf_31 rfl (lv_at hl 3 rfl) ?_
      have h9 := hv.1
      have hv := hv.2
      refine va_iald (f := (sWhom (mS σ))) (n := 12) hx hb hK hP 8 0 rfl rfl h9 dX3_trueOf_32 ?_
      refine lv_iload_n hx hb dX3_trueOf_33 rfl (lv_at hl 1 rfl) ?_
      refine lv_icmp_ne (tgt := 54) hx hb dX3_trueOf_34 (by decide) (fun c34 => ?_) (fun c34 => ?_)
      · have hv := hv.1 c34
        refine lv_iconst (v := 0) hx hb dX3_trueOf_54 (by decide) ?_
        refine lv_iadd hx hb dX3_trueOf_55 ?_
        refine lv_istore_n (lv' := [(2, .int (x2 + 0)), (0, .ref (ad 0)), (1, .int p0), (3, .int x3)]) hx hb dX3_trueOf_56 rfl hl (by decide) rfl (fun ls hl => ?_)
        refine lv_iinc (v := (x3 + 1)) (lv' := [(3, .int (x3 + 1)), (2, .int (x2 + 0)), (0, .ref (ad 0)), (1, .int p0)]) hx hb dX3_trueOf_57 hl (k := 3) rfl (by first | rfl | exact congrArg _ (by decide)) (by decide) rfl (fun ls hl => ?_)
        refine lv_goto (tgt := 18) hx hb dX3_trueOf_60 (by decide) ?_
        exact hv H locs ls hP hD hS (lv_sub hl [2, 3, 1, 0] rfl)
      · have hv := hv.2 c34
        refine lv_aload_n hx hb dX3_trueOf_37 rfl (lv_at hl 0 rfl) ?_
        refine lv_iload_n hx hb dX3_trueOf_38 rfl (lv_at hl 3 rfl) ?_
        refine lv_aload_n hx hb dX3_trueOf_39 rfl (lv_at hl 0 rfl) ?_
        refine va_get (D := gD g) (ci := 3) (v := .int (sCase (mS σ))) (C := RX3) (T := TX3) (N := 33) hx hb hts hi3 hown hK hP 0 rfl rfl 11 (by decide) k2 (fun _ h9 => h9) rfl dX3_trueOf_40 ?_
        have h8 := hv.1
        have hv := hv.2
        have hPc := hP
        refine ro_int (va_runV (As := [.int x3, .int (sCase (mS σ))]) (rest := [.int x2]) ⟨hx, hb, hml, hown, hts⟩ (h_X3_trueAt g ad ((mS σ), (mT σ), (mK σ), (mF σ), (mRow σ), (mRowMany σ), (mLots σ), s_refused) x3 (sCase (mS σ)) h8) (cwV 2 hts gX3_trueOf_X3_trueAt rfl rfl rfl (by decide +kernel) ⟨Nat.le_of_ble_eq_true rfl, Nat.le_of_ble_eq_true rfl⟩) ⟨RO_blind, va_recv hK hP (ci := 3) (q0 := 0) rfl rfl, fun U hU hW => ⟨rfl, by rw [hU]; exact hPc, va_K.moved hW.alike hK, hE.call hW hU hS (fun _ h => h.elim)⟩⟩ rfl rfl hl.1 rfl (lv_room (Nat.le_of_ble_eq_true rfl)) dX3_trueOf_43 ⟨Nat.le_of_ble_eq_true rfl, Nat.le_of_ble_eq_true rfl⟩) hS hP (fun r H locs hw hP hS => ?_)
        subst r
        refine lv_iconst (v := 1) hx hb dX3_trueOf_46 (by decide) ?_
        refine lv_icmp_ne (tgt := 54) hx hb dX3_trueOf_47 (by decide) (fun c47 => ?_) (fun c47 => ?_)
        · have hv := hv.1 c47
          refine lv_iconst (v := 0) hx hb dX3_trueOf_54 (by decide) ?_
          refine lv_iadd hx hb dX3_trueOf_55 ?_
          refine lv_istore_n (lv' := [(2, .int (x2 + 0)), (0, .ref (ad 0)), (1, .int p0), (3, .int x3)]) hx hb dX3_trueOf_56 rfl hl (by decide) rfl (fun ls hl => ?_)
          refine lv_iinc (v := (x3 + 1)) (lv' := [(3, .int (x3 + 1)), (2, .int (x2 + 0)), (0, .ref (ad 0)), (1, .int p0)]) hx hb dX3_trueOf_57 hl (k := 3) rfl (by first | rfl | exact congrArg _ (by decide)) (by decide) rfl (fun ls hl => ?_)
          refine lv_goto (tgt := 18) hx hb dX3_trueOf_60 (by decide) ?_
          exact hv H locs ls hP hD hS (lv_sub hl [2, 3, 1, 0] rfl)
        · have hv := hv.2 c47
          refine lv_iconst (v := 1) hx hb dX3_trueOf_50 (by decide) ?_
          refine lv_goto (tgt := 55) hx hb dX3_trueOf_51 (by decide) ?_
          refine lv_iadd hx hb dX3_trueOf_55 ?_
          refine lv_istore_n (lv' := [(2, .int (x2 + 1)), (0, .ref (ad 0)), (1, .int p0), (3, .int x3)]) hx hb dX3_trueOf_56 rfl hl (by decide) rfl (fun ls hl => ?_)
          refine lv_iinc (v := (x3 + 1)) (lv' := [(3, .int (x3 + 1)), (2, .int (x2 + 1)), (0, .ref (ad 0)), (1, .int p0)]) hx hb dX3_trueOf_57 hl (k := 3) rfl (by first | rfl | exact congrArg _ (by decide)) (by decide) rfl (fun ls hl => ?_)
          refine lv_goto (tgt := 18) hx hb dX3_trueOf_60 (by decide) ?_
          exact hv H locs ls hP hD hS (lv_sub hl [2, 3, 1, 0] rfl))
  obtain ⟨H, hH⟩ : ∃ z, z = s.heap := ⟨_, rfl⟩
  obtain ⟨locs, hL⟩ : ∃ z : List Loc, z = [] := ⟨_, rfl⟩
  rw [← hL] at hS ⊢
  have hS : va_S (AD ad 0 21) s.heap H locs := by rw [hH]; exact hS
  rw [← hH] at hP ⊢
  clear hH hL
  refine lv_aload_n hx hb dX3_trueOf_0 rfl (lv_at hl 0 rfl) ?_
  refine lv_iload_n hx hb dX3_trueOf_1 rfl (lv_at hl 1 rfl) ?_
  have hPc := hP
  refine ro_int (va_runV (As := [.int p0]) (rest := []) ⟨hx, hb, hml, hown, hts⟩ (h_X3_isWitness g ad σ p0) (cwV 1 hts gX3_trueOf_X3_isWitness rfl rfl rfl (by decide +kernel) ⟨Nat.le_of_ble_eq_true rfl, Nat.le_of_ble_eq_true rfl⟩) ⟨RO_blind, va_recv hK hP (ci := 3) (q0 := 0) rfl rfl, fun U hU hW => ⟨rfl, by rw [hU]; exact hPc, va_K.moved hW.alike hK, hE.call hW hU hS (fun _ h => h.elim)⟩⟩ rfl rfl hl.1 rfl (lv_room (Nat.le_of_ble_eq_true rfl)) dX3_trueOf_2 ⟨Nat.le_of_ble_eq_true rfl, Nat.le_of_ble_eq_true rfl⟩) hS hP (fun r H locs hw hP hS => ?_)
  subst r
  refine lv_if_ne (tgt := 14) hx hb dX3_trueOf_5 (by decide) (fun c5 => ?_) (fun c5 => ?_)
  · have hv := hv.1 c5
    refine lv_iconst (v := 0) hx hb dX3_trueOf_14 (by decide) ?_
    refine lv_istore_n (lv' := [(2, .int 0), (0, .ref (ad 0)), (1, .int p0)]) hx hb dX3_trueOf_15 rfl hl (by decide) rfl (fun ls hl => ?_)
    refine lv_iconst (v := 0) hx hb dX3_trueOf_16 (by decide) ?_
    refine lv_istore_n (lv' := [(3, .int 0), (2, .int 0), (0, .ref (ad 0)), (1, .int p0)]) hx hb dX3_trueOf_17 rfl hl (by decide) rfl (fun ls hl => ?_)
    exact hv H locs ls hP hD hS (lv_sub hl [2, 3, 1, 0] rfl)
  · have hv := hv.2 c5
    refine lv_aload_n hx hb dX3_trueOf_8 rfl (lv_at hl 0 rfl) ?_
    refine lv_iconst (v := (-1)) hx hb dX3_trueOf_9 (by decide) ?_
    have h8 := hv.1
    have hv := hv.2
    have hPc := hP
    have hDc := hD
    refine rw_int (va_runV (As := [.int (-1)]) (rest := []) ⟨hx, hb, hml, hown, hts⟩ (h_X3_no g ad σ (-1) h8) (cwV 1 hts gX3_trueOf_X3_no rfl rfl rfl (by decide +kernel) ⟨Nat.le_of_ble_eq_true rfl, Nat.le_of_ble_eq_true rfl⟩) ⟨RW_blind, va_recv hK hP (ci := 3) (q0 := 0) rfl rfl, fun U hU hW => ⟨rfl, by rw [hU]; exact hPc, va_K.moved hW.alike hK, hE.call hW hU hS (fun _ h => h), hDc⟩⟩ rfl rfl hl.1 rfl (lv_room (Nat.le_of_ble_eq_true rfl)) dX3_trueOf_10 ⟨Nat.le_of_ble_eq_true rfl, Nat.le_of_ble_eq_true rfl⟩) hS (fun _ h => h) (fun r u H1 locs hw hP1 hk hS => ?_)
    obtain ⟨hw1, hw⟩ := hw; subst r; subst u
    have hP := hP1
    generalize H1 = H at hP hS ⊢
    have hP : va_P (gD g) vwCl (wM g ad ((mS σ), (mT σ), (mK σ), (mF σ), (mRow σ), (mRowMany σ), (mLots σ), (refuX (mRefused σ) ((-1) : Int32)))) H := hP
    have hD : va_D (AD ad 0 21) (wM g ad ((mS σ), (mT σ), (mK σ), (mF σ), (mRow σ), (mRowMany σ), (mLots σ), (refuX (mRefused σ) ((-1) : Int32)))) := hD.addr (by rfl)
    exact W.iret (v := (((-1) : Int32))) hx hb hr (fun t ht hW => ⟨⟨(((-1) : Int32)), ((mS σ), (mT σ), (mK σ), (mF σ), (mRow σ), (mRowMany σ), (mLots σ), (refuX (mRefused σ) ((-1) : Int32))), rfl, hv, P_at ht hP⟩, hS.F ht⟩) hS.2.2 dX3_trueOf_13

set_option maxHeartbeats 4000000 in
set_option maxRecDepth 100000 in
theorem m_X3_talker (l : Launch)  (g : CX) (ad : Nat → Nat) (σ : KM)  (Post : Int32 → Prop) (hv : vc_X3_talker σ Post) : Met l yX3_talker wsX3_talker { frames := 0, cells := 0, slots := 0, locals := 0 } (va_Pc [.ref (ad 0)] (RO g (wM g ad σ))) (va_Qi (fun r (_ : Unit) => Post r) (fun _ _ => True) A0) 0 0 A0 := by
  unfold vc_X3_talker at hv
  refine Met.ofW (cc := cX3_talker) (maxL := 6) (ret := (some .int)) (by decide) rfl ?_
  intro p e s m args below meth c s₁ B hml hv0
  obtain ⟨rfl, hP, hK, hE⟩ := hv0
  have hx := B.exec
  have hb := B.bytes
  have hr := B.returns
  have hts := atoms_spec (ws := wsX3_talker) B.pre
  have hown : s.vm.findClass RX3 = some m.cls := findClass_of_methodNamed B.named
  have hlocks := B.notSynchronized
  have hi3 : ∀ w ∈ wsX30, w ∈ wsX3_talker := by decide +kernel
  have k0 := hts (.fieldLink RX3 76 "JuryHearsAnswersModel" "witnesses" "I") (by decide +kernel)
  have k1 := hts (.fieldLink RX3 146 "JuryHearsAnswersModel" "heard" "I") (by decide +kernel)
  have k2 := hts (.fieldLink RX3 31 "JuryHearsAnswersModel" "whom" "[I") (by decide +kernel)
  have k3 := hts (.fieldLink RX3 37 "JuryHearsAnswersModel" "said" "[I") (by decide +kernel)
  have hS : va_S A0 s.heap s.heap [] := va_S.rf
  have hP : va_P (gD g) vwCl (wM g ad σ) s.heap := hP
  have hl := lv_entry ([.ref (ad 0)]) (n := 6) (Nat.le_of_ble_eq_true rfl)
  rw [lg_entry_eq]
  generalize (lg_sl ([.ref (ad 0)]) ++ List.replicate (6 - (lg_sl ([.ref (ad 0)])).length) Slot.unset).toArray = ls at hl ⊢
  have hl : lv_has ls 6 [(0, .ref (ad 0))] := hl
  have hv := hv (fun (x1 : Int32) (x2 : Int32) (x3 : Int32) => ∀ (H : Heap) (locs : List Loc) (ls : Array Slot), va_P (gD g) vwCl (wM g ad σ) H → va_S A0 s.heap H locs → lv_has ls 6 [(0, .ref (ad 0)), (1, .int x1), (2, .int x2), (3, .int x3)] → W p l e { frames := 0, cells := 0, slots := 0, locals := 0 } s m ([.ref (ad 0)] : List Value).toArray below meth c H locs 0 0 (MQ below (va_Qi (fun r (_ : Unit) => Post r) (fun _ _ => True) A0) ([.ref (ad 0)] : List Value).toArray s 0 0 A0) (F0 m 7 ls []))
  have hv := hv (fun (x1 : Int32) (x2 : Int32) (x3 : Int32) (x4 : Int32) (x5 : Int32) => ∀ (H : Heap) (locs : List Loc) (ls : Array Slot), va_P (gD g) vwCl (wM g ad σ) H → va_S A0 s.heap H locs → lv_has ls 6 [(0, .ref (ad 0)), (1, .int x1), (2, .int x2), (3, .int x3), (4, .int x4), (5, .int x5)] → W p l e { frames := 0, cells := 0, slots := 0, locals := 0 } s m ([.ref (ad 0)] : List Value).toArray below meth c H locs 0 0 (MQ below (va_Qi (fun r (_ : Unit) => Post r) (fun _ _ => True) A0) ([.ref (ad 0)] : List Value).toArray s 0 0 A0) (F0 m 21 ls []))
  have hv := hv (by
    intro x1 x2 x3 hv H locs ls hP hS hl
    refine lv_iload_n hx hb dX3_talker_7 rfl (lv_at hl 3 rfl) ?_
    refine lv_aload_n hx hb dX3_talker_8 rfl (lv_at hl 0 rfl) ?_
    refine va_get (D := gD g) (ci := 3) (v := .int (sNw (mS σ))) (C := RX3) (T := TX3) (N := 33) hx hb hts hi3 hown hK hP 0 rfl rfl 13 (by decide) k0 (fun _ h9 => h9) rfl dX3_talker_9 ?_
    refine lv_icmp_ge (tgt := 88) hx hb dX3_talker_12 (by decide) (fun c12 => ?_) (fun c12 => ?_)
    · have hv := hv.1 c12
      refine lv_iload_n hx hb dX3_talker_88 rfl (lv_at hl 1 rfl) ?_
      exact W.iret (v := x1) hx hb hr (fun t ht hW => ⟨⟨x1, (), rfl, hv, trivial⟩, hS.F ht⟩) hS.2.2 dX3_talker_89
    · have hv := hv.2 c12
      refine lv_iconst (v := 0) hx hb dX3_talker_15 (by decide) ?_
      refine lv_istore (lv' := [(4, .int 0), (0, .ref (ad 0)), (1, .int x1), (2, .int x2), (3, .int x3)]) hx hb dX3_talker_16 hl (by decide) rfl (fun ls hl => ?_)
      refine lv_iconst (v := 0) hx hb dX3_talker_18 (by decide) ?_
      refine lv_istore (lv' := [(5, .int 0), (4, .int 0), (0, .ref (ad 0)), (1, .int x1), (2, .int x2), (3, .int x3)]) hx hb dX3_talker_19 hl (by decide) rfl (fun ls hl => ?_)
      exact hv H locs ls hP hS (lv_sub hl [2, 3, 4, 5, 1, 0] rfl))
  have hv := hv (by
    intro x1 x2 x3 x4 x5 hv H locs ls hP hS hl
    refine lv_iload hx hb dX3_talker_21 (lv_at hl 5 rfl) ?_
    refine lv_aload_n hx hb dX3_talker_23 rfl (lv_at hl 0 rfl) ?_
    refine va_get (D := gD g) (ci := 3) (v := .int (sNh (mS σ))) (C := RX3) (T := TX3) (N := 33) hx hb hts hi3 hown hK hP 0 rfl rfl 14 (by decide) k1 (fun _ h9 => h9) rfl dX3_talker_24 ?_
    refine lv_icmp_ge (tgt := 68) hx hb dX3_talker_27 (by decide) (fun c27 => ?_) (fun c27 => ?_)
    · have hv := hv.1 c27
      refine lv_iload hx hb dX3_talker_68 (lv_at hl 4 rfl) ?_
      refine lv_iload_n hx hb dX3_talker_70 rfl (lv_at hl 2 rfl) ?_
      refine lv_icmp_gt (tgt := 77) hx hb dX3_talker_71 (by decide) (fun c71 => ?_) (fun c71 => ?_)
      · have hv := hv.1 c71
        refine lv_iload_n hx hb dX3_talker_77 rfl (lv_at hl 3 rfl) ?_
        refine lv_istore_n (lv' := [(1, .int x3), (0, .ref (ad 0)), (2, .int x2), (3, .int x3), (4, .int x4), (5, .int x5)]) hx hb dX3_talker_78 rfl hl (by decide) rfl (fun ls hl => ?_)
        refine lv_iload hx hb dX3_talker_79 (lv_at hl 4 rfl) ?_
        refine lv_istore_n (lv' := [(2, .int x4), (1, .int x3), (0, .ref (ad 0)), (3, .int x3), (4, .int x4), (5, .int x5)]) hx hb dX3_talker_81 rfl hl (by decide) rfl (fun ls hl => ?_)
        refine lv_iinc (v := (x3 + 1)) (lv' := [(3, .int (x3 + 1)), (2, .int x4), (1, .int x3), (0, .ref (ad 0)), (4, .int x4), (5, .int x5)]) hx hb dX3_talker_82 hl (k := 3) rfl (by first | rfl | exact congrArg _ (by decide)) (by decide) rfl (fun ls hl => ?_)
        refine lv_goto (tgt := 7) hx hb dX3_talker_85 (by decide) ?_
        exact hv H locs ls hP hS (lv_sub hl [3, 2, 1, 0] rfl)
      · have hv := hv.2 c71
        refine lv_goto (tgt := 82) hx hb dX3_talker_74 (by decide) ?_
        refine lv_iinc (v := (x3 + 1)) (lv' := [(3, .int (x3 + 1)), (0, .ref (ad 0)), (1, .int x1), (2, .int x2), (4, .int x4), (5, .int x5)]) hx hb dX3_talker_82 hl (k := 3) rfl (by first | rfl | exact congrArg _ (by decide)) (by decide) rfl (fun ls hl => ?_)
        refine lv_goto (tgt := 7) hx hb dX3_talker_85 (by decide) ?_
        exact hv H locs ls hP hS (lv_sub hl [1, 2, 3, 0] rfl)
    · have hv := hv.2 c27
      refine lv_iload hx hb dX3_talker_30 (lv_at hl 4 rfl) ?_
      refine lv_aload_n hx hb dX3_talker_32 rfl (lv_at hl 0 rfl) ?_
      refine va_get (D := gD g) (ci := 3) (v := .ref (ad 8)) (C := RX3) (T := TX3) (N := 33) hx hb hts hi3 hown hK hP 0 rfl rfl 7 (by decide) k2 (fun _ h9 => h9) rfl dX3_talker_33 ?_
      refine lv_iload hx hb dX3_talker_36 (lv_at hl 5 rfl) ?_
      have h9 := hv.1
      have hv := hv.2
      refine va_iald (f := (sWhom (mS σ))) (n := 12) hx hb hK hP 8 0 rfl rfl h9 dX3_talker_38 ?_
      refine lv_iload_n hx hb dX3_talker_39 rfl (lv_at hl 3 rfl) ?_
      refine lv_icmp_ne (tgt := 58) hx hb dX3_talker_40 (by decide) (fun c40 => ?_) (fun c40 => ?_)
      · have hv := hv.1 c40
        refine lv_iconst (v := 0) hx hb dX3_talker_58 (by decide) ?_
        refine lv_iadd hx hb dX3_talker_59 ?_
        refine lv_istore (lv' := [(4, .int (x4 + 0)), (0, .ref (ad 0)), (1, .int x1), (2, .int x2), (3, .int x3), (5, .int x5)]) hx hb dX3_talker_60 hl (by decide) rfl (fun ls hl => ?_)
        refine lv_iinc (v := (x5 + 1)) (lv' := [(5, .int (x5 + 1)), (4, .int (x4 + 0)), (0, .ref (ad 0)), (1, .int x1), (2, .int x2), (3, .int x3)]) hx hb dX3_talker_62 hl (k := 5) rfl (by first | rfl | exact congrArg _ (by decide)) (by decide) rfl (fun ls hl => ?_)
        refine lv_goto (tgt := 21) hx hb dX3_talker_65 (by decide) ?_
        exact hv H locs ls hP hS (lv_sub hl [2, 3, 4, 5, 1, 0] rfl)
      · have hv := hv.2 c40
        refine lv_aload_n hx hb dX3_talker_43 rfl (lv_at hl 0 rfl) ?_
        refine va_get (D := gD g) (ci := 3) (v := .ref (ad 10)) (C := RX3) (T := TX3) (N := 33) hx hb hts hi3 hown hK hP 0 rfl rfl 9 (by decide) k3 (fun _ h9 => h9) rfl dX3_talker_44 ?_
        refine lv_iload hx hb dX3_talker_47 (lv_at hl 5 rfl) ?_
        have h9 := hv.1
        have hv := hv.2
        refine va_iald (f := (sSaid (mS σ))) (n := 12) hx hb hK hP 10 0 rfl rfl h9 dX3_talker_49 ?_
        refine lv_iconst (v := 2) hx hb dX3_talker_50 (by decide) ?_
        refine lv_icmp_eq (tgt := 58) hx hb dX3_talker_51 (by decide) (fun c51 => ?_) (fun c51 => ?_)
        · have hv := hv.1 c51
          refine lv_iconst (v := 0) hx hb dX3_talker_58 (by decide) ?_
          refine lv_iadd hx hb dX3_talker_59 ?_
          refine lv_istore (lv' := [(4, .int (x4 + 0)), (0, .ref (ad 0)), (1, .int x1), (2, .int x2), (3, .int x3), (5, .int x5)]) hx hb dX3_talker_60 hl (by decide) rfl (fun ls hl => ?_)
          refine lv_iinc (v := (x5 + 1)) (lv' := [(5, .int (x5 + 1)), (4, .int (x4 + 0)), (0, .ref (ad 0)), (1, .int x1), (2, .int x2), (3, .int x3)]) hx hb dX3_talker_62 hl (k := 5) rfl (by first | rfl | exact congrArg _ (by decide)) (by decide) rfl (fun ls hl => ?_)
          refine lv_goto (tgt := 21) hx hb dX3_talker_65 (by decide) ?_
          exact hv H locs ls hP hS (lv_sub hl [2, 3, 4, 5, 1, 0] rfl)
        · have hv := hv.2 c51
          refine lv_iconst (v := 1) hx hb dX3_talker_54 (by decide) ?_
          refine lv_goto (tgt := 59) hx hb dX3_talker_55 (by decide) ?_
          refine lv_iadd hx hb dX3_talker_59 ?_
          refine lv_istore (lv' := [(4, .int (x4 + 1)), (0, .ref (ad 0)), (1, .int x1), (2, .int x2), (3, .int x3), (5, .int x5)]) hx hb dX3_talker_60 hl (by decide) rfl (fun ls hl => ?_)
          refine lv_iinc (v := (x5 + 1)) (lv' := [(5, .int (x5 + 1)), (4, .int (x4 + 1)), (0, .ref (ad 0)), (1, .int x1), (2, .int x2), (3, .int x3)]) hx hb dX3_talker_62 hl (k := 5) rfl (by first | rfl | exact congrArg _ (by decide)) (by decide) rfl (fun ls hl => ?_)
          refine lv_goto (tgt := 21) hx hb dX3_talker_65 (by decide) ?_
          exact hv H locs ls hP hS (lv_sub hl [2, 3, 4, 5, 1, 0] rfl))
  obtain ⟨H, hH⟩ : ∃ z, z = s.heap := ⟨_, rfl⟩
  obtain ⟨locs, hL⟩ : ∃ z : List Loc, z = [] := ⟨_, rfl⟩
  rw [← hL] at hS ⊢
  have hS : va_S A0 s.heap H locs := by rw [hH]; exact hS
  rw [← hH] at hP ⊢
  clear hH hL
  refine lv_bipush (v := (-9)) hx hb dX3_talker_0 (by decide) ?_
  refine lv_istore_n (lv' := [(1, .int (-9)), (0, .ref (ad 0))]) hx hb dX3_talker_2 rfl hl (by decide) rfl (fun ls hl => ?_)
  refine lv_iconst (v := 0) hx hb dX3_talker_3 (by decide) ?_
  refine lv_istore_n (lv' := [(2, .int 0), (1, .int (-9)), (0, .ref (ad 0))]) hx hb dX3_talker_4 rfl hl (by decide) rfl (fun ls hl => ?_)
  refine lv_iconst (v := 0) hx hb dX3_talker_5 (by decide) ?_
  refine lv_istore_n (lv' := [(3, .int 0), (2, .int 0), (1, .int (-9)), (0, .ref (ad 0))]) hx hb dX3_talker_6 rfl hl (by decide) rfl (fun ls hl => ?_)
  exact hv H locs ls hP hS (lv_sub hl [3, 2, 1, 0] rfl)

set_option maxHeartbeats 4000000 in
set_option maxRecDepth 100000 in
theorem m_X3_betrays (l : Launch) (h_X3_answerOf : C_X3_answerOf l) (h_X3_no : C_X3_no l) (g : CX) (ad : Nat → Nat) (σ : KM) (p0 : Int32) (Post : Int32 → KM → Prop) (hv : vc_X3_betrays σ p0 Post) : Met l yX3_betrays wsX3_betrays { frames := 4, cells := 0, slots := 0, locals := 93 } (va_Pc [.ref (ad 0), .int p0] (RW g (AD ad 0 21) (wM g ad σ))) (va_Qi (fun (r : Int32) (u : KM) => Post r u) (fun u t => va_P (gD g) vwCl (wM g ad u) t.heap) (AD ad 0 21)) 0 0 (AD ad 0 21) := by
  unfold vc_X3_betrays at hv
  refine Met.ofW (cc := cX3_betrays) (maxL := 4) (ret := (some .int)) (by decide) rfl ?_
  intro p e s m args below meth c s₁ B hml hv0
  obtain ⟨rfl, hP, hK, hE, hD⟩ := hv0
  have hx := B.exec
  have hb := B.bytes
  have hr := B.returns
  have hts := atoms_spec (ws := wsX3_betrays) B.pre
  have hown : s.vm.findClass RX3 = some m.cls := findClass_of_methodNamed B.named
  have hlocks := B.notSynchronized
  have hi3 : ∀ w ∈ wsX30, w ∈ wsX3_betrays := by decide +kernel
  have k0 := hts (.fieldLink RX3 146 "JuryHearsAnswersModel" "heard" "I") (by decide +kernel)
  have k1 := hts (.fieldLink RX3 70 "JuryHearsAnswersModel" "questions" "I") (by decide +kernel)
  have k2 := hts (.fieldLink RX3 31 "JuryHearsAnswersModel" "whom" "[I") (by decide +kernel)
  have k3 := hts (.fieldLink RX3 134 "JuryHearsAnswersModel" "theCase" "I") (by decide +kernel)
  have k4 := hts (.fieldLink RX3 40 "JuryHearsAnswersModel" "when" "[I") (by decide +kernel)
  have k5 := hts (.fieldLink RX3 37 "JuryHearsAnswersModel" "said" "[I") (by decide +kernel)
  have hS : va_S (AD ad 0 21) s.heap s.heap [] := va_S.rf
  have hP : va_P (gD g) vwCl (wM g ad σ) s.heap := hP
  have hl := lv_entry ([.ref (ad 0), .int p0]) (n := 4) (Nat.le_of_ble_eq_true rfl)
  rw [lg_entry_eq]
  generalize (lg_sl ([.ref (ad 0), .int p0]) ++ List.replicate (4 - (lg_sl ([.ref (ad 0), .int p0])).length) Slot.unset).toArray = ls at hl ⊢
  have hl : lv_has ls 4 [(0, .ref (ad 0)), (1, .int p0)] := hl
  have hv := hv (fun (x2 : Int32) (x3 : Int32) (s_refused : FI) => ∀ (H : Heap) (locs : List Loc) (ls : Array Slot), va_P (gD g) vwCl (wM g ad ((mS σ), (mT σ), (mK σ), (mF σ), (mRow σ), (mRowMany σ), (mLots σ), s_refused)) H → va_D (AD ad 0 21) (wM g ad ((mS σ), (mT σ), (mK σ), (mF σ), (mRow σ), (mRowMany σ), (mLots σ), s_refused)) → va_S (AD ad 0 21) s.heap H locs → lv_has ls 4 [(0, .ref (ad 0)), (1, .int p0), (2, .int x2), (3, .int x3)] → W p l e { frames := 4, cells := 0, slots := 0, locals := 93 } s m ([.ref (ad 0), .int p0] : List Value).toArray below meth c H locs 0 0 (MQ below (va_Qi (fun (r : Int32) (u : KM) => Post r u) (fun u t => va_P (gD g) vwCl (wM g ad u) t.heap) (AD ad 0 21)) ([.ref (ad 0), .int p0] : List Value).toArray s 0 0 (AD ad 0 21)) (F0 m 22 ls []))
  have hv := hv (by
    intro x2 x3 s_refused hv H locs ls hP hD hS hl
    refine lv_iload_n hx hb dX3_betrays_22 rfl (lv_at hl 3 rfl) ?_
    refine lv_aload_n hx hb dX3_betrays_23 rfl (lv_at hl 0 rfl) ?_
    refine va_get (D := gD g) (ci := 3) (v := .int (sNq (mS σ))) (C := RX3) (T := TX3) (N := 33) hx hb hts hi3 hown hK hP 0 rfl rfl 12 (by decide) k1 (fun _ h9 => h9) rfl dX3_betrays_24 ?_
    refine lv_icmp_ge (tgt := 74) hx hb dX3_betrays_27 (by decide) (fun c27 => ?_) (fun c27 => ?_)
    · have hv := hv.1 c27
      refine lv_iload_n hx hb dX3_betrays_74 rfl (lv_at hl 2 rfl) ?_
      exact W.iret (v := x2) hx hb hr (fun t ht hW => ⟨⟨x2, ((mS σ), (mT σ), (mK σ), (mF σ), (mRow σ), (mRowMany σ), (mLots σ), s_refused), rfl, hv, P_at ht hP⟩, hS.F ht⟩) hS.2.2 dX3_betrays_75
    · have hv := hv.2 c27
      refine lv_iload_n hx hb dX3_betrays_30 rfl (lv_at hl 2 rfl) ?_
      refine lv_aload_n hx hb dX3_betrays_31 rfl (lv_at hl 0 rfl) ?_
      refine lv_aload_n hx hb dX3_betrays_32 rfl (lv_at hl 0 rfl) ?_
      refine va_get (D := gD g) (ci := 3) (v := .ref (ad 8)) (C := RX3) (T := TX3) (N := 33) hx hb hts hi3 hown hK hP 0 rfl rfl 7 (by decide) k2 (fun _ h9 => h9) rfl dX3_betrays_33 ?_
      refine lv_iload_n hx hb dX3_betrays_36 rfl (lv_at hl 1 rfl) ?_
      have h9 := hv.1
      have hv := hv.2
      refine va_iald (f := (sWhom (mS σ))) (n := 12) hx hb hK hP 8 0 rfl rfl h9 dX3_betrays_37 ?_
      refine lv_iload_n hx hb dX3_betrays_38 rfl (lv_at hl 3 rfl) ?_
      refine lv_aload_n hx hb dX3_betrays_39 rfl (lv_at hl 0 rfl) ?_
      refine va_get (D := gD g) (ci := 3) (v := .int (sCase (mS σ))) (C := RX3) (T := TX3) (N := 33) hx hb hts hi3 hown hK hP 0 rfl rfl 11 (by decide) k3 (fun _ h9 => h9) rfl dX3_betrays_40 ?_
      refine lv_aload_n hx hb dX3_betrays_43 rfl (lv_at hl 0 rfl) ?_
      refine va_get (D := gD g) (ci := 3) (v := .ref (ad 11)) (C := RX3) (T := TX3) (N := 33) hx hb hts hi3 hown hK hP 0 rfl rfl 10 (by decide) k4 (fun _ h9 => h9) rfl dX3_betrays_44 ?_
      refine lv_iload_n hx hb dX3_betrays_47 rfl (lv_at hl 1 rfl) ?_
      have h9 := hv.1
      have hv := hv.2
      refine va_iald (f := (sWhen (mS σ))) (n := 12) hx hb hK hP 11 0 rfl rfl h9 dX3_betrays_48 ?_
      have h8 := hv.1
      have hv := hv.2
      have hPc := hP
      refine ro_int (va_runV (As := [.int ((sWhom (mS σ)) (p0).toNatClampNeg), .int x3, .int (sCase (mS σ)), .int ((sWhen (mS σ)) (p0).toNatClampNeg)]) (rest := [.int x2]) ⟨hx, hb, hml, hown, hts⟩ (h_X3_answerOf g ad ((mS σ), (mT σ), (mK σ), (mF σ), (mRow σ), (mRowMany σ), (mLots σ), s_refused) ((sWhom (mS σ)) (p0).toNatClampNeg) x3 (sCase (mS σ)) ((sWhen (mS σ)) (p0).toNatClampNeg) h8) (cwV 4 hts gX3_betrays_X3_answerOf rfl rfl rfl (by decide +kernel) ⟨Nat.le_of_ble_eq_true rfl, Nat.le_of_ble_eq_true rfl⟩) ⟨RO_blind, va_recv hK hP (ci := 3) (q0 := 0) rfl rfl, fun U hU hW => ⟨rfl, by rw [hU]; exact hPc, va_K.moved hW.alike hK, hE.call hW hU hS (fun _ h => h.elim)⟩⟩ rfl rfl hl.1 rfl (lv_room (Nat.le_of_ble_eq_true rfl)) dX3_betrays_49 ⟨Nat.le_of_ble_eq_true rfl, Nat.le_of_ble_eq_true rfl⟩) hS hP (fun r H locs hw hP hS => ?_)
      subst r
      refine lv_aload_n hx hb dX3_betrays_52 rfl (lv_at hl 0 rfl) ?_
      refine va_get (D := gD g) (ci := 3) (v := .ref (ad 10)) (C := RX3) (T := TX3) (N := 33) hx hb hts hi3 hown hK hP 0 rfl rfl 9 (by decide) k5 (fun _ h9 => h9) rfl dX3_betrays_53 ?_
      refine lv_iload_n hx hb dX3_betrays_56 rfl (lv_at hl 1 rfl) ?_
      have h9 := hv.1
      have hv := hv.2
      refine va_iald (f := (sSaid (mS σ))) (n := 12) hx hb hK hP 10 0 rfl rfl h9 dX3_betrays_57 ?_
      refine lv_icmp_ne (tgt := 65) hx hb dX3_betrays_58 (by decide) (fun c58 => ?_) (fun c58 => ?_)
      · have hv := hv.1 c58
        refine lv_iconst (v := 0) hx hb dX3_betrays_65 (by decide) ?_
        refine lv_iadd hx hb dX3_betrays_66 ?_
        refine lv_istore_n (lv' := [(2, .int (x2 + 0)), (0, .ref (ad 0)), (1, .int p0), (3, .int x3)]) hx hb dX3_betrays_67 rfl hl (by decide) rfl (fun ls hl => ?_)
        refine lv_iinc (v := (x3 + 1)) (lv' := [(3, .int (x3 + 1)), (2, .int (x2 + 0)), (0, .ref (ad 0)), (1, .int p0)]) hx hb dX3_betrays_68 hl (k := 3) rfl (by first | rfl | exact congrArg _ (by decide)) (by decide) rfl (fun ls hl => ?_)
        refine lv_goto (tgt := 22) hx hb dX3_betrays_71 (by decide) ?_
        exact hv H locs ls hP hD hS (lv_sub hl [2, 3, 1, 0] rfl)
      · have hv := hv.2 c58
        refine lv_iconst (v := 1) hx hb dX3_betrays_61 (by decide) ?_
        refine lv_goto (tgt := 66) hx hb dX3_betrays_62 (by decide) ?_
        refine lv_iadd hx hb dX3_betrays_66 ?_
        refine lv_istore_n (lv' := [(2, .int (x2 + 1)), (0, .ref (ad 0)), (1, .int p0), (3, .int x3)]) hx hb dX3_betrays_67 rfl hl (by decide) rfl (fun ls hl => ?_)
        refine lv_iinc (v := (x3 + 1)) (lv' := [(3, .int (x3 + 1)), (2, .int (x2 + 1)), (0, .ref (ad 0)), (1, .int p0)]) hx hb dX3_betrays_68 hl (k := 3) rfl (by first | rfl | exact congrArg _ (by decide)) (by decide) rfl (fun ls hl => ?_)
        refine lv_goto (tgt := 22) hx hb dX3_betrays_71 (by decide) ?_
        exact hv H locs ls hP hD hS (lv_sub hl [2, 3, 1, 0] rfl))
  obtain ⟨H, hH⟩ : ∃ z, z = s.heap := ⟨_, rfl⟩
  obtain ⟨locs, hL⟩ : ∃ z : List Loc, z = [] := ⟨_, rfl⟩
  rw [← hL] at hS ⊢
  have hS : va_S (AD ad 0 21) s.heap H locs := by rw [hH]; exact hS
  rw [← hH] at hP ⊢
  clear hH hL
  refine lv_iload_n hx hb dX3_betrays_0 rfl (lv_at hl 1 rfl) ?_
  refine lv_if_lt (tgt := 12) hx hb dX3_betrays_1 (by decide) (fun c1 => ?_) (fun c1 => ?_)
  · have hv := hv.1 c1
    refine lv_aload_n hx hb dX3_betrays_12 rfl (lv_at hl 0 rfl) ?_
    refine lv_iconst (v := (-1)) hx hb dX3_betrays_13 (by decide) ?_
    have h8 := hv.1
    have hv := hv.2
    have hPc := hP
    have hDc := hD
    refine rw_int (va_runV (As := [.int (-1)]) (rest := []) ⟨hx, hb, hml, hown, hts⟩ (h_X3_no g ad σ (-1) h8) (cwV 1 hts gX3_betrays_X3_no rfl rfl rfl (by decide +kernel) ⟨Nat.le_of_ble_eq_true rfl, Nat.le_of_ble_eq_true rfl⟩) ⟨RW_blind, va_recv hK hP (ci := 3) (q0 := 0) rfl rfl, fun U hU hW => ⟨rfl, by rw [hU]; exact hPc, va_K.moved hW.alike hK, hE.call hW hU hS (fun _ h => h), hDc⟩⟩ rfl rfl hl.1 rfl (lv_room (Nat.le_of_ble_eq_true rfl)) dX3_betrays_14 ⟨Nat.le_of_ble_eq_true rfl, Nat.le_of_ble_eq_true rfl⟩) hS (fun _ h => h) (fun r u H1 locs hw hP1 hk hS => ?_)
    obtain ⟨hw1, hw⟩ := hw; subst r; subst u
    have hP := hP1
    generalize H1 = H at hP hS ⊢
    have hP : va_P (gD g) vwCl (wM g ad ((mS σ), (mT σ), (mK σ), (mF σ), (mRow σ), (mRowMany σ), (mLots σ), (refuX (mRefused σ) ((-1) : Int32)))) H := hP
    have hD : va_D (AD ad 0 21) (wM g ad ((mS σ), (mT σ), (mK σ), (mF σ), (mRow σ), (mRowMany σ), (mLots σ), (refuX (mRefused σ) ((-1) : Int32)))) := hD.addr (by rfl)
    exact W.iret (v := (((-1) : Int32))) hx hb hr (fun t ht hW => ⟨⟨(((-1) : Int32)), ((mS σ), (mT σ), (mK σ), (mF σ), (mRow σ), (mRowMany σ), (mLots σ), (refuX (mRefused σ) ((-1) : Int32))), rfl, hv, P_at ht hP⟩, hS.F ht⟩) hS.2.2 dX3_betrays_17
  · have hv := hv.2 c1
    refine lv_iload_n hx hb dX3_betrays_4 rfl (lv_at hl 1 rfl) ?_
    refine lv_aload_n hx hb dX3_betrays_5 rfl (lv_at hl 0 rfl) ?_
    refine va_get (D := gD g) (ci := 3) (v := .int (sNh (mS σ))) (C := RX3) (T := TX3) (N := 33) hx hb hts hi3 hown hK hP 0 rfl rfl 14 (by decide) k0 (fun _ h9 => h9) rfl dX3_betrays_6 ?_
    refine lv_icmp_lt (tgt := 18) hx hb dX3_betrays_9 (by decide) (fun c9 => ?_) (fun c9 => ?_)
    · have hv := hv.1 c9
      refine lv_iconst (v := 0) hx hb dX3_betrays_18 (by decide) ?_
      refine lv_istore_n (lv' := [(2, .int 0), (0, .ref (ad 0)), (1, .int p0)]) hx hb dX3_betrays_19 rfl hl (by decide) rfl (fun ls hl => ?_)
      refine lv_iconst (v := 0) hx hb dX3_betrays_20 (by decide) ?_
      refine lv_istore_n (lv' := [(3, .int 0), (2, .int 0), (0, .ref (ad 0)), (1, .int p0)]) hx hb dX3_betrays_21 rfl hl (by decide) rfl (fun ls hl => ?_)
      exact hv H locs ls hP hD hS (lv_sub hl [2, 3, 1, 0] rfl)
    · have hv := hv.2 c9
      refine lv_aload_n hx hb dX3_betrays_12 rfl (lv_at hl 0 rfl) ?_
      refine lv_iconst (v := (-1)) hx hb dX3_betrays_13 (by decide) ?_
      have h8 := hv.1
      have hv := hv.2
      have hPc := hP
      have hDc := hD
      refine rw_int (va_runV (As := [.int (-1)]) (rest := []) ⟨hx, hb, hml, hown, hts⟩ (h_X3_no g ad σ (-1) h8) (cwV 1 hts gX3_betrays_X3_no rfl rfl rfl (by decide +kernel) ⟨Nat.le_of_ble_eq_true rfl, Nat.le_of_ble_eq_true rfl⟩) ⟨RW_blind, va_recv hK hP (ci := 3) (q0 := 0) rfl rfl, fun U hU hW => ⟨rfl, by rw [hU]; exact hPc, va_K.moved hW.alike hK, hE.call hW hU hS (fun _ h => h), hDc⟩⟩ rfl rfl hl.1 rfl (lv_room (Nat.le_of_ble_eq_true rfl)) dX3_betrays_14 ⟨Nat.le_of_ble_eq_true rfl, Nat.le_of_ble_eq_true rfl⟩) hS (fun _ h => h) (fun r u H1 locs hw hP1 hk hS => ?_)
      obtain ⟨hw1, hw⟩ := hw; subst r; subst u
      have hP := hP1
      generalize H1 = H at hP hS ⊢
      have hP : va_P (gD g) vwCl (wM g ad ((mS σ), (mT σ), (mK σ), (mF σ), (mRow σ), (mRowMany σ), (mLots σ), (refuX (mRefused σ) ((-1) : Int32)))) H := hP
      have hD : va_D (AD ad 0 21) (wM g ad ((mS σ), (mT σ), (mK σ), (mF σ), (mRow σ), (mRowMany σ), (mLots σ), (refuX (mRefused σ) ((-1) : Int32)))) := hD.addr (by rfl)
      exact W.iret (v := (((-1) : Int32))) hx hb hr (fun t ht hW => ⟨⟨(((-1) : Int32)), ((mS σ), (mT σ), (mK σ), (mF σ), (mRow σ), (mRowMany σ), (mLots σ), (refuX (mRefused σ) ((-1) : Int32))), rfl, hv, P_at ht hP⟩, hS.F ht⟩) hS.2.2 dX3_betrays_17

set_option maxHeartbeats 4000000 in
set_option maxRecDepth 100000 in
theorem m_X3_divisor (l : Launch)  (g : CX) (p0 : Int64) (p1 : Int64) (Post : Int64 → Prop) (hv : vc_X3_divisor p0 p1 Post) : Met l yX3_divisor wsX3_divisor { frames := 0, cells := 0, slots := 0, locals := 0 } (va_Pc [.long p0, .long p1] (RO g [])) (va_Ql (fun r (_ : Unit) => Post r) (fun _ _ => True) A0) 0 0 A0 := by
  unfold vc_X3_divisor at hv
  refine Met.ofW (cc := cX3_divisor) (maxL := 10) (ret := (some .long)) (by decide) rfl ?_
  intro p e s m args below meth c s₁ B hml hv0
  obtain ⟨rfl, hP, hK, hE⟩ := hv0
  have hx := B.exec
  have hb := B.bytes
  have hr := B.returns
  have hts := atoms_spec (ws := wsX3_divisor) B.pre
  have hown : s.vm.findClass RX3 = some m.cls := findClass_of_methodNamed B.named
  have hlocks := B.notSynchronized
  have hS : va_S A0 s.heap s.heap [] := va_S.rf
  have hP : va_P (gD g) vwCl ([]) s.heap := hP
  have hl := lv_entry ([.long p0, .long p1]) (n := 10) (Nat.le_of_ble_eq_true rfl)
  rw [lg_entry_eq]
  generalize (lg_sl ([.long p0, .long p1]) ++ List.replicate (10 - (lg_sl ([.long p0, .long p1])).length) Slot.unset).toArray = ls at hl ⊢
  have hl : lv_has ls 10 [(0, .long p0), (2, .long p1)] := hl
  have hv := hv (fun (x4 : Int64) (x6 : Int64) => ∀ (H : Heap) (locs : List Loc) (ls : Array Slot), va_P (gD g) vwCl ([]) H → va_S A0 s.heap H locs → lv_has ls 10 [(4, .long x4), (6, .long x6)] → W p l e { frames := 0, cells := 0, slots := 0, locals := 0 } s m ([.long p0, .long p1] : List Value).toArray below meth c H locs 0 0 (MQ below (va_Ql (fun r (_ : Unit) => Post r) (fun _ _ => True) A0) ([.long p0, .long p1] : List Value).toArray s 0 0 A0) (F0 m 6 ls []))
  have hv := hv (by
    intro x4 x6 hv H locs ls hP hS hl
    refine lv_lload hx hb dX3_divisor_6 (lv_at hl 1 rfl) ?_
    refine lv_lconst (v := 0) hx hb dX3_divisor_8 (by decide) ?_
    refine W.lcmp hx hb dX3_divisor_9 ?_
    refine lv_if_eq (tgt := 31) hx hb dX3_divisor_10 (by decide) (fun c10 => ?_) (fun c10 => ?_)
    · have hv := hv.1 c10
      refine lv_lload hx hb dX3_divisor_31 (lv_at hl 0 rfl) ?_
      exact W.lret (v := x4) hx hb hr (fun t ht hW => ⟨⟨x4, (), rfl, hv, trivial⟩, hS.F ht⟩) hS.2.2 dX3_divisor_33
    · have hv := hv.2 c10
      refine lv_lload hx hb dX3_divisor_13 (lv_at hl 0 rfl) ?_
      refine lv_lload hx hb dX3_divisor_15 (lv_at hl 1 rfl) ?_
      have h0 := hv.1
      have hv := hv.2
      refine lv_lrem hx hb dX3_divisor_17 h0 ?_
      refine lv_lstore (lv' := [(8, .long (x4 - x4 / x6 * x6)), (4, .long x4), (6, .long x6)]) hx hb dX3_divisor_18 hl (by decide) rfl (fun ls hl => ?_)
      refine lv_lload hx hb dX3_divisor_20 (lv_at hl 2 rfl) ?_
      refine lv_lstore (lv' := [(4, .long x6), (8, .long (x4 - x4 / x6 * x6)), (6, .long x6)]) hx hb dX3_divisor_22 hl (by decide) rfl (fun ls hl => ?_)
      refine lv_lload hx hb dX3_divisor_24 (lv_at hl 1 rfl) ?_
      refine lv_lstore (lv' := [(6, .long (x4 - x4 / x6 * x6)), (4, .long x6), (8, .long (x4 - x4 / x6 * x6))]) hx hb dX3_divisor_26 hl (by decide) rfl (fun ls hl => ?_)
      refine lv_goto (tgt := 6) hx hb dX3_divisor_28 (by decide) ?_
      exact hv H locs ls hP hS (lv_sub hl [1, 0] rfl))
  obtain ⟨H, hH⟩ : ∃ z, z = s.heap := ⟨_, rfl⟩
  obtain ⟨locs, hL⟩ : ∃ z : List Loc, z = [] := ⟨_, rfl⟩
  rw [← hL] at hS ⊢
  have hS : va_S A0 s.heap H locs := by rw [hH]; exact hS
  rw [← hH] at hP ⊢
  clear hH hL
  refine lv_lload_n hx hb dX3_divisor_0 rfl (lv_at hl 0 rfl) ?_
  refine lv_lstore (lv' := [(4, .long p0), (0, .long p0), (2, .long p1)]) hx hb dX3_divisor_1 hl (by decide) rfl (fun ls hl => ?_)
  refine lv_lload_n hx hb dX3_divisor_3 rfl (lv_at hl 2 rfl) ?_
  refine lv_lstore (lv' := [(6, .long p1), (4, .long p0), (0, .long p0), (2, .long p1)]) hx hb dX3_divisor_4 hl (by decide) rfl (fun ls hl => ?_)
  exact hv H locs ls hP hS (lv_sub hl [1, 0] rfl)

set_option maxHeartbeats 4000000 in
set_option maxRecDepth 100000 in
theorem m_X3_partOf (l : Launch) (h_X3_divisor : C_X3_divisor l) (g : CX) (p0 : Int64) (p1 : Int64) (p2 : Int32) (Post : Int64 → Prop) (hv : vc_X3_partOf p0 p1 p2 Post) : Met l yX3_partOf wsX3_partOf { frames := 1, cells := 0, slots := 0, locals := 29 } (va_Pc [.long p0, .long p1, .int p2] (RO g [])) (va_Ql (fun r (_ : Unit) => Post r) (fun _ _ => True) A0) 0 0 A0 := by
  unfold vc_X3_partOf at hv
  refine Met.ofW (cc := cX3_partOf) (maxL := 5) (ret := (some .long)) (by decide) rfl ?_
  intro p e s m args below meth c s₁ B hml hv0
  obtain ⟨rfl, hP, hK, hE⟩ := hv0
  have hx := B.exec
  have hb := B.bytes
  have hr := B.returns
  have hts := atoms_spec (ws := wsX3_partOf) B.pre
  have hown : s.vm.findClass RX3 = some m.cls := findClass_of_methodNamed B.named
  have hlocks := B.notSynchronized
  have hS : va_S A0 s.heap s.heap [] := va_S.rf
  have hP : va_P (gD g) vwCl ([]) s.heap := hP
  have hl := lv_entry ([.long p0, .long p1, .int p2]) (n := 5) (Nat.le_of_ble_eq_true rfl)
  rw [lg_entry_eq]
  generalize (lg_sl ([.long p0, .long p1, .int p2]) ++ List.replicate (5 - (lg_sl ([.long p0, .long p1, .int p2])).length) Slot.unset).toArray = ls at hl ⊢
  have hl : lv_has ls 5 [(0, .long p0), (2, .long p1), (4, .int p2)] := hl
  obtain ⟨H, hH⟩ : ∃ z, z = s.heap := ⟨_, rfl⟩
  obtain ⟨locs, hL⟩ : ∃ z : List Loc, z = [] := ⟨_, rfl⟩
  rw [← hL] at hS ⊢
  have hS : va_S A0 s.heap H locs := by rw [hH]; exact hS
  rw [← hH] at hP ⊢
  clear hH hL
  refine lv_lload_n hx hb dX3_partOf_0 rfl (lv_at hl 1 rfl) ?_
  refine lv_lconst (v := 0) hx hb dX3_partOf_1 (by decide) ?_
  refine W.lcmp hx hb dX3_partOf_2 ?_
  refine lv_if_ne (tgt := 12) hx hb dX3_partOf_3 (by decide) (fun c3 => ?_) (fun c3 => ?_)
  · have hv := hv.1 c3
    refine lv_iload hx hb dX3_partOf_12 (lv_at hl 2 rfl) ?_
    refine lv_if_ne (tgt := 21) hx hb dX3_partOf_14 (by decide) (fun c14 => ?_) (fun c14 => ?_)
    · have hv := hv.1 c14
      refine lv_lload_n hx hb dX3_partOf_21 rfl (lv_at hl 1 rfl) ?_
      refine lv_lload_n hx hb dX3_partOf_22 rfl (lv_at hl 0 rfl) ?_
      refine lv_lload_n hx hb dX3_partOf_23 rfl (lv_at hl 1 rfl) ?_
      have h8 := hv.1
      have hv := hv.2
      have hPc : va_P (gD g) vwCl [] H := fun k q h => by simp at h
      refine ro_long (va_runS (As := [.long p0, .long p1]) (rest := [.long p1]) ⟨hx, hb, hml, hown, hts⟩ (h_X3_divisor g p0 p1 h8) (va_cwS 2 hts gX3_partOf_X3_divisor rfl rfl rfl (by decide +kernel) ⟨Nat.le_of_ble_eq_true rfl, Nat.le_of_ble_eq_true rfl⟩) ⟨RO_blind, fun U hU hW => ⟨rfl, by rw [hU]; exact hPc, va_K.moved hW.alike hK, hE.call hW hU hS (fun _ h => h.elim)⟩⟩ rfl rfl hl.1 rfl (lv_room (Nat.le_of_ble_eq_true rfl)) dX3_partOf_24 ⟨Nat.le_of_ble_eq_true rfl, Nat.le_of_ble_eq_true rfl⟩) hS hP (fun r H locs hw hP hS => ?_)
      subst r
      have h0 := hv.1
      have hv := hv.2
      refine lv_ldiv hx hb dX3_partOf_27 h0 ?_
      exact W.lret (v := (p1 / (gcdL p0 p1))) hx hb hr (fun t ht hW => ⟨⟨(p1 / (gcdL p0 p1)), (), rfl, hv, trivial⟩, hS.F ht⟩) hS.2.2 dX3_partOf_28
    · have hv := hv.2 c14
      refine lv_lload_n hx hb dX3_partOf_17 rfl (lv_at hl 0 rfl) ?_
      refine lv_goto (tgt := 22) hx hb dX3_partOf_18 (by decide) ?_
      refine lv_lload_n hx hb dX3_partOf_22 rfl (lv_at hl 0 rfl) ?_
      refine lv_lload_n hx hb dX3_partOf_23 rfl (lv_at hl 1 rfl) ?_
      have h8 := hv.1
      have hv := hv.2
      have hPc : va_P (gD g) vwCl [] H := fun k q h => by simp at h
      refine ro_long (va_runS (As := [.long p0, .long p1]) (rest := [.long p0]) ⟨hx, hb, hml, hown, hts⟩ (h_X3_divisor g p0 p1 h8) (va_cwS 2 hts gX3_partOf_X3_divisor rfl rfl rfl (by decide +kernel) ⟨Nat.le_of_ble_eq_true rfl, Nat.le_of_ble_eq_true rfl⟩) ⟨RO_blind, fun U hU hW => ⟨rfl, by rw [hU]; exact hPc, va_K.moved hW.alike hK, hE.call hW hU hS (fun _ h => h.elim)⟩⟩ rfl rfl hl.1 rfl (lv_room (Nat.le_of_ble_eq_true rfl)) dX3_partOf_24 ⟨Nat.le_of_ble_eq_true rfl, Nat.le_of_ble_eq_true rfl⟩) hS hP (fun r H locs hw hP hS => ?_)
      subst r
      have h0 := hv.1
      have hv := hv.2
      refine lv_ldiv hx hb dX3_partOf_27 h0 ?_
      exact W.lret (v := (p0 / (gcdL p0 p1))) hx hb hr (fun t ht hW => ⟨⟨(p0 / (gcdL p0 p1)), (), rfl, hv, trivial⟩, hS.F ht⟩) hS.2.2 dX3_partOf_28
  · have hv := hv.2 c3
    refine lv_iload hx hb dX3_partOf_6 (lv_at hl 2 rfl) ?_
    refine lv_i2l hx hb dX3_partOf_8 rfl ?_
    refine lv_goto (tgt := 28) hx hb dX3_partOf_9 (by decide) ?_
    exact W.lret (v := (p2).toInt64) hx hb hr (fun t ht hW => ⟨⟨(p2).toInt64, (), rfl, hv, trivial⟩, hS.F ht⟩) hS.2.2 dX3_partOf_28

set_option maxHeartbeats 4000000 in
set_option maxRecDepth 100000 in
theorem m_X3_verdict (l : Launch) (h_X3_findFit : C_X3_findFit l) (h_X3_has : C_X3_has l) (h_X3_isFact : C_X3_isFact l) (h_X3_isIn : C_X3_isIn l) (h_X3_lowest : C_X3_lowest l) (h_X3_manyIn : C_X3_manyIn l) (h_X3_partOf : C_X3_partOf l) (g : CX) (ad : Nat → Nat) (σ : KM) (p0 : Int32) (p1 : Int32) (Post : Int64 → KM → Prop) (hv : vc_X3_verdict σ p0 p1 Post) : Met l yX3_verdict wsX3_verdict { frames := 7, cells := 0, slots := 0, locals := 160 } (va_Pc [.ref (ad 0), .int p0, .int p1] (RW g (AD ad 0 21) (wM g ad σ))) (va_Ql (fun (r : Int64) (u : KM) => Post r u) (fun u t => va_P (gD g) vwCl (wM g ad u) t.heap) (AD ad 0 21)) 0 0 (AD ad 0 21) := by
  unfold vc_X3_verdict at hv
  refine Met.ofW (cc := cX3_verdict) (maxL := 7) (ret := (some .long)) (by decide) rfl ?_
  intro p e s m args below meth c s₁ B hml hv0
  obtain ⟨rfl, hP, hK, hE, hD⟩ := hv0
  have hx := B.exec
  have hb := B.bytes
  have hr := B.returns
  have hts := atoms_spec (ws := wsX3_verdict) B.pre
  have hown : s.vm.findClass RX3 = some m.cls := findClass_of_methodNamed B.named
  have hlocks := B.notSynchronized
  have hi3 : ∀ w ∈ wsX30, w ∈ wsX3_verdict := by decide +kernel
  have k0 := hts (.fieldLink RX3 58 "JuryHearsAnswersModel" "fit" "[I") (by decide +kernel)
  have hS : va_S (AD ad 0 21) s.heap s.heap [] := va_S.rf
  have hP : va_P (gD g) vwCl (wM g ad σ) s.heap := hP
  have hl := lv_entry ([.ref (ad 0), .int p0, .int p1]) (n := 7) (Nat.le_of_ble_eq_true rfl)
  rw [lg_entry_eq]
  generalize (lg_sl ([.ref (ad 0), .int p0, .int p1]) ++ List.replicate (7 - (lg_sl ([.ref (ad 0), .int p0, .int p1])).length) Slot.unset).toArray = ls at hl ⊢
  have hl : lv_has ls 7 [(0, .ref (ad 0)), (1, .int p0), (2, .int p1)] := hl
  have hv := hv (fun (x4 : Int64) (x6 : Int32) (s_F_fit : FI) (s_refused : FI) => ∀ (H : Heap) (locs : List Loc) (ls : Array Slot), va_P (gD g) vwCl (wM g ad ((mS σ), (mT σ), (mK σ), (s_F_fit, (fLeft (mF σ)), (fLeftBy (mF σ))), (mRow σ), (mRowMany σ), (mLots σ), s_refused)) H → va_D (AD ad 0 21) (wM g ad ((mS σ), (mT σ), (mK σ), (s_F_fit, (fLeft (mF σ)), (fLeftBy (mF σ))), (mRow σ), (mRowMany σ), (mLots σ), s_refused)) → va_S (AD ad 0 21) s.heap H locs → lv_has ls 7 [(0, .ref (ad 0)), (1, .int p0), (2, .int p1), (4, .long x4), (6, .int x6)] → W p l e { frames := 7, cells := 0, slots := 0, locals := 160 } s m ([.ref (ad 0), .int p0, .int p1] : List Value).toArray below meth c H locs 0 0 (MQ below (va_Ql (fun (r : Int64) (u : KM) => Post r u) (fun u t => va_P (gD g) vwCl (wM g ad u) t.heap) (AD ad 0 21)) ([.ref (ad 0), .int p0, .int p1] : List Value).toArray s 0 0 (AD ad 0 21)) (F0 m 48 ls []))
  have hv := hv (by
    intro x4 x6 s_F_fit s_refused hv H locs ls hP hD hS hl
    refine lv_iload hx hb dX3_verdict_48 (lv_at hl 4 rfl) ?_
    refine lv_bipush (v := 64) hx hb dX3_verdict_50 (by decide) ?_
    refine lv_icmp_ge (tgt := 91) hx hb dX3_verdict_52 (by decide) (fun c52 => ?_) (fun c52 => ?_)
    · have hv := hv.1 c52
      refine lv_lload hx hb dX3_verdict_91 (lv_at hl 3 rfl) ?_
      refine lv_aload_n hx hb dX3_verdict_93 rfl (lv_at hl 0 rfl) ?_
      refine va_get (D := gD g) (ci := 3) (v := .ref (ad 17)) (C := RX3) (T := TX3) (N := 33) hx hb hts hi3 hown hK hP 0 rfl rfl 27 (by decide) k0 (fun _ h9 => h9) rfl dX3_verdict_94 ?_
      have hPc : va_P (gD g) vwCl (wA g ad 17 s_F_fit) H := hP.sub [17] rfl
      refine ro_int (va_runS (As := [.ref (ad 17)]) (rest := [.long x4]) ⟨hx, hb, hml, hown, hts⟩ (h_X3_manyIn g ad 17 s_F_fit) (va_cwS 1 hts gX3_verdict_X3_manyIn rfl rfl rfl (by decide +kernel) ⟨Nat.le_of_ble_eq_true rfl, Nat.le_of_ble_eq_true rfl⟩) ⟨RO_blind, fun U hU hW => ⟨rfl, by rw [hU]; exact hPc, va_K.moved hW.alike hK, hE.call hW hU hS (fun _ h => h.elim)⟩⟩ rfl rfl hl.1 rfl (lv_room (Nat.le_of_ble_eq_true rfl)) dX3_verdict_97 ⟨Nat.le_of_ble_eq_true rfl, Nat.le_of_ble_eq_true rfl⟩) hS hP (fun r H locs hw hP hS => ?_)
      subst r
      refine lv_i2l hx hb dX3_verdict_100 rfl ?_
      refine lv_iload_n hx hb dX3_verdict_101 rfl (lv_at hl 2 rfl) ?_
      have h8 := hv.1
      have hv := hv.2
      have hPc : va_P (gD g) vwCl [] H := fun k q h => by simp at h
      refine ro_long (va_runS (As := [.long x4, .long (((sumN s_F_fit 64)).toInt64), .int p1]) (rest := []) ⟨hx, hb, hml, hown, hts⟩ (h_X3_partOf g x4 (((sumN s_F_fit 64)).toInt64) p1 h8) (va_cwS 3 hts gX3_verdict_X3_partOf rfl rfl rfl (by decide +kernel) ⟨Nat.le_of_ble_eq_true rfl, Nat.le_of_ble_eq_true rfl⟩) ⟨RO_blind, fun U hU hW => ⟨rfl, by rw [hU]; exact hPc, va_K.moved hW.alike hK, hE.call hW hU hS (fun _ h => h.elim)⟩⟩ rfl rfl hl.1 rfl (lv_room (Nat.le_of_ble_eq_true rfl)) dX3_verdict_102 ⟨Nat.le_of_ble_eq_true rfl, Nat.le_of_ble_eq_true rfl⟩) hS hP (fun r H locs hw hP hS => ?_)
      subst r
      exact W.lret (v := (partOfV x4 (((sumN s_F_fit 64)).toInt64) p1)) hx hb hr (fun t ht hW => ⟨⟨(partOfV x4 (((sumN s_F_fit 64)).toInt64) p1), ((mS σ), (mT σ), (mK σ), (s_F_fit, (fLeft (mF σ)), (fLeftBy (mF σ))), (mRow σ), (mRowMany σ), (mLots σ), s_refused), rfl, hv, P_at ht hP⟩, hS.F ht⟩) hS.2.2 dX3_verdict_105
    · have hv := hv.2 c52
      refine lv_lload hx hb dX3_verdict_55 (lv_at hl 3 rfl) ?_
      refine lv_aload_n hx hb dX3_verdict_57 rfl (lv_at hl 0 rfl) ?_
      refine va_get (D := gD g) (ci := 3) (v := .ref (ad 17)) (C := RX3) (T := TX3) (N := 33) hx hb hts hi3 hown hK hP 0 rfl rfl 27 (by decide) k0 (fun _ h9 => h9) rfl dX3_verdict_58 ?_
      refine lv_iload hx hb dX3_verdict_61 (lv_at hl 4 rfl) ?_
      have h9 := hv.1
      have hv := hv.2
      refine va_iald (f := s_F_fit) (n := 64) hx hb hK hP 17 0 rfl rfl h9 dX3_verdict_63 ?_
      refine lv_iconst (v := 1) hx hb dX3_verdict_64 (by decide) ?_
      refine lv_icmp_ne (tgt := 81) hx hb dX3_verdict_65 (by decide) (fun c65 => ?_) (fun c65 => ?_)
      · have hv := hv.1 c65
        refine lv_lconst (v := 0) hx hb dX3_verdict_81 (by decide) ?_
        refine lv_ladd hx hb dX3_verdict_82 ?_
        refine lv_lstore (lv' := [(4, .long (x4 + 0)), (0, .ref (ad 0)), (1, .int p0), (2, .int p1), (6, .int x6)]) hx hb dX3_verdict_83 hl (by decide) rfl (fun ls hl => ?_)
        refine lv_iinc (v := (x6 + 1)) (lv' := [(6, .int (x6 + 1)), (4, .long (x4 + 0)), (0, .ref (ad 0)), (1, .int p0), (2, .int p1)]) hx hb dX3_verdict_85 hl (k := 4) rfl (by first | rfl | exact congrArg _ (by decide)) (by decide) rfl (fun ls hl => ?_)
        refine lv_goto (tgt := 48) hx hb dX3_verdict_88 (by decide) ?_
        exact hv H locs ls hP hD hS (lv_sub hl [2, 3, 4, 1, 0] rfl)
      · have hv := hv.2 c65
        refine lv_iload hx hb dX3_verdict_68 (lv_at hl 4 rfl) ?_
        refine lv_iload_n hx hb dX3_verdict_70 rfl (lv_at hl 1 rfl) ?_
        have hPc : va_P (gD g) vwCl [] H := fun k q h => by simp at h
        refine ro_int (va_runS (As := [.int x6, .int p0]) (rest := [.long x4]) ⟨hx, hb, hml, hown, hts⟩ (h_X3_has g x6 p0) (va_cwS 2 hts gX3_verdict_X3_has rfl rfl rfl (by decide +kernel) ⟨Nat.le_of_ble_eq_true rfl, Nat.le_of_ble_eq_true rfl⟩) ⟨RO_blind, fun U hU hW => ⟨rfl, by rw [hU]; exact hPc, va_K.moved hW.alike hK, hE.call hW hU hS (fun _ h => h.elim)⟩⟩ rfl rfl hl.1 rfl (lv_room (Nat.le_of_ble_eq_true rfl)) dX3_verdict_71 ⟨Nat.le_of_ble_eq_true rfl, Nat.le_of_ble_eq_true rfl⟩) hS hP (fun r H locs hw hP hS => ?_)
        subst r
        refine lv_if_eq (tgt := 81) hx hb dX3_verdict_74 (by decide) (fun c74 => ?_) (fun c74 => ?_)
        · have hv := hv.1 c74
          refine lv_lconst (v := 0) hx hb dX3_verdict_81 (by decide) ?_
          refine lv_ladd hx hb dX3_verdict_82 ?_
          refine lv_lstore (lv' := [(4, .long (x4 + 0)), (0, .ref (ad 0)), (1, .int p0), (2, .int p1), (6, .int x6)]) hx hb dX3_verdict_83 hl (by decide) rfl (fun ls hl => ?_)
          refine lv_iinc (v := (x6 + 1)) (lv' := [(6, .int (x6 + 1)), (4, .long (x4 + 0)), (0, .ref (ad 0)), (1, .int p0), (2, .int p1)]) hx hb dX3_verdict_85 hl (k := 4) rfl (by first | rfl | exact congrArg _ (by decide)) (by decide) rfl (fun ls hl => ?_)
          refine lv_goto (tgt := 48) hx hb dX3_verdict_88 (by decide) ?_
          exact hv H locs ls hP hD hS (lv_sub hl [2, 3, 4, 1, 0] rfl)
        · have hv := hv.2 c74
          refine lv_lconst (v := 1) hx hb dX3_verdict_77 (by decide) ?_
          refine lv_goto (tgt := 82) hx hb dX3_verdict_78 (by decide) ?_
          refine lv_ladd hx hb dX3_verdict_82 ?_
          refine lv_lstore (lv' := [(4, .long (x4 + 1)), (0, .ref (ad 0)), (1, .int p0), (2, .int p1), (6, .int x6)]) hx hb dX3_verdict_83 hl (by decide) rfl (fun ls hl => ?_)
          refine lv_iinc (v := (x6 + 1)) (lv' := [(6, .int (x6 + 1)), (4, .long (x4 + 1)), (0, .ref (ad 0)), (1, .int p0), (2, .int p1)]) hx hb dX3_verdict_85 hl (k := 4) rfl (by first | rfl | exact congrArg _ (by decide)) (by decide) rfl (fun ls hl => ?_)
          refine lv_goto (tgt := 48) hx hb dX3_verdict_88 (by decide) ?_
          exact hv H locs ls hP hD hS (lv_sub hl [2, 3, 4, 1, 0] rfl))
  obtain ⟨H, hH⟩ : ∃ z, z = s.heap := ⟨_, rfl⟩
  obtain ⟨locs, hL⟩ : ∃ z : List Loc, z = [] := ⟨_, rfl⟩
  rw [← hL] at hS ⊢
  have hS : va_S (AD ad 0 21) s.heap H locs := by rw [hH]; exact hS
  rw [← hH] at hP ⊢
  clear hH hL
  refine lv_iload_n hx hb dX3_verdict_0 rfl (lv_at hl 1 rfl) ?_
  have hPc : va_P (gD g) vwCl [] H := fun k q h => by simp at h
  refine ro_int (va_runS (As := [.int p0]) (rest := []) ⟨hx, hb, hml, hown, hts⟩ (h_X3_isFact g p0) (va_cwS 1 hts gX3_verdict_X3_isFact rfl rfl rfl (by decide +kernel) ⟨Nat.le_of_ble_eq_true rfl, Nat.le_of_ble_eq_true rfl⟩) ⟨RO_blind, fun U hU hW => ⟨rfl, by rw [hU]; exact hPc, va_K.moved hW.alike hK, hE.call hW hU hS (fun _ h => h.elim)⟩⟩ rfl rfl hl.1 rfl (lv_room (Nat.le_of_ble_eq_true rfl)) dX3_verdict_1 ⟨Nat.le_of_ble_eq_true rfl, Nat.le_of_ble_eq_true rfl⟩) hS hP (fun r H locs hw hP hS => ?_)
  subst r
  refine lv_if_ne (tgt := 11) hx hb dX3_verdict_4 (by decide) (fun c4 => ?_) (fun c4 => ?_)
  · have hv := hv.1 c4
    refine lv_iload_n hx hb dX3_verdict_11 rfl (lv_at hl 2 rfl) ?_
    refine lv_iconst (v := 0) hx hb dX3_verdict_12 (by decide) ?_
    refine lv_iconst (v := 1) hx hb dX3_verdict_13 (by decide) ?_
    have hPc : va_P (gD g) vwCl [] H := fun k q h => by simp at h
    refine ro_int (va_runS (As := [.int p1, .int 0, .int 1]) (rest := []) ⟨hx, hb, hml, hown, hts⟩ (h_X3_isIn g p1 0 1) (va_cwS 3 hts gX3_verdict_X3_isIn rfl rfl rfl (by decide +kernel) ⟨Nat.le_of_ble_eq_true rfl, Nat.le_of_ble_eq_true rfl⟩) ⟨RO_blind, fun U hU hW => ⟨rfl, by rw [hU]; exact hPc, va_K.moved hW.alike hK, hE.call hW hU hS (fun _ h => h.elim)⟩⟩ rfl rfl hl.1 rfl (lv_room (Nat.le_of_ble_eq_true rfl)) dX3_verdict_14 ⟨Nat.le_of_ble_eq_true rfl, Nat.le_of_ble_eq_true rfl⟩) hS hP (fun r H locs hw hP hS => ?_)
    subst r
    refine lv_if_ne (tgt := 25) hx hb dX3_verdict_17 (by decide) (fun c17 => ?_) (fun c17 => ?_)
    · have hv := hv.1 c17
      refine lv_iconst (v := 0) hx hb dX3_verdict_25 (by decide) ?_
      refine lv_istore_n (lv' := [(3, .int 0), (0, .ref (ad 0)), (1, .int p0), (2, .int p1)]) hx hb dX3_verdict_26 rfl hl (by decide) rfl (fun ls hl => ?_)
      refine lv_iload_n hx hb dX3_verdict_27 rfl (lv_at hl 0 rfl) ?_
      refine lv_if_eq (tgt := 37) hx hb dX3_verdict_28 (by decide) (fun c28 => ?_) (fun c28 => ?_)
      · refine lv_aload_n hx hb dX3_verdict_37 rfl (lv_at hl 1 rfl) ?_
        refine lv_iconst (v := 1) hx hb dX3_verdict_38 (by decide) ?_
        have h8 := hv.1
        have hv := hv.2
        have hPc := hP
        have hDc := hD
        refine rw_void (va_runV (As := [.int 1]) (rest := []) ⟨hx, hb, hml, hown, hts⟩ (h_X3_findFit g ad σ 1 h8) (cwV 1 hts gX3_verdict_X3_findFit rfl rfl rfl (by decide +kernel) ⟨Nat.le_of_ble_eq_true rfl, Nat.le_of_ble_eq_true rfl⟩) ⟨RW_blind, va_recv hK hP (ci := 3) (q0 := 0) rfl rfl, fun U hU hW => ⟨rfl, by rw [hU]; exact hPc, va_K.moved hW.alike hK, hE.call hW hU hS (fun _ h => h), hDc⟩⟩ rfl rfl hl.1 rfl (lv_room (Nat.le_of_ble_eq_true rfl)) dX3_verdict_39 ⟨Nat.le_of_ble_eq_true rfl, Nat.le_of_ble_eq_true rfl⟩) hS (fun _ h => h) (fun u H1 locs hw hP1 hk hS => ?_)
        subst u
        have hP := hP1
        generalize H1 = H at hP hS ⊢
        have hP : va_P (gD g) vwCl (wM g ad ((mS σ), (mT σ), (mK σ), ((fitM (mS σ) (1 : Int32) (fFit (mF σ))), (fLeft (mF σ)), (fLeftBy (mF σ))), (mRow σ), (mRowMany σ), (mLots σ), (mRefused σ))) H := hP
        have hD : va_D (AD ad 0 21) (wM g ad ((mS σ), (mT σ), (mK σ), ((fitM (mS σ) (1 : Int32) (fFit (mF σ))), (fLeft (mF σ)), (fLeftBy (mF σ))), (mRow σ), (mRowMany σ), (mLots σ), (mRefused σ))) := hD.addr (by rfl)
        refine lv_lconst (v := 0) hx hb dX3_verdict_42 (by decide) ?_
        refine lv_lstore (lv' := [(4, .long 0), (3, .int 0), (0, .ref (ad 0)), (1, .int p0), (2, .int p1)]) hx hb dX3_verdict_43 hl (by decide) rfl (fun ls hl => ?_)
        refine lv_iconst (v := 0) hx hb dX3_verdict_45 (by decide) ?_
        refine lv_istore (lv' := [(6, .int 0), (4, .long 0), (3, .int 0), (0, .ref (ad 0)), (1, .int p0), (2, .int p1)]) hx hb dX3_verdict_46 hl (by decide) rfl (fun ls hl => ?_)
        exact hv H locs ls hP hD hS (lv_sub hl [3, 4, 5, 1, 0] rfl)
      · exact (c28 (by decide)).elim
    · have hv := hv.2 c17
      refine lv_bipush (v := (-2)) hx hb dX3_verdict_20 (by decide) ?_
      refine lv_goto (tgt := 26) hx hb dX3_verdict_22 (by decide) ?_
      refine lv_istore_n (lv' := [(3, .int (-2)), (0, .ref (ad 0)), (1, .int p0), (2, .int p1)]) hx hb dX3_verdict_26 rfl hl (by decide) rfl (fun ls hl => ?_)
      refine lv_iload_n hx hb dX3_verdict_27 rfl (lv_at hl 0 rfl) ?_
      refine lv_if_eq (tgt := 37) hx hb dX3_verdict_28 (by decide) (fun c28 => ?_) (fun c28 => ?_)
      · exact absurd c28 (by decide)
      · refine lv_aload_n hx hb dX3_verdict_31 rfl (lv_at hl 1 rfl) ?_
        refine lv_iload_n hx hb dX3_verdict_32 rfl (lv_at hl 0 rfl) ?_
        have h8 := hv.1
        have hv := hv.2
        have hPc := hP
        have hDc := hD
        refine rw_long (va_runV (As := [.int (-2)]) (rest := []) ⟨hx, hb, hml, hown, hts⟩ (h_X3_lowest g ad σ (-2) h8) (cwV 1 hts gX3_verdict_X3_lowest rfl rfl rfl (by decide +kernel) ⟨Nat.le_of_ble_eq_true rfl, Nat.le_of_ble_eq_true rfl⟩) ⟨RW_blind, va_recv hK hP (ci := 3) (q0 := 0) rfl rfl, fun U hU hW => ⟨rfl, by rw [hU]; exact hPc, va_K.moved hW.alike hK, hE.call hW hU hS (fun _ h => h), hDc⟩⟩ rfl rfl hl.1 rfl (lv_room (Nat.le_of_ble_eq_true rfl)) dX3_verdict_33 ⟨Nat.le_of_ble_eq_true rfl, Nat.le_of_ble_eq_true rfl⟩) hS (fun _ h => h) (fun r u H1 locs hw hP1 hk hS => ?_)
        obtain ⟨hw1, hw⟩ := hw; subst r; subst u
        have hP := hP1
        generalize H1 = H at hP hS ⊢
        have hP : va_P (gD g) vwCl (wM g ad ((mS σ), (mT σ), (mK σ), (mF σ), (mRow σ), (mRowMany σ), (mLots σ), (refuX (mRefused σ) ((-2) : Int32)))) H := hP
        have hD : va_D (AD ad 0 21) (wM g ad ((mS σ), (mT σ), (mK σ), (mF σ), (mRow σ), (mRowMany σ), (mLots σ), (refuX (mRefused σ) ((-2) : Int32)))) := hD.addr (by rfl)
        exact W.lret (v := (4000000000000000000 - ((-2) : Int32).toInt64)) hx hb hr (fun t ht hW => ⟨⟨(4000000000000000000 - ((-2) : Int32).toInt64), ((mS σ), (mT σ), (mK σ), (mF σ), (mRow σ), (mRowMany σ), (mLots σ), (refuX (mRefused σ) ((-2) : Int32))), rfl, hv, P_at ht hP⟩, hS.F ht⟩) hS.2.2 dX3_verdict_36
  · have hv := hv.2 c4
    refine lv_iconst (v := (-1)) hx hb dX3_verdict_7 (by decide) ?_
    refine lv_goto (tgt := 26) hx hb dX3_verdict_8 (by decide) ?_
    refine lv_istore_n (lv' := [(3, .int (-1)), (0, .ref (ad 0)), (1, .int p0), (2, .int p1)]) hx hb dX3_verdict_26 rfl hl (by decide) rfl (fun ls hl => ?_)
    refine lv_iload_n hx hb dX3_verdict_27 rfl (lv_at hl 0 rfl) ?_
    refine lv_if_eq (tgt := 37) hx hb dX3_verdict_28 (by decide) (fun c28 => ?_) (fun c28 => ?_)
    · exact absurd c28 (by decide)
    · refine lv_aload_n hx hb dX3_verdict_31 rfl (lv_at hl 1 rfl) ?_
      refine lv_iload_n hx hb dX3_verdict_32 rfl (lv_at hl 0 rfl) ?_
      have h8 := hv.1
      have hv := hv.2
      have hPc := hP
      have hDc := hD
      refine rw_long (va_runV (As := [.int (-1)]) (rest := []) ⟨hx, hb, hml, hown, hts⟩ (h_X3_lowest g ad σ (-1) h8) (cwV 1 hts gX3_verdict_X3_lowest rfl rfl rfl (by decide +kernel) ⟨Nat.le_of_ble_eq_true rfl, Nat.le_of_ble_eq_true rfl⟩) ⟨RW_blind, va_recv hK hP (ci := 3) (q0 := 0) rfl rfl, fun U hU hW => ⟨rfl, by rw [hU]; exact hPc, va_K.moved hW.alike hK, hE.call hW hU hS (fun _ h => h), hDc⟩⟩ rfl rfl hl.1 rfl (lv_room (Nat.le_of_ble_eq_true rfl)) dX3_verdict_33 ⟨Nat.le_of_ble_eq_true rfl, Nat.le_of_ble_eq_true rfl⟩) hS (fun _ h => h) (fun r u H1 locs hw hP1 hk hS => ?_)
      obtain ⟨hw1, hw⟩ := hw; subst r; subst u
      have hP := hP1
      generalize H1 = H at hP hS ⊢
      have hP : va_P (gD g) vwCl (wM g ad ((mS σ), (mT σ), (mK σ), (mF σ), (mRow σ), (mRowMany σ), (mLots σ), (refuX (mRefused σ) ((-1) : Int32)))) H := hP
      have hD : va_D (AD ad 0 21) (wM g ad ((mS σ), (mT σ), (mK σ), (mF σ), (mRow σ), (mRowMany σ), (mLots σ), (refuX (mRefused σ) ((-1) : Int32)))) := hD.addr (by rfl)
      exact W.lret (v := (4000000000000000000 - ((-1) : Int32).toInt64)) hx hb hr (fun t ht hW => ⟨⟨(4000000000000000000 - ((-1) : Int32).toInt64), ((mS σ), (mT σ), (mK σ), (mF σ), (mRow σ), (mRowMany σ), (mLots σ), (refuX (mRefused σ) ((-1) : Int32))), rfl, hv, P_at ht hP⟩, hS.F ht⟩) hS.2.2 dX3_verdict_36

set_option maxHeartbeats 4000000 in
set_option maxRecDepth 100000 in
theorem m_X3_mean (l : Launch) (h_X3_bits : C_X3_bits l) (h_X3_findFit : C_X3_findFit l) (h_X3_isIn : C_X3_isIn l) (h_X3_lowest : C_X3_lowest l) (h_X3_manyIn : C_X3_manyIn l) (h_X3_partOf : C_X3_partOf l) (g : CX) (ad : Nat → Nat) (σ : KM) (p0 : Int32) (Post : Int64 → KM → Prop) (hv : vc_X3_mean σ p0 Post) : Met l yX3_mean wsX3_mean { frames := 7, cells := 0, slots := 0, locals := 160 } (va_Pc [.ref (ad 0), .int p0] (RW g (AD ad 0 21) (wM g ad σ))) (va_Ql (fun (r : Int64) (u : KM) => Post r u) (fun u t => va_P (gD g) vwCl (wM g ad u) t.heap) (AD ad 0 21)) 0 0 (AD ad 0 21) := by
  unfold vc_X3_mean at hv
  refine Met.ofW (cc := cX3_mean) (maxL := 5) (ret := (some .long)) (by decide) rfl ?_
  intro p e s m args below meth c s₁ B hml hv0
  obtain ⟨rfl, hP, hK, hE, hD⟩ := hv0
  have hx := B.exec
  have hb := B.bytes
  have hr := B.returns
  have hts := atoms_spec (ws := wsX3_mean) B.pre
  have hown : s.vm.findClass RX3 = some m.cls := findClass_of_methodNamed B.named
  have hlocks := B.notSynchronized
  have hi3 : ∀ w ∈ wsX30, w ∈ wsX3_mean := by decide +kernel
  have k0 := hts (.fieldLink RX3 58 "JuryHearsAnswersModel" "fit" "[I") (by decide +kernel)
  have hS : va_S (AD ad 0 21) s.heap s.heap [] := va_S.rf
  have hP : va_P (gD g) vwCl (wM g ad σ) s.heap := hP
  have hl := lv_entry ([.ref (ad 0), .int p0]) (n := 5) (Nat.le_of_ble_eq_true rfl)
  rw [lg_entry_eq]
  generalize (lg_sl ([.ref (ad 0), .int p0]) ++ List.replicate (5 - (lg_sl ([.ref (ad 0), .int p0])).length) Slot.unset).toArray = ls at hl ⊢
  have hl : lv_has ls 5 [(0, .ref (ad 0)), (1, .int p0)] := hl
  have hv := hv (fun (x2 : Int64) (x4 : Int32) (s_F_fit : FI) (s_refused : FI) => ∀ (H : Heap) (locs : List Loc) (ls : Array Slot), va_P (gD g) vwCl (wM g ad ((mS σ), (mT σ), (mK σ), (s_F_fit, (fLeft (mF σ)), (fLeftBy (mF σ))), (mRow σ), (mRowMany σ), (mLots σ), s_refused)) H → va_D (AD ad 0 21) (wM g ad ((mS σ), (mT σ), (mK σ), (s_F_fit, (fLeft (mF σ)), (fLeftBy (mF σ))), (mRow σ), (mRowMany σ), (mLots σ), s_refused)) → va_S (AD ad 0 21) s.heap H locs → lv_has ls 5 [(0, .ref (ad 0)), (1, .int p0), (2, .long x2), (4, .int x4)] → W p l e { frames := 7, cells := 0, slots := 0, locals := 160 } s m ([.ref (ad 0), .int p0] : List Value).toArray below meth c H locs 0 0 (MQ below (va_Ql (fun (r : Int64) (u : KM) => Post r u) (fun u t => va_P (gD g) vwCl (wM g ad u) t.heap) (AD ad 0 21)) ([.ref (ad 0), .int p0] : List Value).toArray s 0 0 (AD ad 0 21)) (F0 m 26 ls []))
  have hv := hv (by
    intro x2 x4 s_F_fit s_refused hv H locs ls hP hD hS hl
    refine lv_iload hx hb dX3_mean_26 (lv_at hl 3 rfl) ?_
    refine lv_bipush (v := 64) hx hb dX3_mean_28 (by decide) ?_
    refine lv_icmp_ge (tgt := 63) hx hb dX3_mean_30 (by decide) (fun c30 => ?_) (fun c30 => ?_)
    · have hv := hv.1 c30
      refine lv_lload_n hx hb dX3_mean_63 rfl (lv_at hl 2 rfl) ?_
      refine lv_aload_n hx hb dX3_mean_64 rfl (lv_at hl 0 rfl) ?_
      refine va_get (D := gD g) (ci := 3) (v := .ref (ad 17)) (C := RX3) (T := TX3) (N := 33) hx hb hts hi3 hown hK hP 0 rfl rfl 27 (by decide) k0 (fun _ h9 => h9) rfl dX3_mean_65 ?_
      have hPc : va_P (gD g) vwCl (wA g ad 17 s_F_fit) H := hP.sub [17] rfl
      refine ro_int (va_runS (As := [.ref (ad 17)]) (rest := [.long x2]) ⟨hx, hb, hml, hown, hts⟩ (h_X3_manyIn g ad 17 s_F_fit) (va_cwS 1 hts gX3_mean_X3_manyIn rfl rfl rfl (by decide +kernel) ⟨Nat.le_of_ble_eq_true rfl, Nat.le_of_ble_eq_true rfl⟩) ⟨RO_blind, fun U hU hW => ⟨rfl, by rw [hU]; exact hPc, va_K.moved hW.alike hK, hE.call hW hU hS (fun _ h => h.elim)⟩⟩ rfl rfl hl.1 rfl (lv_room (Nat.le_of_ble_eq_true rfl)) dX3_mean_68 ⟨Nat.le_of_ble_eq_true rfl, Nat.le_of_ble_eq_true rfl⟩) hS hP (fun r H locs hw hP hS => ?_)
      subst r
      refine lv_i2l hx hb dX3_mean_71 rfl ?_
      refine lv_iload_n hx hb dX3_mean_72 rfl (lv_at hl 1 rfl) ?_
      have h8 := hv.1
      have hv := hv.2
      have hPc : va_P (gD g) vwCl [] H := fun k q h => by simp at h
      refine ro_long (va_runS (As := [.long x2, .long (((sumN s_F_fit 64)).toInt64), .int p0]) (rest := []) ⟨hx, hb, hml, hown, hts⟩ (h_X3_partOf g x2 (((sumN s_F_fit 64)).toInt64) p0 h8) (va_cwS 3 hts gX3_mean_X3_partOf rfl rfl rfl (by decide +kernel) ⟨Nat.le_of_ble_eq_true rfl, Nat.le_of_ble_eq_true rfl⟩) ⟨RO_blind, fun U hU hW => ⟨rfl, by rw [hU]; exact hPc, va_K.moved hW.alike hK, hE.call hW hU hS (fun _ h => h.elim)⟩⟩ rfl rfl hl.1 rfl (lv_room (Nat.le_of_ble_eq_true rfl)) dX3_mean_73 ⟨Nat.le_of_ble_eq_true rfl, Nat.le_of_ble_eq_true rfl⟩) hS hP (fun r H locs hw hP hS => ?_)
      subst r
      exact W.lret (v := (partOfV x2 (((sumN s_F_fit 64)).toInt64) p0)) hx hb hr (fun t ht hW => ⟨⟨(partOfV x2 (((sumN s_F_fit 64)).toInt64) p0), ((mS σ), (mT σ), (mK σ), (s_F_fit, (fLeft (mF σ)), (fLeftBy (mF σ))), (mRow σ), (mRowMany σ), (mLots σ), s_refused), rfl, hv, P_at ht hP⟩, hS.F ht⟩) hS.2.2 dX3_mean_76
    · have hv := hv.2 c30
      refine lv_lload_n hx hb dX3_mean_33 rfl (lv_at hl 2 rfl) ?_
      refine lv_aload_n hx hb dX3_mean_34 rfl (lv_at hl 0 rfl) ?_
      refine va_get (D := gD g) (ci := 3) (v := .ref (ad 17)) (C := RX3) (T := TX3) (N := 33) hx hb hts hi3 hown hK hP 0 rfl rfl 27 (by decide) k0 (fun _ h9 => h9) rfl dX3_mean_35 ?_
      refine lv_iload hx hb dX3_mean_38 (lv_at hl 3 rfl) ?_
      have h9 := hv.1
      have hv := hv.2
      refine va_iald (f := s_F_fit) (n := 64) hx hb hK hP 17 0 rfl rfl h9 dX3_mean_40 ?_
      refine lv_iconst (v := 1) hx hb dX3_mean_41 (by decide) ?_
      refine lv_icmp_ne (tgt := 54) hx hb dX3_mean_42 (by decide) (fun c42 => ?_) (fun c42 => ?_)
      · have hv := hv.1 c42
        refine lv_lconst (v := 0) hx hb dX3_mean_54 (by decide) ?_
        refine lv_ladd hx hb dX3_mean_55 ?_
        refine lv_lstore_n (lv' := [(2, .long (x2 + 0)), (0, .ref (ad 0)), (1, .int p0), (4, .int x4)]) hx hb dX3_mean_56 rfl hl (by decide) rfl (fun ls hl => ?_)
        refine lv_iinc (v := (x4 + 1)) (lv' := [(4, .int (x4 + 1)), (2, .long (x2 + 0)), (0, .ref (ad 0)), (1, .int p0)]) hx hb dX3_mean_57 hl (k := 3) rfl (by first | rfl | exact congrArg _ (by decide)) (by decide) rfl (fun ls hl => ?_)
        refine lv_goto (tgt := 26) hx hb dX3_mean_60 (by decide) ?_
        exact hv H locs ls hP hD hS (lv_sub hl [2, 3, 1, 0] rfl)
      · have hv := hv.2 c42
        refine lv_iload hx hb dX3_mean_45 (lv_at hl 3 rfl) ?_
        have hPc : va_P (gD g) vwCl [] H := fun k q h => by simp at h
        refine ro_int (va_runS (As := [.int x4]) (rest := [.long x2]) ⟨hx, hb, hml, hown, hts⟩ (h_X3_bits g x4) (va_cwS 1 hts gX3_mean_X3_bits rfl rfl rfl (by decide +kernel) ⟨Nat.le_of_ble_eq_true rfl, Nat.le_of_ble_eq_true rfl⟩) ⟨RO_blind, fun U hU hW => ⟨rfl, by rw [hU]; exact hPc, va_K.moved hW.alike hK, hE.call hW hU hS (fun _ h => h.elim)⟩⟩ rfl rfl hl.1 rfl (lv_room (Nat.le_of_ble_eq_true rfl)) dX3_mean_47 ⟨Nat.le_of_ble_eq_true rfl, Nat.le_of_ble_eq_true rfl⟩) hS hP (fun r H locs hw hP hS => ?_)
        subst r
        refine lv_i2l hx hb dX3_mean_50 rfl ?_
        refine lv_goto (tgt := 55) hx hb dX3_mean_51 (by decide) ?_
        refine lv_ladd hx hb dX3_mean_55 ?_
        refine lv_lstore_n (lv' := [(2, .long (x2 + ((bitsI x4)).toInt64)), (0, .ref (ad 0)), (1, .int p0), (4, .int x4)]) hx hb dX3_mean_56 rfl hl (by decide) rfl (fun ls hl => ?_)
        refine lv_iinc (v := (x4 + 1)) (lv' := [(4, .int (x4 + 1)), (2, .long (x2 + ((bitsI x4)).toInt64)), (0, .ref (ad 0)), (1, .int p0)]) hx hb dX3_mean_57 hl (k := 3) rfl (by first | rfl | exact congrArg _ (by decide)) (by decide) rfl (fun ls hl => ?_)
        refine lv_goto (tgt := 26) hx hb dX3_mean_60 (by decide) ?_
        exact hv H locs ls hP hD hS (lv_sub hl [2, 3, 1, 0] rfl))
  obtain ⟨H, hH⟩ : ∃ z, z = s.heap := ⟨_, rfl⟩
  obtain ⟨locs, hL⟩ : ∃ z : List Loc, z = [] := ⟨_, rfl⟩
  rw [← hL] at hS ⊢
  have hS : va_S (AD ad 0 21) s.heap H locs := by rw [hH]; exact hS
  rw [← hH] at hP ⊢
  clear hH hL
  refine lv_iload_n hx hb dX3_mean_0 rfl (lv_at hl 1 rfl) ?_
  refine lv_iconst (v := 0) hx hb dX3_mean_1 (by decide) ?_
  refine lv_iconst (v := 1) hx hb dX3_mean_2 (by decide) ?_
  have hPc : va_P (gD g) vwCl [] H := fun k q h => by simp at h
  refine ro_int (va_runS (As := [.int p0, .int 0, .int 1]) (rest := []) ⟨hx, hb, hml, hown, hts⟩ (h_X3_isIn g p0 0 1) (va_cwS 3 hts gX3_mean_X3_isIn rfl rfl rfl (by decide +kernel) ⟨Nat.le_of_ble_eq_true rfl, Nat.le_of_ble_eq_true rfl⟩) ⟨RO_blind, fun U hU hW => ⟨rfl, by rw [hU]; exact hPc, va_K.moved hW.alike hK, hE.call hW hU hS (fun _ h => h.elim)⟩⟩ rfl rfl hl.1 rfl (lv_room (Nat.le_of_ble_eq_true rfl)) dX3_mean_3 ⟨Nat.le_of_ble_eq_true rfl, Nat.le_of_ble_eq_true rfl⟩) hS hP (fun r H locs hw hP hS => ?_)
  subst r
  refine lv_if_ne (tgt := 16) hx hb dX3_mean_6 (by decide) (fun c6 => ?_) (fun c6 => ?_)
  · have hv := hv.1 c6
    refine lv_aload_n hx hb dX3_mean_16 rfl (lv_at hl 0 rfl) ?_
    refine lv_iconst (v := 0) hx hb dX3_mean_17 (by decide) ?_
    have h8 := hv.1
    have hv := hv.2
    have hPc := hP
    have hDc := hD
    refine rw_void (va_runV (As := [.int 0]) (rest := []) ⟨hx, hb, hml, hown, hts⟩ (h_X3_findFit g ad σ 0 h8) (cwV 1 hts gX3_mean_X3_findFit rfl rfl rfl (by decide +kernel) ⟨Nat.le_of_ble_eq_true rfl, Nat.le_of_ble_eq_true rfl⟩) ⟨RW_blind, va_recv hK hP (ci := 3) (q0 := 0) rfl rfl, fun U hU hW => ⟨rfl, by rw [hU]; exact hPc, va_K.moved hW.alike hK, hE.call hW hU hS (fun _ h => h), hDc⟩⟩ rfl rfl hl.1 rfl (lv_room (Nat.le_of_ble_eq_true rfl)) dX3_mean_18 ⟨Nat.le_of_ble_eq_true rfl, Nat.le_of_ble_eq_true rfl⟩) hS (fun _ h => h) (fun u H1 locs hw hP1 hk hS => ?_)
    subst u
    have hP := hP1
    generalize H1 = H at hP hS ⊢
    have hP : va_P (gD g) vwCl (wM g ad ((mS σ), (mT σ), (mK σ), ((fitM (mS σ) (0 : Int32) (fFit (mF σ))), (fLeft (mF σ)), (fLeftBy (mF σ))), (mRow σ), (mRowMany σ), (mLots σ), (mRefused σ))) H := hP
    have hD : va_D (AD ad 0 21) (wM g ad ((mS σ), (mT σ), (mK σ), ((fitM (mS σ) (0 : Int32) (fFit (mF σ))), (fLeft (mF σ)), (fLeftBy (mF σ))), (mRow σ), (mRowMany σ), (mLots σ), (mRefused σ))) := hD.addr (by rfl)
    refine lv_lconst (v := 0) hx hb dX3_mean_21 (by decide) ?_
    refine lv_lstore_n (lv' := [(2, .long 0), (0, .ref (ad 0)), (1, .int p0)]) hx hb dX3_mean_22 rfl hl (by decide) rfl (fun ls hl => ?_)
    refine lv_iconst (v := 0) hx hb dX3_mean_23 (by decide) ?_
    refine lv_istore (lv' := [(4, .int 0), (2, .long 0), (0, .ref (ad 0)), (1, .int p0)]) hx hb dX3_mean_24 hl (by decide) rfl (fun ls hl => ?_)
    exact hv H locs ls hP hD hS (lv_sub hl [2, 3, 1, 0] rfl)
  · have hv := hv.2 c6
    refine lv_aload_n hx hb dX3_mean_9 rfl (lv_at hl 0 rfl) ?_
    refine lv_bipush (v := (-2)) hx hb dX3_mean_10 (by decide) ?_
    have h8 := hv.1
    have hv := hv.2
    have hPc := hP
    have hDc := hD
    refine rw_long (va_runV (As := [.int (-2)]) (rest := []) ⟨hx, hb, hml, hown, hts⟩ (h_X3_lowest g ad σ (-2) h8) (cwV 1 hts gX3_mean_X3_lowest rfl rfl rfl (by decide +kernel) ⟨Nat.le_of_ble_eq_true rfl, Nat.le_of_ble_eq_true rfl⟩) ⟨RW_blind, va_recv hK hP (ci := 3) (q0 := 0) rfl rfl, fun U hU hW => ⟨rfl, by rw [hU]; exact hPc, va_K.moved hW.alike hK, hE.call hW hU hS (fun _ h => h), hDc⟩⟩ rfl rfl hl.1 rfl (lv_room (Nat.le_of_ble_eq_true rfl)) dX3_mean_12 ⟨Nat.le_of_ble_eq_true rfl, Nat.le_of_ble_eq_true rfl⟩) hS (fun _ h => h) (fun r u H1 locs hw hP1 hk hS => ?_)
    obtain ⟨hw1, hw⟩ := hw; subst r; subst u
    have hP := hP1
    generalize H1 = H at hP hS ⊢
    have hP : va_P (gD g) vwCl (wM g ad ((mS σ), (mT σ), (mK σ), (mF σ), (mRow σ), (mRowMany σ), (mLots σ), (refuX (mRefused σ) ((-2) : Int32)))) H := hP
    have hD : va_D (AD ad 0 21) (wM g ad ((mS σ), (mT σ), (mK σ), (mF σ), (mRow σ), (mRowMany σ), (mLots σ), (refuX (mRefused σ) ((-2) : Int32)))) := hD.addr (by rfl)
    exact W.lret (v := (4000000000000000000 - ((-2) : Int32).toInt64)) hx hb hr (fun t ht hW => ⟨⟨(4000000000000000000 - ((-2) : Int32).toInt64), ((mS σ), (mT σ), (mK σ), (mF σ), (mRow σ), (mRowMany σ), (mLots σ), (refuX (mRefused σ) ((-2) : Int32))), rfl, hv, P_at ht hP⟩, hS.F ht⟩) hS.2.2 dX3_mean_15

set_option maxHeartbeats 4000000 in
set_option maxRecDepth 100000 in
theorem m_X3_isHidden (l : Launch) (h_X3_answerOf : C_X3_answerOf l) (g : CX) (ad : Nat → Nat) (σ : KM) (p0 : Int32) (Post : Int32 → Prop) (hv : vc_X3_isHidden σ p0 Post) : Met l yX3_isHidden wsX3_isHidden { frames := 4, cells := 0, slots := 0, locals := 93 } (va_Pc [.ref (ad 0), .int p0] (RO g (wM g ad σ))) (va_Qi (fun r (_ : Unit) => Post r) (fun _ _ => True) A0) 0 0 A0 := by
  unfold vc_X3_isHidden at hv
  refine Met.ofW (cc := cX3_isHidden) (maxL := 3) (ret := (some .boolean)) (by decide) rfl ?_
  intro p e s m args below meth c s₁ B hml hv0
  obtain ⟨rfl, hP, hK, hE⟩ := hv0
  have hx := B.exec
  have hb := B.bytes
  have hr := B.returns
  have hts := atoms_spec (ws := wsX3_isHidden) B.pre
  have hown : s.vm.findClass RX3 = some m.cls := findClass_of_methodNamed B.named
  have hlocks := B.notSynchronized
  have hi3 : ∀ w ∈ wsX30, w ∈ wsX3_isHidden := by decide +kernel
  have k0 := hts (.fieldLink RX3 76 "JuryHearsAnswersModel" "witnesses" "I") (by decide +kernel)
  have k1 := hts (.fieldLink RX3 134 "JuryHearsAnswersModel" "theCase" "I") (by decide +kernel)
  have k2 := hts (.fieldLink RX3 127 "JuryHearsAnswersModel" "asked" "I") (by decide +kernel)
  have hS : va_S A0 s.heap s.heap [] := va_S.rf
  have hP : va_P (gD g) vwCl (wM g ad σ) s.heap := hP
  have hl := lv_entry ([.ref (ad 0), .int p0]) (n := 3) (Nat.le_of_ble_eq_true rfl)
  rw [lg_entry_eq]
  generalize (lg_sl ([.ref (ad 0), .int p0]) ++ List.replicate (3 - (lg_sl ([.ref (ad 0), .int p0])).length) Slot.unset).toArray = ls at hl ⊢
  have hl : lv_has ls 3 [(0, .ref (ad 0)), (1, .int p0)] := hl
  have hv := hv (fun (x2 : Int32) => ∀ (H : Heap) (locs : List Loc) (ls : Array Slot), va_P (gD g) vwCl (wM g ad σ) H → va_S A0 s.heap H locs → lv_has ls 3 [(0, .ref (ad 0)), (1, .int p0), (2, .int x2)] → W p l e { frames := 4, cells := 0, slots := 0, locals := 93 } s m ([.ref (ad 0), .int p0] : List Value).toArray below meth c H locs 0 0 (MQ below (va_Qi (fun r (_ : Unit) => Post r) (fun _ _ => True) A0) ([.ref (ad 0), .int p0] : List Value).toArray s 0 0 A0) (F0 m 2 ls []))
  have hv := hv (by
    intro x2 hv H locs ls hP hS hl
    refine lv_iload_n hx hb dX3_isHidden_2 rfl (lv_at hl 2 rfl) ?_
    refine lv_aload_n hx hb dX3_isHidden_3 rfl (lv_at hl 0 rfl) ?_
    refine va_get (D := gD g) (ci := 3) (v := .int (sNw (mS σ))) (C := RX3) (T := TX3) (N := 33) hx hb hts hi3 hown hK hP 0 rfl rfl 13 (by decide) k0 (fun _ h9 => h9) rfl dX3_isHidden_4 ?_
    refine lv_icmp_ge (tgt := 38) hx hb dX3_isHidden_7 (by decide) (fun c7 => ?_) (fun c7 => ?_)
    · have hv := hv.1 c7
      refine lv_iconst (v := 1) hx hb dX3_isHidden_38 (by decide) ?_
      exact W.zret (v := 1) hx hb hr rfl (fun t ht hW => ⟨⟨1, (), rfl, hv, trivial⟩, hS.F ht⟩) hS.2.2 dX3_isHidden_39
    · have hv := hv.2 c7
      refine lv_aload_n hx hb dX3_isHidden_10 rfl (lv_at hl 0 rfl) ?_
      refine lv_iload_n hx hb dX3_isHidden_11 rfl (lv_at hl 2 rfl) ?_
      refine lv_iload_n hx hb dX3_isHidden_12 rfl (lv_at hl 1 rfl) ?_
      refine lv_aload_n hx hb dX3_isHidden_13 rfl (lv_at hl 0 rfl) ?_
      refine va_get (D := gD g) (ci := 3) (v := .int (sCase (mS σ))) (C := RX3) (T := TX3) (N := 33) hx hb hts hi3 hown hK hP 0 rfl rfl 11 (by decide) k1 (fun _ h9 => h9) rfl dX3_isHidden_14 ?_
      refine lv_aload_n hx hb dX3_isHidden_17 rfl (lv_at hl 0 rfl) ?_
      refine va_get (D := gD g) (ci := 3) (v := .int (sAsked (mS σ))) (C := RX3) (T := TX3) (N := 33) hx hb hts hi3 hown hK hP 0 rfl rfl 15 (by decide) k2 (fun _ h9 => h9) rfl dX3_isHidden_18 ?_
      refine lv_iconst (v := 1) hx hb dX3_isHidden_21 (by decide) ?_
      refine lv_iadd hx hb dX3_isHidden_22 ?_
      have h8 := hv.1
      have hv := hv.2
      have hPc := hP
      refine ro_int (va_runV (As := [.int x2, .int p0, .int (sCase (mS σ)), .int ((sAsked (mS σ)) + 1)]) (rest := []) ⟨hx, hb, hml, hown, hts⟩ (h_X3_answerOf g ad σ x2 p0 (sCase (mS σ)) ((sAsked (mS σ)) + 1) h8) (cwV 4 hts gX3_isHidden_X3_answerOf rfl rfl rfl (by decide +kernel) ⟨Nat.le_of_ble_eq_true rfl, Nat.le_of_ble_eq_true rfl⟩) ⟨RO_blind, va_recv hK hP (ci := 3) (q0 := 0) rfl rfl, fun U hU hW => ⟨rfl, by rw [hU]; exact hPc, va_K.moved hW.alike hK, hE.call hW hU hS (fun _ h => h.elim)⟩⟩ rfl rfl hl.1 rfl (lv_room (Nat.le_of_ble_eq_true rfl)) dX3_isHidden_23 ⟨Nat.le_of_ble_eq_true rfl, Nat.le_of_ble_eq_true rfl⟩) hS hP (fun r H locs hw hP hS => ?_)
      subst r
      refine lv_iconst (v := 2) hx hb dX3_isHidden_26 (by decide) ?_
      refine lv_icmp_eq (tgt := 32) hx hb dX3_isHidden_27 (by decide) (fun c27 => ?_) (fun c27 => ?_)
      · have hv := hv.1 c27
        refine lv_iinc (v := (x2 + 1)) (lv' := [(2, .int (x2 + 1)), (0, .ref (ad 0)), (1, .int p0)]) hx hb dX3_isHidden_32 hl (k := 2) rfl (by first | rfl | exact congrArg _ (by decide)) (by decide) rfl (fun ls hl => ?_)
        refine lv_goto (tgt := 2) hx hb dX3_isHidden_35 (by decide) ?_
        exact hv H locs ls hP hS (lv_sub hl [1, 2, 0] rfl)
      · have hv := hv.2 c27
        refine lv_iconst (v := 0) hx hb dX3_isHidden_30 (by decide) ?_
        exact W.zret (v := 0) hx hb hr rfl (fun t ht hW => ⟨⟨0, (), rfl, hv, trivial⟩, hS.F ht⟩) hS.2.2 dX3_isHidden_31)
  obtain ⟨H, hH⟩ : ∃ z, z = s.heap := ⟨_, rfl⟩
  obtain ⟨locs, hL⟩ : ∃ z : List Loc, z = [] := ⟨_, rfl⟩
  rw [← hL] at hS ⊢
  have hS : va_S A0 s.heap H locs := by rw [hH]; exact hS
  rw [← hH] at hP ⊢
  clear hH hL
  refine lv_iconst (v := 0) hx hb dX3_isHidden_0 (by decide) ?_
  refine lv_istore_n (lv' := [(2, .int 0), (0, .ref (ad 0)), (1, .int p0)]) hx hb dX3_isHidden_1 rfl hl (by decide) rfl (fun ls hl => ?_)
  exact hv H locs ls hP hS (lv_sub hl [1, 2, 0] rfl)

set_option maxHeartbeats 4000000 in
set_option maxRecDepth 100000 in
theorem m_X3_hidden (l : Launch) (h_X3_isHidden : C_X3_isHidden l) (g : CX) (ad : Nat → Nat) (σ : KM)  (Post : Int32 → Prop) (hv : vc_X3_hidden σ Post) : Met l yX3_hidden wsX3_hidden { frames := 5, cells := 0, slots := 0, locals := 115 } (va_Pc [.ref (ad 0)] (RO g (wM g ad σ))) (va_Qi (fun r (_ : Unit) => Post r) (fun _ _ => True) A0) 0 0 A0 := by
  unfold vc_X3_hidden at hv
  refine Met.ofW (cc := cX3_hidden) (maxL := 3) (ret := (some .int)) (by decide) rfl ?_
  intro p e s m args below meth c s₁ B hml hv0
  obtain ⟨rfl, hP, hK, hE⟩ := hv0
  have hx := B.exec
  have hb := B.bytes
  have hr := B.returns
  have hts := atoms_spec (ws := wsX3_hidden) B.pre
  have hown : s.vm.findClass RX3 = some m.cls := findClass_of_methodNamed B.named
  have hlocks := B.notSynchronized
  have hi3 : ∀ w ∈ wsX30, w ∈ wsX3_hidden := by decide +kernel
  have k0 := hts (.fieldLink RX3 70 "JuryHearsAnswersModel" "questions" "I") (by decide +kernel)
  have hS : va_S A0 s.heap s.heap [] := va_S.rf
  have hP : va_P (gD g) vwCl (wM g ad σ) s.heap := hP
  have hl := lv_entry ([.ref (ad 0)]) (n := 3) (Nat.le_of_ble_eq_true rfl)
  rw [lg_entry_eq]
  generalize (lg_sl ([.ref (ad 0)]) ++ List.replicate (3 - (lg_sl ([.ref (ad 0)])).length) Slot.unset).toArray = ls at hl ⊢
  have hl : lv_has ls 3 [(0, .ref (ad 0))] := hl
  have hv := hv (fun (x1 : Int32) (x2 : Int32) => ∀ (H : Heap) (locs : List Loc) (ls : Array Slot), va_P (gD g) vwCl (wM g ad σ) H → va_S A0 s.heap H locs → lv_has ls 3 [(0, .ref (ad 0)), (1, .int x1), (2, .int x2)] → W p l e { frames := 5, cells := 0, slots := 0, locals := 115 } s m ([.ref (ad 0)] : List Value).toArray below meth c H locs 0 0 (MQ below (va_Qi (fun r (_ : Unit) => Post r) (fun _ _ => True) A0) ([.ref (ad 0)] : List Value).toArray s 0 0 A0) (F0 m 4 ls []))
  have hv := hv (by
    intro x1 x2 hv H locs ls hP hS hl
    refine lv_iload_n hx hb dX3_hidden_4 rfl (lv_at hl 2 rfl) ?_
    refine lv_aload_n hx hb dX3_hidden_5 rfl (lv_at hl 0 rfl) ?_
    refine va_get (D := gD g) (ci := 3) (v := .int (sNq (mS σ))) (C := RX3) (T := TX3) (N := 33) hx hb hts hi3 hown hK hP 0 rfl rfl 12 (by decide) k0 (fun _ h9 => h9) rfl dX3_hidden_6 ?_
    refine lv_icmp_ge (tgt := 36) hx hb dX3_hidden_9 (by decide) (fun c9 => ?_) (fun c9 => ?_)
    · have hv := hv.1 c9
      refine lv_iload_n hx hb dX3_hidden_36 rfl (lv_at hl 1 rfl) ?_
      exact W.iret (v := x1) hx hb hr (fun t ht hW => ⟨⟨x1, (), rfl, hv, trivial⟩, hS.F ht⟩) hS.2.2 dX3_hidden_37
    · have hv := hv.2 c9
      refine lv_iload_n hx hb dX3_hidden_12 rfl (lv_at hl 1 rfl) ?_
      refine lv_aload_n hx hb dX3_hidden_13 rfl (lv_at hl 0 rfl) ?_
      refine lv_iload_n hx hb dX3_hidden_14 rfl (lv_at hl 2 rfl) ?_
      have h8 := hv.1
      have hv := hv.2
      have hPc := hP
      refine ro_int (va_runV (As := [.int x2]) (rest := [.int x1]) ⟨hx, hb, hml, hown, hts⟩ (h_X3_isHidden g ad σ x2 h8) (cwV 1 hts gX3_hidden_X3_isHidden rfl rfl rfl (by decide +kernel) ⟨Nat.le_of_ble_eq_true rfl, Nat.le_of_ble_eq_true rfl⟩) ⟨RO_blind, va_recv hK hP (ci := 3) (q0 := 0) rfl rfl, fun U hU hW => ⟨rfl, by rw [hU]; exact hPc, va_K.moved hW.alike hK, hE.call hW hU hS (fun _ h => h.elim)⟩⟩ rfl rfl hl.1 rfl (lv_room (Nat.le_of_ble_eq_true rfl)) dX3_hidden_15 ⟨Nat.le_of_ble_eq_true rfl, Nat.le_of_ble_eq_true rfl⟩) hS hP (fun r H locs hw hP hS => ?_)
      subst r
      refine lv_if_eq (tgt := 27) hx hb dX3_hidden_18 (by decide) (fun c18 => ?_) (fun c18 => ?_)
      · have hv := hv.1 c18
        refine lv_iconst (v := 0) hx hb dX3_hidden_27 (by decide) ?_
        refine lv_ior hx hb dX3_hidden_28 ?_
        refine lv_istore_n (lv' := [(1, .int (x1 ||| 0)), (0, .ref (ad 0)), (2, .int x2)]) hx hb dX3_hidden_29 rfl hl (by decide) rfl (fun ls hl => ?_)
        refine lv_iinc (v := (x2 + 1)) (lv' := [(2, .int (x2 + 1)), (1, .int (x1 ||| 0)), (0, .ref (ad 0))]) hx hb dX3_hidden_30 hl (k := 2) rfl (by first | rfl | exact congrArg _ (by decide)) (by decide) rfl (fun ls hl => ?_)
        refine lv_goto (tgt := 4) hx hb dX3_hidden_33 (by decide) ?_
        exact hv H locs ls hP hS (lv_sub hl [2, 1, 0] rfl)
      · have hv := hv.2 c18
        refine lv_iconst (v := 1) hx hb dX3_hidden_21 (by decide) ?_
        refine lv_iload_n hx hb dX3_hidden_22 rfl (lv_at hl 2 rfl) ?_
        refine lv_ishl hx hb dX3_hidden_23 ?_
        refine lv_goto (tgt := 28) hx hb dX3_hidden_24 (by decide) ?_
        refine lv_ior hx hb dX3_hidden_28 ?_
        refine lv_istore_n (lv' := [(1, .int (x1 ||| (1 <<< (x2 &&& 31)))), (0, .ref (ad 0)), (2, .int x2)]) hx hb dX3_hidden_29 rfl hl (by decide) rfl (fun ls hl => ?_)
        refine lv_iinc (v := (x2 + 1)) (lv' := [(2, .int (x2 + 1)), (1, .int (x1 ||| (1 <<< (x2 &&& 31)))), (0, .ref (ad 0))]) hx hb dX3_hidden_30 hl (k := 2) rfl (by first | rfl | exact congrArg _ (by decide)) (by decide) rfl (fun ls hl => ?_)
        refine lv_goto (tgt := 4) hx hb dX3_hidden_33 (by decide) ?_
        exact hv H locs ls hP hS (lv_sub hl [2, 1, 0] rfl))
  obtain ⟨H, hH⟩ : ∃ z, z = s.heap := ⟨_, rfl⟩
  obtain ⟨locs, hL⟩ : ∃ z : List Loc, z = [] := ⟨_, rfl⟩
  rw [← hL] at hS ⊢
  have hS : va_S A0 s.heap H locs := by rw [hH]; exact hS
  rw [← hH] at hP ⊢
  clear hH hL
  refine lv_iconst (v := 0) hx hb dX3_hidden_0 (by decide) ?_
  refine lv_istore_n (lv' := [(1, .int 0), (0, .ref (ad 0))]) hx hb dX3_hidden_1 rfl hl (by decide) rfl (fun ls hl => ?_)
  refine lv_iconst (v := 0) hx hb dX3_hidden_2 (by decide) ?_
  refine lv_istore_n (lv' := [(2, .int 0), (1, .int 0), (0, .ref (ad 0))]) hx hb dX3_hidden_3 rfl hl (by decide) rfl (fun ls hl => ?_)
  exact hv H locs ls hP hS (lv_sub hl [2, 1, 0] rfl)

