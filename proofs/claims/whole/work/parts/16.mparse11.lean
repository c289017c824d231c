set_option maxHeartbeats 4000000 in
set_option maxRecDepth 100000 in
theorem m_X3_lots (l : Launch) (h_X3_asksOne : C_X3_asksOne l) (h_X3_bound : C_X3_bound l) (h_X3_draw : C_X3_draw l) (h_X3_findFit : C_X3_findFit l) (h_X3_isIn : C_X3_isIn l) (h_X3_manyIn : C_X3_manyIn l) (h_X3_no : C_X3_no l) (h_X3_passesAll : C_X3_passesAll l) (g : CX) (ad : Nat → Nat) (σ : KM) (p0 : Int32) (p1 : Int32) (p2 : Int32) (Post : Int32 → KM → Prop) (hv : vc_X3_lots σ p0 p1 p2 Post) : Met l yX3_lots wsX3_lots { frames := 7, cells := 0, slots := 0, locals := 160 } (va_Pc [.ref (ad 0), .int p0, .int p1, .int p2] (RW g (AD ad 0 21) (wM g ad σ))) (va_Qi (fun (r : Int32) (u : KM) => Post r u) (fun u t => va_P (gD g) vwCl (wM g ad u) t.heap) (AD ad 0 21)) 0 0 (AD ad 0 21) := by
  unfold vc_X3_lots at hv
  refine Met.ofW (cc := cX3_lots) (maxL := 10) (ret := (some .int)) (by decide) rfl ?_
  intro p e s m args below meth c s₁ B hml hv0
  obtain ⟨rfl, hP, hK, hE, hD⟩ := hv0
  have hx := B.exec
  have hb := B.bytes
  have hr := B.returns
  have hts := atoms_spec (ws := wsX3_lots) B.pre
  have hown : s.vm.findClass RX3 = some m.cls := findClass_of_methodNamed B.named
  have hlocks := B.notSynchronized
  have hi3 : ∀ w ∈ wsX30, w ∈ wsX3_lots := by decide +kernel
  have k0 := hts (.fieldLink RX3 275 "JuryHearsAnswersModel" "lots" "I") (by decide +kernel)
  have k1 := hts (.fieldLink RX3 76 "JuryHearsAnswersModel" "witnesses" "I") (by decide +kernel)
  have k2 := hts (.fieldLink RX3 70 "JuryHearsAnswersModel" "questions" "I") (by decide +kernel)
  have k3 := hts (.fieldLink RX3 58 "JuryHearsAnswersModel" "fit" "[I") (by decide +kernel)
  have hS : va_S (AD ad 0 21) s.heap s.heap [] := va_S.rf
  have hP : va_P (gD g) vwCl (wM g ad σ) s.heap := hP
  have hl := lv_entry ([.ref (ad 0), .int p0, .int p1, .int p2]) (n := 10) (Nat.le_of_ble_eq_true rfl)
  rw [lg_entry_eq]
  generalize (lg_sl ([.ref (ad 0), .int p0, .int p1, .int p2]) ++ List.replicate (10 - (lg_sl ([.ref (ad 0), .int p0, .int p1, .int p2])).length) Slot.unset).toArray = ls at hl ⊢
  have hl : lv_has ls 10 [(0, .ref (ad 0)), (1, .int p0), (2, .int p1), (3, .int p2)] := hl
  have hv := hv (fun (x5 : Int32) (x6 : Int32) (x7 : Int32) (s_ : KM) => ∀ (H : Heap) (locs : List Loc) (ls : Array Slot), va_P (gD g) vwCl (wM g ad s_) H → va_D (AD ad 0 21) (wM g ad s_) → va_S (AD ad 0 21) s.heap H locs → lv_has ls 10 [(0, .ref (ad 0)), (1, .int p0), (3, .int p2), (5, .int x5), (6, .int x6), (7, .int x7)] → W p l e { frames := 7, cells := 0, slots := 0, locals := 160 } s m ([.ref (ad 0), .int p0, .int p1, .int p2] : List Value).toArray below meth c H locs 0 0 (MQ below (va_Qi (fun (r : Int32) (u : KM) => Post r u) (fun u t => va_P (gD g) vwCl (wM g ad u) t.heap) (AD ad 0 21)) ([.ref (ad 0), .int p0, .int p1, .int p2] : List Value).toArray s 0 0 (AD ad 0 21)) (F0 m 76 ls []))
  have hv := hv (fun (x5 : Int32) (x6 : Int32) (x7 : Int32) (x8 : Int32) (s_ : KM) => ∀ (H : Heap) (locs : List Loc) (ls : Array Slot), va_P (gD g) vwCl (wM g ad s_) H → va_D (AD ad 0 21) (wM g ad s_) → va_S (AD ad 0 21) s.heap H locs → lv_has ls 10 [(0, .ref (ad 0)), (1, .int p0), (3, .int p2), (5, .int x5), (6, .int x6), (7, .int x7), (8, .int x8)] → W p l e { frames := 7, cells := 0, slots := 0, locals := 160 } s m ([.ref (ad 0), .int p0, .int p1, .int p2] : List Value).toArray below meth c H locs 0 0 (MQ below (va_Qi (fun (r : Int32) (u : KM) => Post r u) (fun u t => va_P (gD g) vwCl (wM g ad u) t.heap) (AD ad 0 21)) ([.ref (ad 0), .int p0, .int p1, .int p2] : List Value).toArray s 0 0 (AD ad 0 21)) (F0 m 91 ls []))
  have hv := hv (by
    intro x5 x6 x7 s_ hv H locs ls hP hD hS hl
    refine lv_iload hx hb dX3_lots_76 (lv_at hl 5 rfl) ?_
    refine lv_iload_n hx hb dX3_lots_78 rfl (lv_at hl 1 rfl) ?_
    refine lv_icmp_ge (tgt := 171) hx hb dX3_lots_79 (by decide) (fun c79 => ?_) (fun c79 => ?_)
    · have hv := hv.1 c79
      refine lv_iload_n hx hb dX3_lots_171 rfl (lv_at hl 2 rfl) ?_
      refine lv_if_ne (tgt := 180) hx hb dX3_lots_172 (by decide) (fun c172 => ?_) (fun c172 => ?_)
      · have hv := hv.1 c172
        refine lv_iload hx hb dX3_lots_180 (lv_at hl 4 rfl) ?_
        exact W.iret (v := x6) hx hb hr (fun t ht hW => ⟨⟨x6, s_, rfl, hv, P_at ht hP⟩, hS.F ht⟩) hS.2.2 dX3_lots_182
      · have hv := hv.2 c172
        refine lv_iload hx hb dX3_lots_175 (lv_at hl 3 rfl) ?_
        refine lv_goto (tgt := 182) hx hb dX3_lots_177 (by decide) ?_
        exact W.iret (v := x5) hx hb hr (fun t ht hW => ⟨⟨x5, s_, rfl, hv, P_at ht hP⟩, hS.F ht⟩) hS.2.2 dX3_lots_182
    · have hv := hv.2 c79
      refine lv_aload_n hx hb dX3_lots_82 rfl (lv_at hl 0 rfl) ?_
      refine lv_iconst (v := 2) hx hb dX3_lots_83 (by decide) ?_
      refine lv_iconst (v := 1) hx hb dX3_lots_84 (by decide) ?_
      have h8 := hv.1
      have hv := hv.2
      have hPc := hP
      have hDc := hD
      refine rw_void (va_runV (As := [.int 2, .int 1]) (rest := []) ⟨hx, hb, hml, hown, hts⟩ (h_X3_passesAll g ad s_ 2 1 h8) (cwV 2 hts gX3_lots_X3_passesAll rfl rfl rfl (by decide +kernel) ⟨Nat.le_of_ble_eq_true rfl, Nat.le_of_ble_eq_true rfl⟩) ⟨RW_blind, va_recv hK hP (ci := 3) (q0 := 0) rfl rfl, fun U hU hW => ⟨rfl, by rw [hU]; exact hPc, va_K.moved hW.alike hK, hE.call hW hU hS (fun _ h => h), hDc⟩⟩ rfl rfl hl.1 rfl (lv_room (Nat.le_of_ble_eq_true rfl)) dX3_lots_85 ⟨Nat.le_of_ble_eq_true rfl, Nat.le_of_ble_eq_true rfl⟩) hS (fun _ h => h) (fun u85 H1 locs hw hP1 hk hS => ?_)
      have hv := hv u85 hw
      have hP := hP1
      generalize H1 = H at hP hS ⊢
      have hP : va_P (gD g) vwCl (wM g ad u85) H := hP
      have hD : va_D (AD ad 0 21) (wM g ad u85) := hD.addr (by rfl)
      refine lv_iconst (v := 0) hx hb dX3_lots_88 (by decide) ?_
      refine lv_istore (lv' := [(8, .int 0), (0, .ref (ad 0)), (1, .int p0), (3, .int p2), (5, .int x5), (6, .int x6), (7, .int x7)]) hx hb dX3_lots_89 hl (by decide) rfl (fun ls hl => ?_)
      exact hv H locs ls hP hD hS (lv_sub hl [1, 2, 3, 4, 5, 6, 0] rfl))
  have hv := hv (by
    intro x5 x6 x7 x8 s_ hv H locs ls hP hD hS hl
    refine lv_iload hx hb dX3_lots_91 (lv_at hl 6 rfl) ?_
    refine lv_bipush (v := 6) hx hb dX3_lots_93 (by decide) ?_
    refine lv_icmp_ge (tgt := 142) hx hb dX3_lots_95 (by decide) (fun c95 => ?_) (fun c95 => ?_)
    · have hv := hv.1 c95
      refine lv_aload_n hx hb dX3_lots_142 rfl (lv_at hl 0 rfl) ?_
      refine lv_iconst (v := 0) hx hb dX3_lots_143 (by decide) ?_
      have h8 := hv.1
      have hv := hv.2
      have hPc := hP
      have hDc := hD
      refine rw_void (va_runV (As := [.int 0]) (rest := []) ⟨hx, hb, hml, hown, hts⟩ (h_X3_findFit g ad s_ 0 h8) (cwV 1 hts gX3_lots_X3_findFit rfl rfl rfl (by decide +kernel) ⟨Nat.le_of_ble_eq_true rfl, Nat.le_of_ble_eq_true rfl⟩) ⟨RW_blind, va_recv hK hP (ci := 3) (q0 := 0) rfl rfl, fun U hU hW => ⟨rfl, by rw [hU]; exact hPc, va_K.moved hW.alike hK, hE.call hW hU hS (fun _ h => h), hDc⟩⟩ rfl rfl hl.1 rfl (lv_room (Nat.le_of_ble_eq_true rfl)) dX3_lots_144 ⟨Nat.le_of_ble_eq_true rfl, Nat.le_of_ble_eq_true rfl⟩) hS (fun _ h => h) (fun u144 H1 locs hw hP1 hk hS => ?_)
      have hv := hv u144 hw
      have hP := hP1
      generalize H1 = H at hP hS ⊢
      have hP : va_P (gD g) vwCl (wM g ad u144) H := hP
      have hD : va_D (AD ad 0 21) (wM g ad u144) := hD.addr (by rfl)
      refine lv_iload hx hb dX3_lots_147 (lv_at hl 4 rfl) ?_
      refine lv_aload_n hx hb dX3_lots_149 rfl (lv_at hl 0 rfl) ?_
      refine va_get (D := gD g) (ci := 3) (v := .ref (ad 17)) (C := RX3) (T := TX3) (N := 33) hx hb hts hi3 hown hK hP 0 rfl rfl 27 (by decide) k3 (fun _ h9 => h9) rfl dX3_lots_150 ?_
      have hPc : va_P (gD g) vwCl (wA g ad 17 (fFit (mF u144))) H := hP.sub [17] rfl
      refine ro_int (va_runS (As := [.ref (ad 17)]) (rest := [.int x6]) ⟨hx, hb, hml, hown, hts⟩ (h_X3_manyIn g ad 17 (fFit (mF u144))) (va_cwS 1 hts gX3_lots_X3_manyIn rfl rfl rfl (by decide +kernel) ⟨Nat.le_of_ble_eq_true rfl, Nat.le_of_ble_eq_true rfl⟩) ⟨RO_blind, fun U hU hW => ⟨rfl, by rw [hU]; exact hPc, va_K.moved hW.alike hK, hE.call hW hU hS (fun _ h => h.elim)⟩⟩ rfl rfl hl.1 rfl (lv_room (Nat.le_of_ble_eq_true rfl)) dX3_lots_153 ⟨Nat.le_of_ble_eq_true rfl, Nat.le_of_ble_eq_true rfl⟩) hS hP (fun r H locs hw hP hS => ?_)
      subst r
      refine lv_iadd hx hb dX3_lots_156 ?_
      refine lv_istore (lv' := [(6, .int (x6 + (sumN (fFit (mF u144)) 64))), (0, .ref (ad 0)), (1, .int p0), (3, .int p2), (5, .int x5), (7, .int x7), (8, .int x8)]) hx hb dX3_lots_157 hl (by decide) rfl (fun ls hl => ?_)
      refine lv_aload_n hx hb dX3_lots_159 rfl (lv_at hl 1 rfl) ?_
      refine lv_iconst (v := 2) hx hb dX3_lots_160 (by decide) ?_
      refine lv_iconst (v := 0) hx hb dX3_lots_161 (by decide) ?_
      have h8 := hv.1
      have hv := hv.2
      have hPc := hP
      have hDc := hD
      refine rw_void (va_runV (As := [.int 2, .int 0]) (rest := []) ⟨hx, hb, hml, hown, hts⟩ (h_X3_passesAll g ad u144 2 0 h8) (cwV 2 hts gX3_lots_X3_passesAll rfl rfl rfl (by decide +kernel) ⟨Nat.le_of_ble_eq_true rfl, Nat.le_of_ble_eq_true rfl⟩) ⟨RW_blind, va_recv hK hP (ci := 3) (q0 := 0) rfl rfl, fun U hU hW => ⟨rfl, by rw [hU]; exact hPc, va_K.moved hW.alike hK, hE.call hW hU hS (fun _ h => h), hDc⟩⟩ rfl rfl hl.1 rfl (lv_room (Nat.le_of_ble_eq_true rfl)) dX3_lots_162 ⟨Nat.le_of_ble_eq_true rfl, Nat.le_of_ble_eq_true rfl⟩) hS (fun _ h => h) (fun u162 H1 locs hw hP1 hk hS => ?_)
      have hv := hv u162 hw
      have hP := hP1
      generalize H1 = H at hP hS ⊢
      have hP : va_P (gD g) vwCl (wM g ad u162) H := hP
      have hD : va_D (AD ad 0 21) (wM g ad u162) := hD.addr (by rfl)
      refine lv_iinc (v := (x7 + 1)) (lv' := [(7, .int (x7 + 1)), (6, .int (x6 + (sumN (fFit (mF u144)) 64))), (0, .ref (ad 0)), (1, .int p0), (3, .int p2), (5, .int x5), (8, .int x8)]) hx hb dX3_lots_165 hl (k := 5) rfl (by first | rfl | exact congrArg _ (by decide)) (by decide) rfl (fun ls hl => ?_)
      refine lv_goto (tgt := 76) hx hb dX3_lots_168 (by decide) ?_
      exact hv H locs ls hP hD hS (lv_sub hl [2, 3, 4, 5, 1, 0] rfl)
    · have hv := hv.2 c95
      refine lv_aload_n hx hb dX3_lots_98 rfl (lv_at hl 0 rfl) ?_
      refine lv_aload_n hx hb dX3_lots_99 rfl (lv_at hl 0 rfl) ?_
      refine va_get (D := gD g) (ci := 3) (v := .int (sNw (mS s_))) (C := RX3) (T := TX3) (N := 33) hx hb hts hi3 hown hK hP 0 rfl rfl 13 (by decide) k1 (fun _ h9 => h9) rfl dX3_lots_100 ?_
      have h8 := hv.1
      have hv := hv.2
      have hPc := hP
      have hDc := hD
      refine rw_int (va_runV (As := [.int (sNw (mS s_))]) (rest := []) ⟨hx, hb, hml, hown, hts⟩ (h_X3_draw g ad s_ (sNw (mS s_)) h8) (cwV 1 hts gX3_lots_X3_draw rfl rfl rfl (by decide +kernel) ⟨Nat.le_of_ble_eq_true rfl, Nat.le_of_ble_eq_true rfl⟩) ⟨RW_blind, va_recv hK hP (ci := 3) (q0 := 0) rfl rfl, fun U hU hW => ⟨rfl, by rw [hU]; exact hPc, va_K.moved hW.alike hK, hE.call hW hU hS (fun _ h => h), hDc⟩⟩ rfl rfl hl.1 rfl (lv_room (Nat.le_of_ble_eq_true rfl)) dX3_lots_103 ⟨Nat.le_of_ble_eq_true rfl, Nat.le_of_ble_eq_true rfl⟩) hS (fun _ h => h) (fun r u103 H1 locs hw hP1 hk hS => ?_)
      obtain ⟨hw1, hw⟩ := hw; subst r
      have hv := hv u103 hw
      have hP := hP1
      generalize H1 = H at hP hS ⊢
      have hP : va_P (gD g) vwCl (wM g ad u103) H := hP
      have hD : va_D (AD ad 0 21) (wM g ad u103) := hD.addr (by rfl)
      refine lv_istore (lv' := [(9, .int (drawV (mLots s_) (sNw (mS s_)))), (0, .ref (ad 0)), (1, .int p0), (3, .int p2), (5, .int x5), (6, .int x6), (7, .int x7), (8, .int x8)]) hx hb dX3_lots_106 hl (by decide) rfl (fun ls hl => ?_)
      refine lv_iload hx hb dX3_lots_108 (lv_at hl 4 rfl) ?_
      refine lv_aload_n hx hb dX3_lots_110 rfl (lv_at hl 1 rfl) ?_
      refine lv_iload hx hb dX3_lots_111 (lv_at hl 0 rfl) ?_
      refine lv_aload_n hx hb dX3_lots_113 rfl (lv_at hl 1 rfl) ?_
      refine lv_aload_n hx hb dX3_lots_114 rfl (lv_at hl 1 rfl) ?_
      refine va_get (D := gD g) (ci := 3) (v := .int (sNq (mS u103))) (C := RX3) (T := TX3) (N := 33) hx hb hts hi3 hown hK hP 0 rfl rfl 12 (by decide) k2 (fun _ h9 => h9) rfl dX3_lots_115 ?_
      have h8 := hv.1
      have hv := hv.2
      have hPc := hP
      have hDc := hD
      refine rw_int (va_runV (As := [.int (sNq (mS u103))]) (rest := [.int (drawV (mLots s_) (sNw (mS s_))), .ref (ad 0), .int x5]) ⟨hx, hb, hml, hown, hts⟩ (h_X3_draw g ad u103 (sNq (mS u103)) h8) (cwV 1 hts gX3_lots_X3_draw rfl rfl rfl (by decide +kernel) ⟨Nat.le_of_ble_eq_true rfl, Nat.le_of_ble_eq_true rfl⟩) ⟨RW_blind, va_recv hK hP (ci := 3) (q0 := 0) rfl rfl, fun U hU hW => ⟨rfl, by rw [hU]; exact hPc, va_K.moved hW.alike hK, hE.call hW hU hS (fun _ h => h), hDc⟩⟩ rfl rfl hl.1 rfl (lv_room (Nat.le_of_ble_eq_true rfl)) dX3_lots_118 ⟨Nat.le_of_ble_eq_true rfl, Nat.le_of_ble_eq_true rfl⟩) hS (fun _ h => h) (fun r u118 H1 locs hw hP1 hk hS => ?_)
      obtain ⟨hw1, hw⟩ := hw; subst r
      have hv := hv u118 hw
      have hP := hP1
      generalize H1 = H at hP hS ⊢
      have hP : va_P (gD g) vwCl (wM g ad u118) H := hP
      have hD : va_D (AD ad 0 21) (wM g ad u118) := hD.addr (by rfl)
      have h8 := hv.1
      have hv := hv.2
      have hPc := hP
      have hDc := hD
      refine rw_int (va_runV (As := [.int (drawV (mLots s_) (sNw (mS s_))), .int (drawV (mLots u103) (sNq (mS u103)))]) (rest := [.int x5]) ⟨hx, hb, hml, hown, hts⟩ (h_X3_asksOne g ad u118 (drawV (mLots s_) (sNw (mS s_))) (drawV (mLots u103) (sNq (mS u103))) h8) (cwV 2 hts gX3_lots_X3_asksOne rfl rfl rfl (by decide +kernel) ⟨Nat.le_of_ble_eq_true rfl, Nat.le_of_ble_eq_true rfl⟩) ⟨RW_blind, va_recv hK hP (ci := 3) (q0 := 0) rfl rfl, fun U hU hW => ⟨rfl, by rw [hU]; exact hPc, va_K.moved hW.alike hK, hE.call hW hU hS (fun _ h => h), hDc⟩⟩ rfl rfl hl.1 rfl (lv_room (Nat.le_of_ble_eq_true rfl)) dX3_lots_121 ⟨Nat.le_of_ble_eq_true rfl, Nat.le_of_ble_eq_true rfl⟩) hS (fun _ h => h) (fun r u121 H1 locs hw hP1 hk hS => ?_)
      obtain ⟨hw1, hw⟩ := hw; subst r
      have hv := hv u121 hw
      have hP := hP1
      generalize H1 = H at hP hS ⊢
      have hP : va_P (gD g) vwCl (wM g ad u121) H := hP
      have hD : va_D (AD ad 0 21) (wM g ad u121) := hD.addr (by rfl)
      refine lv_iconst (v := 1) hx hb dX3_lots_124 (by decide) ?_
      refine lv_icmp_ne (tgt := 132) hx hb dX3_lots_125 (by decide) (fun c125 => ?_) (fun c125 => ?_)
      · have hv := hv.1 c125
        refine lv_iconst (v := 0) hx hb dX3_lots_132 (by decide) ?_
        refine lv_iadd hx hb dX3_lots_133 ?_
        refine lv_istore (lv' := [(5, .int (x5 + 0)), (9, .int (drawV (mLots s_) (sNw (mS s_)))), (0, .ref (ad 0)), (1, .int p0), (3, .int p2), (6, .int x6), (7, .int x7), (8, .int x8)]) hx hb dX3_lots_134 hl (by decide) rfl (fun ls hl => ?_)
        refine lv_iinc (v := (x8 + 1)) (lv' := [(8, .int (x8 + 1)), (5, .int (x5 + 0)), (9, .int (drawV (mLots s_) (sNw (mS s_)))), (0, .ref (ad 0)), (1, .int p0), (3, .int p2), (6, .int x6), (7, .int x7)]) hx hb dX3_lots_136 hl (k := 7) rfl (by first | rfl | exact congrArg _ (by decide)) (by decide) rfl (fun ls hl => ?_)
        refine lv_goto (tgt := 91) hx hb dX3_lots_139 (by decide) ?_
        exact hv H locs ls hP hD hS (lv_sub hl [3, 4, 5, 1, 6, 7, 0] rfl)
      · have hv := hv.2 c125
        refine lv_iconst (v := 1) hx hb dX3_lots_128 (by decide) ?_
        refine lv_goto (tgt := 133) hx hb dX3_lots_129 (by decide) ?_
        refine lv_iadd hx hb dX3_lots_133 ?_
        refine lv_istore (lv' := [(5, .int (x5 + 1)), (9, .int (drawV (mLots s_) (sNw (mS s_)))), (0, .ref (ad 0)), (1, .int p0), (3, .int p2), (6, .int x6), (7, .int x7), (8, .int x8)]) hx hb dX3_lots_134 hl (by decide) rfl (fun ls hl => ?_)
        refine lv_iinc (v := (x8 + 1)) (lv' := [(8, .int (x8 + 1)), (5, .int (x5 + 1)), (9, .int (drawV (mLots s_) (sNw (mS s_)))), (0, .ref (ad 0)), (1, .int p0), (3, .int p2), (6, .int x6), (7, .int x7)]) hx hb dX3_lots_136 hl (k := 7) rfl (by first | rfl | exact congrArg _ (by decide)) (by decide) rfl (fun ls hl => ?_)
        refine lv_goto (tgt := 91) hx hb dX3_lots_139 (by decide) ?_
        exact hv H locs ls hP hD hS (lv_sub hl [3, 4, 5, 1, 6, 7, 0] rfl))
  obtain ⟨H, hH⟩ : ∃ z, z = s.heap := ⟨_, rfl⟩
  obtain ⟨locs, hL⟩ : ∃ z : List Loc, z = [] := ⟨_, rfl⟩
  rw [← hL] at hS ⊢
  have hS : va_S (AD ad 0 21) s.heap H locs := by rw [hH]; exact hS
  rw [← hH] at hP ⊢
  clear hH hL
  refine lv_iload_n hx hb dX3_lots_0 rfl (lv_at hl 1 rfl) ?_
  refine lv_iconst (v := 1) hx hb dX3_lots_1 (by decide) ?_
  refine lv_bipush (v := 20) hx hb dX3_lots_2 (by decide) ?_
  have hPc : va_P (gD g) vwCl [] H := fun k q h => by simp at h
  refine ro_int (va_runS (As := [.int p0, .int 1, .int 20]) (rest := []) ⟨hx, hb, hml, hown, hts⟩ (h_X3_bound g p0 1 20) (va_cwS 3 hts gX3_lots_X3_bound rfl rfl rfl (by decide +kernel) ⟨Nat.le_of_ble_eq_true rfl, Nat.le_of_ble_eq_true rfl⟩) ⟨RO_blind, fun U hU hW => ⟨rfl, by rw [hU]; exact hPc, va_K.moved hW.alike hK, hE.call hW hU hS (fun _ h => h.elim)⟩⟩ rfl rfl hl.1 rfl (lv_room (Nat.le_of_ble_eq_true rfl)) dX3_lots_4 ⟨Nat.le_of_ble_eq_true rfl, Nat.le_of_ble_eq_true rfl⟩) hS hP (fun r H locs hw hP hS => ?_)
  subst r
  refine lv_istore (lv' := [(4, .int (boundI p0 (1 : Int32) (20 : Int32))), (0, .ref (ad 0)), (1, .int p0), (2, .int p1), (3, .int p2)]) hx hb dX3_lots_7 hl (by decide) rfl (fun ls hl => ?_)
  refine lv_iload hx hb dX3_lots_9 (lv_at hl 0 rfl) ?_
  refine lv_if_ne (tgt := 50) hx hb dX3_lots_11 (by decide) (fun c11 => ?_) (fun c11 => ?_)
  · have hv := hv.1 c11
    refine lv_iload hx hb dX3_lots_50 (lv_at hl 0 rfl) ?_
    refine lv_if_eq (tgt := 62) hx hb dX3_lots_52 (by decide) (fun c52 => ?_) (fun c52 => ?_)
    · have hv := hv.1 c52
      refine lv_aload_n hx hb dX3_lots_62 rfl (lv_at hl 1 rfl) ?_
      refine lv_iload_n hx hb dX3_lots_63 rfl (lv_at hl 3 rfl) ?_
      refine va_put (D := gD g) (ci := 3) (v := .int p1) (ty := .int) (C := RX3) (T := TX3) (N := 33) hx hb hts hi3 tyX3 tyX3_ok nmX3 hown hK hP hD hS 0 rfl rfl 32 (by decide) k0 (fun _ h9 => h9) rfl (by decide +kernel) rfl rfl (Nat.le_of_ble_eq_true rfl) dX3_lots_64 (fun H locs hP hD hS => ?_)
      have hP : va_P (gD g) vwCl (wM g ad ((mS σ), (mT σ), (mK σ), (mF σ), (mRow σ), (mRowMany σ), p1, (mRefused σ))) H := hP
      have hD : va_D (AD ad 0 21) (wM g ad ((mS σ), (mT σ), (mK σ), (mF σ), (mRow σ), (mRowMany σ), p1, (mRefused σ))) := hD
      refine lv_iconst (v := 0) hx hb dX3_lots_67 (by decide) ?_
      refine lv_istore (lv' := [(5, .int 0), (4, .int (boundI p0 (1 : Int32) (20 : Int32))), (0, .ref (ad 0)), (1, .int p0), (2, .int p1), (3, .int p2)]) hx hb dX3_lots_68 hl (by decide) rfl (fun ls hl => ?_)
      refine lv_iconst (v := 0) hx hb dX3_lots_70 (by decide) ?_
      refine lv_istore (lv' := [(6, .int 0), (5, .int 0), (4, .int (boundI p0 (1 : Int32) (20 : Int32))), (0, .ref (ad 0)), (1, .int p0), (2, .int p1), (3, .int p2)]) hx hb dX3_lots_71 hl (by decide) rfl (fun ls hl => ?_)
      refine lv_iconst (v := 0) hx hb dX3_lots_73 (by decide) ?_
      refine lv_istore (lv' := [(7, .int 0), (6, .int 0), (5, .int 0), (4, .int (boundI p0 (1 : Int32) (20 : Int32))), (0, .ref (ad 0)), (1, .int p0), (2, .int p1), (3, .int p2)]) hx hb dX3_lots_74 hl (by decide) rfl (fun ls hl => ?_)
      exact hv H locs ls hP hD hS (lv_sub hl [4, 5, 7, 2, 1, 0] rfl)
    · have hv := hv.2 c52
      refine lv_aload_n hx hb dX3_lots_55 rfl (lv_at hl 1 rfl) ?_
      refine lv_iload hx hb dX3_lots_56 (lv_at hl 0 rfl) ?_
      have h8 := hv.1
      have hv := hv.2
      have hPc := hP
      have hDc := hD
      refine rw_int (va_runV (As := [.int (boundI p0 (1 : Int32) (20 : Int32))]) (rest := []) ⟨hx, hb, hml, hown, hts⟩ (h_X3_no g ad σ (boundI p0 (1 : Int32) (20 : Int32)) h8) (cwV 1 hts gX3_lots_X3_no rfl rfl rfl (by decide +kernel) ⟨Nat.le_of_ble_eq_true rfl, Nat.le_of_ble_eq_true rfl⟩) ⟨RW_blind, va_recv hK hP (ci := 3) (q0 := 0) rfl rfl, fun U hU hW => ⟨rfl, by rw [hU]; exact hPc, va_K.moved hW.alike hK, hE.call hW hU hS (fun _ h => h), hDc⟩⟩ rfl rfl hl.1 rfl (lv_room (Nat.le_of_ble_eq_true rfl)) dX3_lots_58 ⟨Nat.le_of_ble_eq_true rfl, Nat.le_of_ble_eq_true rfl⟩) hS (fun _ h => h) (fun r u58 H1 locs hw hP1 hk hS => ?_)
      obtain ⟨hw1, hw⟩ := hw; subst r
      have hv := hv u58 hw
      have hP := hP1
      generalize H1 = H at hP hS ⊢
      have hP : va_P (gD g) vwCl (wM g ad u58) H := hP
      have hD : va_D (AD ad 0 21) (wM g ad u58) := hD.addr (by rfl)
      exact W.iret (v := ((boundI p0 (1 : Int32) (20 : Int32)))) hx hb hr (fun t ht hW => ⟨⟨((boundI p0 (1 : Int32) (20 : Int32))), u58, rfl, hv, P_at ht hP⟩, hS.F ht⟩) hS.2.2 dX3_lots_61
  · have hv := hv.2 c11
    refine lv_iload_n hx hb dX3_lots_14 rfl (lv_at hl 4 rfl) ?_
    refine lv_iconst (v := 0) hx hb dX3_lots_15 (by decide) ?_
    refine lv_iconst (v := 1) hx hb dX3_lots_16 (by decide) ?_
    have hPc : va_P (gD g) vwCl [] H := fun k q h => by simp at h
    refine ro_int (va_runS (As := [.int p2, .int 0, .int 1]) (rest := []) ⟨hx, hb, hml, hown, hts⟩ (h_X3_isIn g p2 0 1) (va_cwS 3 hts gX3_lots_X3_isIn rfl rfl rfl (by decide +kernel) ⟨Nat.le_of_ble_eq_true rfl, Nat.le_of_ble_eq_true rfl⟩) ⟨RO_blind, fun U hU hW => ⟨rfl, by rw [hU]; exact hPc, va_K.moved hW.alike hK, hE.call hW hU hS (fun _ h => h.elim)⟩⟩ rfl rfl hl.1 rfl (lv_room (Nat.le_of_ble_eq_true rfl)) dX3_lots_17 ⟨Nat.le_of_ble_eq_true rfl, Nat.le_of_ble_eq_true rfl⟩) hS hP (fun r H locs hw hP hS => ?_)
    subst r
    refine lv_if_ne (tgt := 28) hx hb dX3_lots_20 (by decide) (fun c20 => ?_) (fun c20 => ?_)
    · have hv := hv.1 c20
      refine lv_aload_n hx hb dX3_lots_28 rfl (lv_at hl 1 rfl) ?_
      refine va_get (D := gD g) (ci := 3) (v := .int (sNw (mS σ))) (C := RX3) (T := TX3) (N := 33) hx hb hts hi3 hown hK hP 0 rfl rfl 13 (by decide) k1 (fun _ h9 => h9) rfl dX3_lots_29 ?_
      refine lv_if_eq (tgt := 42) hx hb dX3_lots_32 (by decide) (fun c32 => ?_) (fun c32 => ?_)
      · have hv := hv.1 c32
        refine lv_bipush (v := (-3)) hx hb dX3_lots_42 (by decide) ?_
        refine lv_goto (tgt := 48) hx hb dX3_lots_44 (by decide) ?_
        refine lv_istore (lv' := [(4, .int (-3)), (0, .ref (ad 0)), (1, .int p0), (2, .int p1), (3, .int p2)]) hx hb dX3_lots_48 hl (by decide) rfl (fun ls hl => ?_)
        refine lv_iload hx hb dX3_lots_50 (lv_at hl 0 rfl) ?_
        refine lv_if_eq (tgt := 62) hx hb dX3_lots_52 (by decide) (fun c52 => ?_) (fun c52 => ?_)
        · exact absurd c52 (by decide)
        · refine lv_aload_n hx hb dX3_lots_55 rfl (lv_at hl 1 rfl) ?_
          refine lv_iload hx hb dX3_lots_56 (lv_at hl 0 rfl) ?_
          have h8 := hv.1
          have hv := hv.2
          have hPc := hP
          have hDc := hD
          refine rw_int (va_runV (As := [.int (-3)]) (rest := []) ⟨hx, hb, hml, hown, hts⟩ (h_X3_no g ad σ (-3) h8) (cwV 1 hts gX3_lots_X3_no rfl rfl rfl (by decide +kernel) ⟨Nat.le_of_ble_eq_true rfl, Nat.le_of_ble_eq_true rfl⟩) ⟨RW_blind, va_recv hK hP (ci := 3) (q0 := 0) rfl rfl, fun U hU hW => ⟨rfl, by rw [hU]; exact hPc, va_K.moved hW.alike hK, hE.call hW hU hS (fun _ h => h), hDc⟩⟩ rfl rfl hl.1 rfl (lv_room (Nat.le_of_ble_eq_true rfl)) dX3_lots_58 ⟨Nat.le_of_ble_eq_true rfl, Nat.le_of_ble_eq_true rfl⟩) hS (fun _ h => h) (fun r u58 H1 locs hw hP1 hk hS => ?_)
          obtain ⟨hw1, hw⟩ := hw; subst r
          have hv := hv u58 hw
          have hP := hP1
          generalize H1 = H at hP hS ⊢
          have hP : va_P (gD g) vwCl (wM g ad u58) H := hP
          have hD : va_D (AD ad 0 21) (wM g ad u58) := hD.addr (by rfl)
          exact W.iret (v := (((-3) : Int32))) hx hb hr (fun t ht hW => ⟨⟨(((-3) : Int32)), u58, rfl, hv, P_at ht hP⟩, hS.F ht⟩) hS.2.2 dX3_lots_61
      · have hv := hv.2 c32
        refine lv_aload_n hx hb dX3_lots_35 rfl (lv_at hl 1 rfl) ?_
        refine va_get (D := gD g) (ci := 3) (v := .int (sNq (mS σ))) (C := RX3) (T := TX3) (N := 33) hx hb hts hi3 hown hK hP 0 rfl rfl 12 (by decide) k2 (fun _ h9 => h9) rfl dX3_lots_36 ?_
        refine lv_if_ne (tgt := 47) hx hb dX3_lots_39 (by decide) (fun c39 => ?_) (fun c39 => ?_)
        · have hv := hv.1 c39
          refine lv_iconst (v := 0) hx hb dX3_lots_47 (by decide) ?_
          refine lv_istore (lv' := [(4, .int 0), (0, .ref (ad 0)), (1, .int p0), (2, .int p1), (3, .int p2)]) hx hb dX3_lots_48 hl (by decide) rfl (fun ls hl => ?_)
          refine lv_iload hx hb dX3_lots_50 (lv_at hl 0 rfl) ?_
          refine lv_if_eq (tgt := 62) hx hb dX3_lots_52 (by decide) (fun c52 => ?_) (fun c52 => ?_)
          · refine lv_aload_n hx hb dX3_lots_62 rfl (lv_at hl 1 rfl) ?_
            refine lv_iload_n hx hb dX3_lots_63 rfl (lv_at hl 3 rfl) ?_
            refine va_put (D := gD g) (ci := 3) (v := .int p1) (ty := .int) (C := RX3) (T := TX3) (N := 33) hx hb hts hi3 tyX3 tyX3_ok nmX3 hown hK hP hD hS 0 rfl rfl 32 (by decide) k0 (fun _ h9 => h9) rfl (by decide +kernel) rfl rfl (Nat.le_of_ble_eq_true rfl) dX3_lots_64 (fun H locs hP hD hS => ?_)
            have hP : va_P (gD g) vwCl (wM g ad ((mS σ), (mT σ), (mK σ), (mF σ), (mRow σ), (mRowMany σ), p1, (mRefused σ))) H := hP
            have hD : va_D (AD ad 0 21) (wM g ad ((mS σ), (mT σ), (mK σ), (mF σ), (mRow σ), (mRowMany σ), p1, (mRefused σ))) := hD
            refine lv_iconst (v := 0) hx hb dX3_lots_67 (by decide) ?_
            refine lv_istore (lv' := [(5, .int 0), (4, .int 0), (0, .ref (ad 0)), (1, .int p0), (2, .int p1), (3, .int p2)]) hx hb dX3_lots_68 hl (by decide) rfl (fun ls hl => ?_)
            refine lv_iconst (v := 0) hx hb dX3_lots_70 (by decide) ?_
            refine lv_istore (lv' := [(6, .int 0), (5, .int 0), (4, .int 0), (0, .ref (ad 0)), (1, .int p0), (2, .int p1), (3, .int p2)]) hx hb dX3_lots_71 hl (by decide) rfl (fun ls hl => ?_)
            refine lv_iconst (v := 0) hx hb dX3_lots_73 (by decide) ?_
            refine lv_istore (lv' := [(7, .int 0), (6, .int 0), (5, .int 0), (4, .int 0), (0, .ref (ad 0)), (1, .int p0), (2, .int p1), (3, .int p2)]) hx hb dX3_lots_74 hl (by decide) rfl (fun ls hl => ?_)
            exact hv H locs ls hP hD hS (lv_sub hl [4, 5, 7, 2, 1, 0] rfl)
          · exact (c52 (by decide)).elim
        · have hv := hv.2 c39
          refine lv_bipush (v := (-3)) hx hb dX3_lots_42 (by decide) ?_
          refine lv_goto (tgt := 48) hx hb dX3_lots_44 (by decide) ?_
          refine lv_istore (lv' := [(4, .int (-3)), (0, .ref (ad 0)), (1, .int p0), (2, .int p1), (3, .int p2)]) hx hb dX3_lots_48 hl (by decide) rfl (fun ls hl => ?_)
          refine lv_iload hx hb dX3_lots_50 (lv_at hl 0 rfl) ?_
          refine lv_if_eq (tgt := 62) hx hb dX3_lots_52 (by decide) (fun c52 => ?_) (fun c52 => ?_)
          · exact absurd c52 (by decide)
          · refine lv_aload_n hx hb dX3_lots_55 rfl (lv_at hl 1 rfl) ?_
            refine lv_iload hx hb dX3_lots_56 (lv_at hl 0 rfl) ?_
            have h8 := hv.1
            have hv := hv.2
            have hPc := hP
            have hDc := hD
            refine rw_int (va_runV (As := [.int (-3)]) (rest := []) ⟨hx, hb, hml, hown, hts⟩ (h_X3_no g ad σ (-3) h8) (cwV 1 hts gX3_lots_X3_no rfl rfl rfl (by decide +kernel) ⟨Nat.le_of_ble_eq_true rfl, Nat.le_of_ble_eq_true rfl⟩) ⟨RW_blind, va_recv hK hP (ci := 3) (q0 := 0) rfl rfl, fun U hU hW => ⟨rfl, by rw [hU]; exact hPc, va_K.moved hW.alike hK, hE.call hW hU hS (fun _ h => h), hDc⟩⟩ rfl rfl hl.1 rfl (lv_room (Nat.le_of_ble_eq_true rfl)) dX3_lots_58 ⟨Nat.le_of_ble_eq_true rfl, Nat.le_of_ble_eq_true rfl⟩) hS (fun _ h => h) (fun r u58 H1 locs hw hP1 hk hS => ?_)
            obtain ⟨hw1, hw⟩ := hw; subst r
            have hv := hv u58 hw
            have hP := hP1
            generalize H1 = H at hP hS ⊢
            have hP : va_P (gD g) vwCl (wM g ad u58) H := hP
            have hD : va_D (AD ad 0 21) (wM g ad u58) := hD.addr (by rfl)
            exact W.iret (v := (((-3) : Int32))) hx hb hr (fun t ht hW => ⟨⟨(((-3) : Int32)), u58, rfl, hv, P_at ht hP⟩, hS.F ht⟩) hS.2.2 dX3_lots_61
    · have hv := hv.2 c20
      refine lv_bipush (v := (-2)) hx hb dX3_lots_23 (by decide) ?_
      refine lv_goto (tgt := 48) hx hb dX3_lots_25 (by decide) ?_
      refine lv_istore (lv' := [(4, .int (-2)), (0, .ref (ad 0)), (1, .int p0), (2, .int p1), (3, .int p2)]) hx hb dX3_lots_48 hl (by decide) rfl (fun ls hl => ?_)
      refine lv_iload hx hb dX3_lots_50 (lv_at hl 0 rfl) ?_
      refine lv_if_eq (tgt := 62) hx hb dX3_lots_52 (by decide) (fun c52 => ?_) (fun c52 => ?_)
      · exact absurd c52 (by decide)
      · refine lv_aload_n hx hb dX3_lots_55 rfl (lv_at hl 1 rfl) ?_
        refine lv_iload hx hb dX3_lots_56 (lv_at hl 0 rfl) ?_
        have h8 := hv.1
        have hv := hv.2
        have hPc := hP
        have hDc := hD
        refine rw_int (va_runV (As := [.int (-2)]) (rest := []) ⟨hx, hb, hml, hown, hts⟩ (h_X3_no g ad σ (-2) h8) (cwV 1 hts gX3_lots_X3_no rfl rfl rfl (by decide +kernel) ⟨Nat.le_of_ble_eq_true rfl, Nat.le_of_ble_eq_true rfl⟩) ⟨RW_blind, va_recv hK hP (ci := 3) (q0 := 0) rfl rfl, fun U hU hW => ⟨rfl, by rw [hU]; exact hPc, va_K.moved hW.alike hK, hE.call hW hU hS (fun _ h => h), hDc⟩⟩ rfl rfl hl.1 rfl (lv_room (Nat.le_of_ble_eq_true rfl)) dX3_lots_58 ⟨Nat.le_of_ble_eq_true rfl, Nat.le_of_ble_eq_true rfl⟩) hS (fun _ h => h) (fun r u58 H1 locs hw hP1 hk hS => ?_)
        obtain ⟨hw1, hw⟩ := hw; subst r
        have hv := hv u58 hw
        have hP := hP1
        generalize H1 = H at hP hS ⊢
        have hP : va_P (gD g) vwCl (wM g ad u58) H := hP
        have hD : va_D (AD ad 0 21) (wM g ad u58) := hD.addr (by rfl)
        exact W.iret (v := (((-2) : Int32))) hx hb hr (fun t ht hW => ⟨⟨(((-2) : Int32)), u58, rfl, hv, P_at ht hP⟩, hS.F ht⟩) hS.2.2 dX3_lots_61

