set_option maxHeartbeats 4000000 in
set_option maxRecDepth 100000 in
theorem m_X3_passesAll (l : Launch) (h_X3_passOne : C_X3_passOne l) (h_X3_passes_10 : C_X3_passes_10 l) (h_X3_passes_11 : C_X3_passes_11 l) (h_X3_passes_2 : C_X3_passes_2 l) (h_X3_passes_3 : C_X3_passes_3 l) (h_X3_passes_4 : C_X3_passes_4 l) (h_X3_passes_5 : C_X3_passes_5 l) (h_X3_passes_6 : C_X3_passes_6 l) (h_X3_passes_7 : C_X3_passes_7 l) (h_X3_passes_8 : C_X3_passes_8 l) (h_X3_passes_9 : C_X3_passes_9 l) (g : CX) (ad : Nat → Nat) (σ : KM) (p0 : Int32) (p1 : Int32) (Post : KM → Prop) (hv : vc_X3_passesAll σ p0 p1 Post) : Met l yX3_passesAll wsX3_passesAll { frames := 1, cells := 0, slots := 0, locals := 22 } (va_Pc [.ref (ad 0), .int p0, .int p1] (RW g (AD ad 0 21) (wM g ad σ))) (va_Qv (fun (u : KM) => Post u) (fun u t => va_P (gD g) vwCl (wM g ad u) t.heap) (AD ad 0 21)) 0 0 (AD ad 0 21) := by
  unfold vc_X3_passesAll at hv
  refine Met.ofW (cc := cX3_passesAll) (maxL := 3) (ret := none) (by decide) rfl ?_
  intro p e s m args below meth c s₁ B hml hv0
  obtain ⟨rfl, hP, hK, hE, hD⟩ := hv0
  have hx := B.exec
  have hb := B.bytes
  have hr := B.returns
  have hts := atoms_spec (ws := wsX3_passesAll) B.pre
  have hown : s.vm.findClass RX3 = some m.cls := findClass_of_methodNamed B.named
  have hlocks := B.notSynchronized
  have hi3 : ∀ w ∈ wsX30, w ∈ wsX3_passesAll := by decide +kernel
  have k0 := hts (.fieldLink RX3 164 "JuryHearsAnswersModel" "cursor" "I") (by decide +kernel)
  have k1 := hts (.fieldLink RX3 160 "JuryHearsAnswersModel" "isKeeping" "Z") (by decide +kernel)
  have k2 := hts (.fieldLink RX3 13 "JuryHearsAnswersModel" "form" "[I") (by decide +kernel)
  have k3 := hts (.fieldLink RX3 16 "JuryHearsAnswersModel" "first" "[I") (by decide +kernel)
  have k4 := hts (.fieldLink RX3 19 "JuryHearsAnswersModel" "second" "[I") (by decide +kernel)
  have k5 := hts (.fieldLink RX3 22 "JuryHearsAnswersModel" "kind" "[I") (by decide +kernel)
  have k6 := hts (.fieldLink RX3 25 "JuryHearsAnswersModel" "figure" "[I") (by decide +kernel)
  have k7 := hts (.fieldLink RX3 28 "JuryHearsAnswersModel" "knows" "[I") (by decide +kernel)
  have k8 := hts (.fieldLink RX3 31 "JuryHearsAnswersModel" "whom" "[I") (by decide +kernel)
  have k9 := hts (.fieldLink RX3 34 "JuryHearsAnswersModel" "what" "[I") (by decide +kernel)
  have k10 := hts (.fieldLink RX3 37 "JuryHearsAnswersModel" "said" "[I") (by decide +kernel)
  have k11 := hts (.fieldLink RX3 40 "JuryHearsAnswersModel" "when" "[I") (by decide +kernel)
  have k12 := hts (.fieldLink RX3 134 "JuryHearsAnswersModel" "theCase" "I") (by decide +kernel)
  have k13 := hts (.fieldLink RX3 70 "JuryHearsAnswersModel" "questions" "I") (by decide +kernel)
  have k14 := hts (.fieldLink RX3 76 "JuryHearsAnswersModel" "witnesses" "I") (by decide +kernel)
  have k15 := hts (.fieldLink RX3 146 "JuryHearsAnswersModel" "heard" "I") (by decide +kernel)
  have k16 := hts (.fieldLink RX3 127 "JuryHearsAnswersModel" "asked" "I") (by decide +kernel)
  have hS : va_S (AD ad 0 21) s.heap s.heap [] := va_S.rf
  have hP : va_P (gD g) vwCl (wM g ad σ) s.heap := hP
  have hl := lv_entry ([.ref (ad 0), .int p0, .int p1]) (n := 3) (Nat.le_of_ble_eq_true rfl)
  rw [lg_entry_eq]
  generalize (lg_sl ([.ref (ad 0), .int p0, .int p1]) ++ List.replicate (3 - (lg_sl ([.ref (ad 0), .int p0, .int p1])).length) Slot.unset).toArray = ls at hl ⊢
  have hl : lv_has ls 3 [(0, .ref (ad 0)), (1, .int p0), (2, .int p1)] := hl
  obtain ⟨H, hH⟩ : ∃ z, z = s.heap := ⟨_, rfl⟩
  obtain ⟨locs, hL⟩ : ∃ z : List Loc, z = [] := ⟨_, rfl⟩
  rw [← hL] at hS ⊢
  have hS : va_S (AD ad 0 21) s.heap H locs := by rw [hH]; exact hS
  rw [← hH] at hP ⊢
  clear hH hL
  refine lv_aload_n hx hb dX3_passesAll_0 rfl (lv_at hl 0 rfl) ?_
  refine lv_bipush (v := 92) hx hb dX3_passesAll_1 (by decide) ?_
  refine lv_iload_n hx hb dX3_passesAll_3 rfl (lv_at hl 1 rfl) ?_
  refine lv_imul hx hb dX3_passesAll_4 ?_
  refine va_put (D := gD g) (ci := 3) (v := .int (92 * p0)) (ty := .int) (C := RX3) (T := TX3) (N := 33) hx hb hts hi3 tyX3 tyX3_ok nmX3 hown hK hP hD hS 0 rfl rfl 26 (by decide) k0 (fun _ h9 => h9) rfl (by decide +kernel) rfl rfl (Nat.le_of_ble_eq_true rfl) dX3_passesAll_5 (fun H locs hP hD hS => ?_)
  have hP : va_P (gD g) vwCl (wM g ad ((mS σ), (mT σ), ((kKept (mK σ)), (kHas (mK σ)), (kKeep (mK σ)), (92 * p0)), (mF σ), (mRow σ), (mRowMany σ), (mLots σ), (mRefused σ))) H := hP
  have hD : va_D (AD ad 0 21) (wM g ad ((mS σ), (mT σ), ((kKept (mK σ)), (kHas (mK σ)), (kKeep (mK σ)), (92 * p0)), (mF σ), (mRow σ), (mRowMany σ), (mLots σ), (mRefused σ))) := hD
  refine lv_aload_n hx hb dX3_passesAll_8 rfl (lv_at hl 0 rfl) ?_
  refine lv_iload_n hx hb dX3_passesAll_9 rfl (lv_at hl 2 rfl) ?_
  have hn := hv.1
  have hv := hv.2
  refine va_put (D := gD g) (ci := 3) (v := .int p1) (ty := .boolean) (C := RX3) (T := TX3) (N := 33) hx hb hts hi3 tyX3 tyX3_ok nmX3 hown hK hP hD hS 0 rfl rfl 25 (by decide) k1 (fun _ h9 => h9) rfl (by decide +kernel) hn.1 hn.2 (Nat.le_of_ble_eq_true rfl) dX3_passesAll_10 (fun H locs hP hD hS => ?_)
  have hP : va_P (gD g) vwCl (wM g ad ((mS σ), (mT σ), ((kKept (mK σ)), (kHas (mK σ)), p1, (92 * p0)), (mF σ), (mRow σ), (mRowMany σ), (mLots σ), (mRefused σ))) H := hP
  have hD : va_D (AD ad 0 21) (wM g ad ((mS σ), (mT σ), ((kKept (mK σ)), (kHas (mK σ)), p1, (92 * p0)), (mF σ), (mRow σ), (mRowMany σ), (mLots σ), (mRefused σ))) := hD
  refine lv_aload_n hx hb dX3_passesAll_13 rfl (lv_at hl 0 rfl) ?_
  refine lv_aload_n hx hb dX3_passesAll_14 rfl (lv_at hl 0 rfl) ?_
  refine va_get (D := gD g) (ci := 3) (v := .ref (ad 2)) (C := RX3) (T := TX3) (N := 33) hx hb hts hi3 hown hK hP 0 rfl rfl 1 (by decide) k2 (fun _ h9 => h9) rfl dX3_passesAll_15 ?_
  have h8 := hv.1
  have hv := hv.2
  have hPc := hP
  have hDc := hD
  refine rw_void (va_runV (As := [.ref (ad 2)]) (rest := []) ⟨hx, hb, hml, hown, hts⟩ (h_X3_passes_2 g ad ((mS σ), (mT σ), ((kKept (mK σ)), (kHas (mK σ)), p1, (92 * p0)), (mF σ), (mRow σ), (mRowMany σ), (mLots σ), (mRefused σ)) h8) (cwV 1 hts gX3_passesAll_X3_passes rfl rfl rfl (by decide +kernel) ⟨Nat.le_of_ble_eq_true rfl, Nat.le_of_ble_eq_true rfl⟩) ⟨RW_blind, va_recv hK hP (ci := 3) (q0 := 0) rfl rfl, fun U hU hW => ⟨rfl, by rw [hU]; exact hPc, va_K.moved hW.alike hK, hE.call hW hU hS (fun _ h => h), hDc⟩⟩ rfl rfl hl.1 rfl (lv_room (Nat.le_of_ble_eq_true rfl)) dX3_passesAll_18 ⟨Nat.le_of_ble_eq_true rfl, Nat.le_of_ble_eq_true rfl⟩) hS (fun _ h => h) (fun u18 H1 locs hw hP1 hk hS => ?_)
  have hv := hv u18 hw
  have hP := hP1
  generalize H1 = H at hP hS ⊢
  have hP : va_P (gD g) vwCl (wM g ad u18) H := hP
  have hD : va_D (AD ad 0 21) (wM g ad u18) := hD.addr (by rfl)
  refine lv_aload_n hx hb dX3_passesAll_21 rfl (lv_at hl 0 rfl) ?_
  refine lv_aload_n hx hb dX3_passesAll_22 rfl (lv_at hl 0 rfl) ?_
  refine va_get (D := gD g) (ci := 3) (v := .ref (ad 3)) (C := RX3) (T := TX3) (N := 33) hx hb hts hi3 hown hK hP 0 rfl rfl 2 (by decide) k3 (fun _ h9 => h9) rfl dX3_passesAll_23 ?_
  have h8 := hv.1
  have hv := hv.2
  have hPc := hP
  have hDc := hD
  refine rw_void (va_runV (As := [.ref (ad 3)]) (rest := []) ⟨hx, hb, hml, hown, hts⟩ (h_X3_passes_3 g ad u18 h8) (cwV 1 hts gX3_passesAll_X3_passes rfl rfl rfl (by decide +kernel) ⟨Nat.le_of_ble_eq_true rfl, Nat.le_of_ble_eq_true rfl⟩) ⟨RW_blind, va_recv hK hP (ci := 3) (q0 := 0) rfl rfl, fun U hU hW => ⟨rfl, by rw [hU]; exact hPc, va_K.moved hW.alike hK, hE.call hW hU hS (fun _ h => h), hDc⟩⟩ rfl rfl hl.1 rfl (lv_room (Nat.le_of_ble_eq_true rfl)) dX3_passesAll_26 ⟨Nat.le_of_ble_eq_true rfl, Nat.le_of_ble_eq_true rfl⟩) hS (fun _ h => h) (fun u26 H1 locs hw hP1 hk hS => ?_)
  have hv := hv u26 hw
  have hP := hP1
  generalize H1 = H at hP hS ⊢
  have hP : va_P (gD g) vwCl (wM g ad u26) H := hP
  have hD : va_D (AD ad 0 21) (wM g ad u26) := hD.addr (by rfl)
  refine lv_aload_n hx hb dX3_passesAll_29 rfl (lv_at hl 0 rfl) ?_
  refine lv_aload_n hx hb dX3_passesAll_30 rfl (lv_at hl 0 rfl) ?_
  refine va_get (D := gD g) (ci := 3) (v := .ref (ad 4)) (C := RX3) (T := TX3) (N := 33) hx hb hts hi3 hown hK hP 0 rfl rfl 3 (by decide) k4 (fun _ h9 => h9) rfl dX3_passesAll_31 ?_
  have h8 := hv.1
  have hv := hv.2
  have hPc := hP
  have hDc := hD
  refine rw_void (va_runV (As := [.ref (ad 4)]) (rest := []) ⟨hx, hb, hml, hown, hts⟩ (h_X3_passes_4 g ad u26 h8) (cwV 1 hts gX3_passesAll_X3_passes rfl rfl rfl (by decide +kernel) ⟨Nat.le_of_ble_eq_true rfl, Nat.le_of_ble_eq_true rfl⟩) ⟨RW_blind, va_recv hK hP (ci := 3) (q0 := 0) rfl rfl, fun U hU hW => ⟨rfl, by rw [hU]; exact hPc, va_K.moved hW.alike hK, hE.call hW hU hS (fun _ h => h), hDc⟩⟩ rfl rfl hl.1 rfl (lv_room (Nat.le_of_ble_eq_true rfl)) dX3_passesAll_34 ⟨Nat.le_of_ble_eq_true rfl, Nat.le_of_ble_eq_true rfl⟩) hS (fun _ h => h) (fun u34 H1 locs hw hP1 hk hS => ?_)
  have hv := hv u34 hw
  have hP := hP1
  generalize H1 = H at hP hS ⊢
  have hP : va_P (gD g) vwCl (wM g ad u34) H := hP
  have hD : va_D (AD ad 0 21) (wM g ad u34) := hD.addr (by rfl)
  refine lv_aload_n hx hb dX3_passesAll_37 rfl (lv_at hl 0 rfl) ?_
  refine lv_aload_n hx hb dX3_passesAll_38 rfl (lv_at hl 0 rfl) ?_
  refine va_get (D := gD g) (ci := 3) (v := .ref (ad 5)) (C := RX3) (T := TX3) (N := 33) hx hb hts hi3 hown hK hP 0 rfl rfl 4 (by decide) k5 (fun _ h9 => h9) rfl dX3_passesAll_39 ?_
  have h8 := hv.1
  have hv := hv.2
  have hPc := hP
  have hDc := hD
  refine rw_void (va_runV (As := [.ref (ad 5)]) (rest := []) ⟨hx, hb, hml, hown, hts⟩ (h_X3_passes_5 g ad u34 h8) (cwV 1 hts gX3_passesAll_X3_passes rfl rfl rfl (by decide +kernel) ⟨Nat.le_of_ble_eq_true rfl, Nat.le_of_ble_eq_true rfl⟩) ⟨RW_blind, va_recv hK hP (ci := 3) (q0 := 0) rfl rfl, fun U hU hW => ⟨rfl, by rw [hU]; exact hPc, va_K.moved hW.alike hK, hE.call hW hU hS (fun _ h => h), hDc⟩⟩ rfl rfl hl.1 rfl (lv_room (Nat.le_of_ble_eq_true rfl)) dX3_passesAll_42 ⟨Nat.le_of_ble_eq_true rfl, Nat.le_of_ble_eq_true rfl⟩) hS (fun _ h => h) (fun u42 H1 locs hw hP1 hk hS => ?_)
  have hv := hv u42 hw
  have hP := hP1
  generalize H1 = H at hP hS ⊢
  have hP : va_P (gD g) vwCl (wM g ad u42) H := hP
  have hD : va_D (AD ad 0 21) (wM g ad u42) := hD.addr (by rfl)
  refine lv_aload_n hx hb dX3_passesAll_45 rfl (lv_at hl 0 rfl) ?_
  refine lv_aload_n hx hb dX3_passesAll_46 rfl (lv_at hl 0 rfl) ?_
  refine va_get (D := gD g) (ci := 3) (v := .ref (ad 6)) (C := RX3) (T := TX3) (N := 33) hx hb hts hi3 hown hK hP 0 rfl rfl 5 (by decide) k6 (fun _ h9 => h9) rfl dX3_passesAll_47 ?_
  have h8 := hv.1
  have hv := hv.2
  have hPc := hP
  have hDc := hD
  refine rw_void (va_runV (As := [.ref (ad 6)]) (rest := []) ⟨hx, hb, hml, hown, hts⟩ (h_X3_passes_6 g ad u42 h8) (cwV 1 hts gX3_passesAll_X3_passes rfl rfl rfl (by decide +kernel) ⟨Nat.le_of_ble_eq_true rfl, Nat.le_of_ble_eq_true rfl⟩) ⟨RW_blind, va_recv hK hP (ci := 3) (q0 := 0) rfl rfl, fun U hU hW => ⟨rfl, by rw [hU]; exact hPc, va_K.moved hW.alike hK, hE.call hW hU hS (fun _ h => h), hDc⟩⟩ rfl rfl hl.1 rfl (lv_room (Nat.le_of_ble_eq_true rfl)) dX3_passesAll_50 ⟨Nat.le_of_ble_eq_true rfl, Nat.le_of_ble_eq_true rfl⟩) hS (fun _ h => h) (fun u50 H1 locs hw hP1 hk hS => ?_)
  have hv := hv u50 hw
  have hP := hP1
  generalize H1 = H at hP hS ⊢
  have hP : va_P (gD g) vwCl (wM g ad u50) H := hP
  have hD : va_D (AD ad 0 21) (wM g ad u50) := hD.addr (by rfl)
  refine lv_aload_n hx hb dX3_passesAll_53 rfl (lv_at hl 0 rfl) ?_
  refine lv_aload_n hx hb dX3_passesAll_54 rfl (lv_at hl 0 rfl) ?_
  refine va_get (D := gD g) (ci := 3) (v := .ref (ad 7)) (C := RX3) (T := TX3) (N := 33) hx hb hts hi3 hown hK hP 0 rfl rfl 6 (by decide) k7 (fun _ h9 => h9) rfl dX3_passesAll_55 ?_
  have h8 := hv.1
  have hv := hv.2
  have hPc := hP
  have hDc := hD
  refine rw_void (va_runV (As := [.ref (ad 7)]) (rest := []) ⟨hx, hb, hml, hown, hts⟩ (h_X3_passes_7 g ad u50 h8) (cwV 1 hts gX3_passesAll_X3_passes rfl rfl rfl (by decide +kernel) ⟨Nat.le_of_ble_eq_true rfl, Nat.le_of_ble_eq_true rfl⟩) ⟨RW_blind, va_recv hK hP (ci := 3) (q0 := 0) rfl rfl, fun U hU hW => ⟨rfl, by rw [hU]; exact hPc, va_K.moved hW.alike hK, hE.call hW hU hS (fun _ h => h), hDc⟩⟩ rfl rfl hl.1 rfl (lv_room (Nat.le_of_ble_eq_true rfl)) dX3_passesAll_58 ⟨Nat.le_of_ble_eq_true rfl, Nat.le_of_ble_eq_true rfl⟩) hS (fun _ h => h) (fun u58 H1 locs hw hP1 hk hS => ?_)
  have hv := hv u58 hw
  have hP := hP1
  generalize H1 = H at hP hS ⊢
  have hP : va_P (gD g) vwCl (wM g ad u58) H := hP
  have hD : va_D (AD ad 0 21) (wM g ad u58) := hD.addr (by rfl)
  refine lv_aload_n hx hb dX3_passesAll_61 rfl (lv_at hl 0 rfl) ?_
  refine lv_aload_n hx hb dX3_passesAll_62 rfl (lv_at hl 0 rfl) ?_
  refine va_get (D := gD g) (ci := 3) (v := .ref (ad 8)) (C := RX3) (T := TX3) (N := 33) hx hb hts hi3 hown hK hP 0 rfl rfl 7 (by decide) k8 (fun _ h9 => h9) rfl dX3_passesAll_63 ?_
  have h8 := hv.1
  have hv := hv.2
  have hPc := hP
  have hDc := hD
  refine rw_void (va_runV (As := [.ref (ad 8)]) (rest := []) ⟨hx, hb, hml, hown, hts⟩ (h_X3_passes_8 g ad u58 h8) (cwV 1 hts gX3_passesAll_X3_passes rfl rfl rfl (by decide +kernel) ⟨Nat.le_of_ble_eq_true rfl, Nat.le_of_ble_eq_true rfl⟩) ⟨RW_blind, va_recv hK hP (ci := 3) (q0 := 0) rfl rfl, fun U hU hW => ⟨rfl, by rw [hU]; exact hPc, va_K.moved hW.alike hK, hE.call hW hU hS (fun _ h => h), hDc⟩⟩ rfl rfl hl.1 rfl (lv_room (Nat.le_of_ble_eq_true rfl)) dX3_passesAll_66 ⟨Nat.le_of_ble_eq_true rfl, Nat.le_of_ble_eq_true rfl⟩) hS (fun _ h => h) (fun u66 H1 locs hw hP1 hk hS => ?_)
  have hv := hv u66 hw
  have hP := hP1
  generalize H1 = H at hP hS ⊢
  have hP : va_P (gD g) vwCl (wM g ad u66) H := hP
  have hD : va_D (AD ad 0 21) (wM g ad u66) := hD.addr (by rfl)
  refine lv_aload_n hx hb dX3_passesAll_69 rfl (lv_at hl 0 rfl) ?_
  refine lv_aload_n hx hb dX3_passesAll_70 rfl (lv_at hl 0 rfl) ?_
  refine va_get (D := gD g) (ci := 3) (v := .ref (ad 9)) (C := RX3) (T := TX3) (N := 33) hx hb hts hi3 hown hK hP 0 rfl rfl 8 (by decide) k9 (fun _ h9 => h9) rfl dX3_passesAll_71 ?_
  have h8 := hv.1
  have hv := hv.2
  have hPc := hP
  have hDc := hD
  refine rw_void (va_runV (As := [.ref (ad 9)]) (rest := []) ⟨hx, hb, hml, hown, hts⟩ (h_X3_passes_9 g ad u66 h8) (cwV 1 hts gX3_passesAll_X3_passes rfl rfl rfl (by decide +kernel) ⟨Nat.le_of_ble_eq_true rfl, Nat.le_of_ble_eq_true rfl⟩) ⟨RW_blind, va_recv hK hP (ci := 3) (q0 := 0) rfl rfl, fun U hU hW => ⟨rfl, by rw [hU]; exact hPc, va_K.moved hW.alike hK, hE.call hW hU hS (fun _ h => h), hDc⟩⟩ rfl rfl hl.1 rfl (lv_room (Nat.le_of_ble_eq_true rfl)) dX3_passesAll_74 ⟨Nat.le_of_ble_eq_true rfl, Nat.le_of_ble_eq_true rfl⟩) hS (fun _ h => h) (fun u74 H1 locs hw hP1 hk hS => ?_)
  have hv := hv u74 hw
  have hP := hP1
  generalize H1 = H at hP hS ⊢
  have hP : va_P (gD g) vwCl (wM g ad u74) H := hP
  have hD : va_D (AD ad 0 21) (wM g ad u74) := hD.addr (by rfl)
  refine lv_aload_n hx hb dX3_passesAll_77 rfl (lv_at hl 0 rfl) ?_
  refine lv_aload_n hx hb dX3_passesAll_78 rfl (lv_at hl 0 rfl) ?_
  refine va_get (D := gD g) (ci := 3) (v := .ref (ad 10)) (C := RX3) (T := TX3) (N := 33) hx hb hts hi3 hown hK hP 0 rfl rfl 9 (by decide) k10 (fun _ h9 => h9) rfl dX3_passesAll_79 ?_
  have h8 := hv.1
  have hv := hv.2
  have hPc := hP
  have hDc := hD
  refine rw_void (va_runV (As := [.ref (ad 10)]) (rest := []) ⟨hx, hb, hml, hown, hts⟩ (h_X3_passes_10 g ad u74 h8) (cwV 1 hts gX3_passesAll_X3_passes rfl rfl rfl (by decide +kernel) ⟨Nat.le_of_ble_eq_true rfl, Nat.le_of_ble_eq_true rfl⟩) ⟨RW_blind, va_recv hK hP (ci := 3) (q0 := 0) rfl rfl, fun U hU hW => ⟨rfl, by rw [hU]; exact hPc, va_K.moved hW.alike hK, hE.call hW hU hS (fun _ h => h), hDc⟩⟩ rfl rfl hl.1 rfl (lv_room (Nat.le_of_ble_eq_true rfl)) dX3_passesAll_82 ⟨Nat.le_of_ble_eq_true rfl, Nat.le_of_ble_eq_true rfl⟩) hS (fun _ h => h) (fun u82 H1 locs hw hP1 hk hS => ?_)
  have hv := hv u82 hw
  have hP := hP1
  generalize H1 = H at hP hS ⊢
  have hP : va_P (gD g) vwCl (wM g ad u82) H := hP
  have hD : va_D (AD ad 0 21) (wM g ad u82) := hD.addr (by rfl)
  refine lv_aload_n hx hb dX3_passesAll_85 rfl (lv_at hl 0 rfl) ?_
  refine lv_aload_n hx hb dX3_passesAll_86 rfl (lv_at hl 0 rfl) ?_
  refine va_get (D := gD g) (ci := 3) (v := .ref (ad 11)) (C := RX3) (T := TX3) (N := 33) hx hb hts hi3 hown hK hP 0 rfl rfl 10 (by decide) k11 (fun _ h9 => h9) rfl dX3_passesAll_87 ?_
  have h8 := hv.1
  have hv := hv.2
  have hPc := hP
  have hDc := hD
  refine rw_void (va_runV (As := [.ref (ad 11)]) (rest := []) ⟨hx, hb, hml, hown, hts⟩ (h_X3_passes_11 g ad u82 h8) (cwV 1 hts gX3_passesAll_X3_passes rfl rfl rfl (by decide +kernel) ⟨Nat.le_of_ble_eq_true rfl, Nat.le_of_ble_eq_true rfl⟩) ⟨RW_blind, va_recv hK hP (ci := 3) (q0 := 0) rfl rfl, fun U hU hW => ⟨rfl, by rw [hU]; exact hPc, va_K.moved hW.alike hK, hE.call hW hU hS (fun _ h => h), hDc⟩⟩ rfl rfl hl.1 rfl (lv_room (Nat.le_of_ble_eq_true rfl)) dX3_passesAll_90 ⟨Nat.le_of_ble_eq_true rfl, Nat.le_of_ble_eq_true rfl⟩) hS (fun _ h => h) (fun u90 H1 locs hw hP1 hk hS => ?_)
  have hv := hv u90 hw
  have hP := hP1
  generalize H1 = H at hP hS ⊢
  have hP : va_P (gD g) vwCl (wM g ad u90) H := hP
  have hD : va_D (AD ad 0 21) (wM g ad u90) := hD.addr (by rfl)
  refine lv_aload_n hx hb dX3_passesAll_93 rfl (lv_at hl 0 rfl) ?_
  refine lv_aload_n hx hb dX3_passesAll_94 rfl (lv_at hl 0 rfl) ?_
  refine lv_aload_n hx hb dX3_passesAll_95 rfl (lv_at hl 0 rfl) ?_
  refine va_get (D := gD g) (ci := 3) (v := .int (sCase (mS u90))) (C := RX3) (T := TX3) (N := 33) hx hb hts hi3 hown hK hP 0 rfl rfl 11 (by decide) k12 (fun _ h9 => h9) rfl dX3_passesAll_96 ?_
  have h8 := hv.1
  have hv := hv.2
  have hPc := hP
  have hDc := hD
  refine rw_int (va_runV (As := [.int (sCase (mS u90))]) (rest := [.ref (ad 0)]) ⟨hx, hb, hml, hown, hts⟩ (h_X3_passOne g ad u90 (sCase (mS u90)) h8) (cwV 1 hts gX3_passesAll_X3_passOne rfl rfl rfl (by decide +kernel) ⟨Nat.le_of_ble_eq_true rfl, Nat.le_of_ble_eq_true rfl⟩) ⟨RW_blind, va_recv hK hP (ci := 3) (q0 := 0) rfl rfl, fun U hU hW => ⟨rfl, by rw [hU]; exact hPc, va_K.moved hW.alike hK, hE.call hW hU hS (fun _ h => h), hDc⟩⟩ rfl rfl hl.1 rfl (lv_room (Nat.le_of_ble_eq_true rfl)) dX3_passesAll_99 ⟨Nat.le_of_ble_eq_true rfl, Nat.le_of_ble_eq_true rfl⟩) hS (fun _ h => h) (fun r u99 H1 locs hw hP1 hk hS => ?_)
  obtain ⟨hw1, hw⟩ := hw; subst r
  have hv := hv u99 hw
  have hP := hP1
  generalize H1 = H at hP hS ⊢
  have hP : va_P (gD g) vwCl (wM g ad u99) H := hP
  have hD : va_D (AD ad 0 21) (wM g ad u99) := hD.addr (by rfl)
  refine va_put (D := gD g) (ci := 3) (v := .int (if kKeep (mK u90) = 0 then kKept (mK u90) (kCur (mK u90)).toNatClampNeg else (sCase (mS u90)))) (ty := .int) (C := RX3) (T := TX3) (N := 33) hx hb hts hi3 tyX3 tyX3_ok nmX3 hown hK hP hD hS 0 rfl rfl 11 (by decide) k12 (fun _ h9 => h9) rfl (by decide +kernel) rfl rfl (Nat.le_of_ble_eq_true rfl) dX3_passesAll_102 (fun H locs hP hD hS => ?_)
  have hP : va_P (gD g) vwCl (wM g ad (((if kKeep (mK u90) = 0 then kKept (mK u90) (kCur (mK u90)).toNatClampNeg else (sCase (mS u90))), (sAsked (mS u99)), (sNq (mS u99)), (sNw (mS u99)), (sNh (mS u99)), (sForm (mS u99)), (sFirst (mS u99)), (sSecond (mS u99)), (sKind (mS u99)), (sFigure (mS u99)), (sKnows (mS u99)), (sWhom (mS u99)), (sWhat (mS u99)), (sSaid (mS u99)), (sWhen (mS u99))), (mT u99), (mK u99), (mF u99), (mRow u99), (mRowMany u99), (mLots u99), (mRefused u99))) H := hP
  have hD : va_D (AD ad 0 21) (wM g ad (((if kKeep (mK u90) = 0 then kKept (mK u90) (kCur (mK u90)).toNatClampNeg else (sCase (mS u90))), (sAsked (mS u99)), (sNq (mS u99)), (sNw (mS u99)), (sNh (mS u99)), (sForm (mS u99)), (sFirst (mS u99)), (sSecond (mS u99)), (sKind (mS u99)), (sFigure (mS u99)), (sKnows (mS u99)), (sWhom (mS u99)), (sWhat (mS u99)), (sSaid (mS u99)), (sWhen (mS u99))), (mT u99), (mK u99), (mF u99), (mRow u99), (mRowMany u99), (mLots u99), (mRefused u99))) := hD
  refine lv_aload_n hx hb dX3_passesAll_105 rfl (lv_at hl 0 rfl) ?_
  refine lv_aload_n hx hb dX3_passesAll_106 rfl (lv_at hl 0 rfl) ?_
  refine lv_aload_n hx hb dX3_passesAll_107 rfl (lv_at hl 0 rfl) ?_
  refine va_get (D := gD g) (ci := 3) (v := .int (sNq (mS u99))) (C := RX3) (T := TX3) (N := 33) hx hb hts hi3 hown hK hP 0 rfl rfl 12 (by decide) k13 (fun _ h9 => h9) rfl dX3_passesAll_108 ?_
  have h8 := hv.1
  have hv := hv.2
  have hPc := hP
  have hDc := hD
  refine rw_int (va_runV (As := [.int (sNq (mS u99))]) (rest := [.ref (ad 0)]) ⟨hx, hb, hml, hown, hts⟩ (h_X3_passOne g ad (((if kKeep (mK u90) = 0 then kKept (mK u90) (kCur (mK u90)).toNatClampNeg else (sCase (mS u90))), (sAsked (mS u99)), (sNq (mS u99)), (sNw (mS u99)), (sNh (mS u99)), (sForm (mS u99)), (sFirst (mS u99)), (sSecond (mS u99)), (sKind (mS u99)), (sFigure (mS u99)), (sKnows (mS u99)), (sWhom (mS u99)), (sWhat (mS u99)), (sSaid (mS u99)), (sWhen (mS u99))), (mT u99), (mK u99), (mF u99), (mRow u99), (mRowMany u99), (mLots u99), (mRefused u99)) (sNq (mS u99)) h8) (cwV 1 hts gX3_passesAll_X3_passOne rfl rfl rfl (by decide +kernel) ⟨Nat.le_of_ble_eq_true rfl, Nat.le_of_ble_eq_true rfl⟩) ⟨RW_blind, va_recv hK hP (ci := 3) (q0 := 0) rfl rfl, fun U hU hW => ⟨rfl, by rw [hU]; exact hPc, va_K.moved hW.alike hK, hE.call hW hU hS (fun _ h => h), hDc⟩⟩ rfl rfl hl.1 rfl (lv_room (Nat.le_of_ble_eq_true rfl)) dX3_passesAll_111 ⟨Nat.le_of_ble_eq_true rfl, Nat.le_of_ble_eq_true rfl⟩) hS (fun _ h => h) (fun r u111 H1 locs hw hP1 hk hS => ?_)
  obtain ⟨hw1, hw⟩ := hw; subst r
  have hv := hv u111 hw
  have hP := hP1
  generalize H1 = H at hP hS ⊢
  have hP : va_P (gD g) vwCl (wM g ad u111) H := hP
  have hD : va_D (AD ad 0 21) (wM g ad u111) := hD.addr (by rfl)
  refine va_put (D := gD g) (ci := 3) (v := .int (if (kKeep (mK u99)) = 0 then (kKept (mK u99)) (kCur (mK u99)).toNatClampNeg else (sNq (mS u99)))) (ty := .int) (C := RX3) (T := TX3) (N := 33) hx hb hts hi3 tyX3 tyX3_ok nmX3 hown hK hP hD hS 0 rfl rfl 12 (by decide) k13 (fun _ h9 => h9) rfl (by decide +kernel) rfl rfl (Nat.le_of_ble_eq_true rfl) dX3_passesAll_114 (fun H locs hP hD hS => ?_)
  have hP : va_P (gD g) vwCl (wM g ad (((sCase (mS u111)), (sAsked (mS u111)), (if (kKeep (mK u99)) = 0 then (kKept (mK u99)) (kCur (mK u99)).toNatClampNeg else (sNq (mS u99))), (sNw (mS u111)), (sNh (mS u111)), (sForm (mS u111)), (sFirst (mS u111)), (sSecond (mS u111)), (sKind (mS u111)), (sFigure (mS u111)), (sKnows (mS u111)), (sWhom (mS u111)), (sWhat (mS u111)), (sSaid (mS u111)), (sWhen (mS u111))), (mT u111), (mK u111), (mF u111), (mRow u111), (mRowMany u111), (mLots u111), (mRefused u111))) H := hP
  have hD : va_D (AD ad 0 21) (wM g ad (((sCase (mS u111)), (sAsked (mS u111)), (if (kKeep (mK u99)) = 0 then (kKept (mK u99)) (kCur (mK u99)).toNatClampNeg else (sNq (mS u99))), (sNw (mS u111)), (sNh (mS u111)), (sForm (mS u111)), (sFirst (mS u111)), (sSecond (mS u111)), (sKind (mS u111)), (sFigure (mS u111)), (sKnows (mS u111)), (sWhom (mS u111)), (sWhat (mS u111)), (sSaid (mS u111)), (sWhen (mS u111))), (mT u111), (mK u111), (mF u111), (mRow u111), (mRowMany u111), (mLots u111), (mRefused u111))) := hD
  refine lv_aload_n hx hb dX3_passesAll_117 rfl (lv_at hl 0 rfl) ?_
  refine lv_aload_n hx hb dX3_passesAll_118 rfl (lv_at hl 0 rfl) ?_
  refine lv_aload_n hx hb dX3_passesAll_119 rfl (lv_at hl 0 rfl) ?_
  refine va_get (D := gD g) (ci := 3) (v := .int (sNw (mS u111))) (C := RX3) (T := TX3) (N := 33) hx hb hts hi3 hown hK hP 0 rfl rfl 13 (by decide) k14 (fun _ h9 => h9) rfl dX3_passesAll_120 ?_
  have h8 := hv.1
  have hv := hv.2
  have hPc := hP
  have hDc := hD
  refine rw_int (va_runV (As := [.int (sNw (mS u111))]) (rest := [.ref (ad 0)]) ⟨hx, hb, hml, hown, hts⟩ (h_X3_passOne g ad (((sCase (mS u111)), (sAsked (mS u111)), (if (kKeep (mK u99)) = 0 then (kKept (mK u99)) (kCur (mK u99)).toNatClampNeg else (sNq (mS u99))), (sNw (mS u111)), (sNh (mS u111)), (sForm (mS u111)), (sFirst (mS u111)), (sSecond (mS u111)), (sKind (mS u111)), (sFigure (mS u111)), (sKnows (mS u111)), (sWhom (mS u111)), (sWhat (mS u111)), (sSaid (mS u111)), (sWhen (mS u111))), (mT u111), (mK u111), (mF u111), (mRow u111), (mRowMany u111), (mLots u111), (mRefused u111)) (sNw (mS u111)) h8) (cwV 1 hts gX3_passesAll_X3_passOne rfl rfl rfl (by decide +kernel) ⟨Nat.le_of_ble_eq_true rfl, Nat.le_of_ble_eq_true rfl⟩) ⟨RW_blind, va_recv hK hP (ci := 3) (q0 := 0) rfl rfl, fun U hU hW => ⟨rfl, by rw [hU]; exact hPc, va_K.moved hW.alike hK, hE.call hW hU hS (fun _ h => h), hDc⟩⟩ rfl rfl hl.1 rfl (lv_room (Nat.le_of_ble_eq_true rfl)) dX3_passesAll_123 ⟨Nat.le_of_ble_eq_true rfl, Nat.le_of_ble_eq_true rfl⟩) hS (fun _ h => h) (fun r u123 H1 locs hw hP1 hk hS => ?_)
  obtain ⟨hw1, hw⟩ := hw; subst r
  have hv := hv u123 hw
  have hP := hP1
  generalize H1 = H at hP hS ⊢
  have hP : va_P (gD g) vwCl (wM g ad u123) H := hP
  have hD : va_D (AD ad 0 21) (wM g ad u123) := hD.addr (by rfl)
  refine va_put (D := gD g) (ci := 3) (v := .int (if (kKeep (mK u111)) = 0 then (kKept (mK u111)) (kCur (mK u111)).toNatClampNeg else (sNw (mS u111)))) (ty := .int) (C := RX3) (T := TX3) (N := 33) hx hb hts hi3 tyX3 tyX3_ok nmX3 hown hK hP hD hS 0 rfl rfl 13 (by decide) k14 (fun _ h9 => h9) rfl (by decide +kernel) rfl rfl (Nat.le_of_ble_eq_true rfl) dX3_passesAll_126 (fun H locs hP hD hS => ?_)
  have hP : va_P (gD g) vwCl (wM g ad (((sCase (mS u123)), (sAsked (mS u123)), (sNq (mS u123)), (if (kKeep (mK u111)) = 0 then (kKept (mK u111)) (kCur (mK u111)).toNatClampNeg else (sNw (mS u111))), (sNh (mS u123)), (sForm (mS u123)), (sFirst (mS u123)), (sSecond (mS u123)), (sKind (mS u123)), (sFigure (mS u123)), (sKnows (mS u123)), (sWhom (mS u123)), (sWhat (mS u123)), (sSaid (mS u123)), (sWhen (mS u123))), (mT u123), (mK u123), (mF u123), (mRow u123), (mRowMany u123), (mLots u123), (mRefused u123))) H := hP
  have hD : va_D (AD ad 0 21) (wM g ad (((sCase (mS u123)), (sAsked (mS u123)), (sNq (mS u123)), (if (kKeep (mK u111)) = 0 then (kKept (mK u111)) (kCur (mK u111)).toNatClampNeg else (sNw (mS u111))), (sNh (mS u123)), (sForm (mS u123)), (sFirst (mS u123)), (sSecond (mS u123)), (sKind (mS u123)), (sFigure (mS u123)), (sKnows (mS u123)), (sWhom (mS u123)), (sWhat (mS u123)), (sSaid (mS u123)), (sWhen (mS u123))), (mT u123), (mK u123), (mF u123), (mRow u123), (mRowMany u123), (mLots u123), (mRefused u123))) := hD
  refine lv_aload_n hx hb dX3_passesAll_129 rfl (lv_at hl 0 rfl) ?_
  refine lv_aload_n hx hb dX3_passesAll_130 rfl (lv_at hl 0 rfl) ?_
  refine lv_aload_n hx hb dX3_passesAll_131 rfl (lv_at hl 0 rfl) ?_
  refine va_get (D := gD g) (ci := 3) (v := .int (sNh (mS u123))) (C := RX3) (T := TX3) (N := 33) hx hb hts hi3 hown hK hP 0 rfl rfl 14 (by decide) k15 (fun _ h9 => h9) rfl dX3_passesAll_132 ?_
  have h8 := hv.1
  have hv := hv.2
  have hPc := hP
  have hDc := hD
  refine rw_int (va_runV (As := [.int (sNh (mS u123))]) (rest := [.ref (ad 0)]) ⟨hx, hb, hml, hown, hts⟩ (h_X3_passOne g ad (((sCase (mS u123)), (sAsked (mS u123)), (sNq (mS u123)), (if (kKeep (mK u111)) = 0 then (kKept (mK u111)) (kCur (mK u111)).toNatClampNeg else (sNw (mS u111))), (sNh (mS u123)), (sForm (mS u123)), (sFirst (mS u123)), (sSecond (mS u123)), (sKind (mS u123)), (sFigure (mS u123)), (sKnows (mS u123)), (sWhom (mS u123)), (sWhat (mS u123)), (sSaid (mS u123)), (sWhen (mS u123))), (mT u123), (mK u123), (mF u123), (mRow u123), (mRowMany u123), (mLots u123), (mRefused u123)) (sNh (mS u123)) h8) (cwV 1 hts gX3_passesAll_X3_passOne rfl rfl rfl (by decide +kernel) ⟨Nat.le_of_ble_eq_true rfl, Nat.le_of_ble_eq_true rfl⟩) ⟨RW_blind, va_recv hK hP (ci := 3) (q0 := 0) rfl rfl, fun U hU hW => ⟨rfl, by rw [hU]; exact hPc, va_K.moved hW.alike hK, hE.call hW hU hS (fun _ h => h), hDc⟩⟩ rfl rfl hl.1 rfl (lv_room (Nat.le_of_ble_eq_true rfl)) dX3_passesAll_135 ⟨Nat.le_of_ble_eq_true rfl, Nat.le_of_ble_eq_true rfl⟩) hS (fun _ h => h) (fun r u135 H1 locs hw hP1 hk hS => ?_)
  obtain ⟨hw1, hw⟩ := hw; subst r
  have hv := hv u135 hw
  have hP := hP1
  generalize H1 = H at hP hS ⊢
  have hP : va_P (gD g) vwCl (wM g ad u135) H := hP
  have hD : va_D (AD ad 0 21) (wM g ad u135) := hD.addr (by rfl)
  refine va_put (D := gD g) (ci := 3) (v := .int (if (kKeep (mK u123)) = 0 then (kKept (mK u123)) (kCur (mK u123)).toNatClampNeg else (sNh (mS u123)))) (ty := .int) (C := RX3) (T := TX3) (N := 33) hx hb hts hi3 tyX3 tyX3_ok nmX3 hown hK hP hD hS 0 rfl rfl 14 (by decide) k15 (fun _ h9 => h9) rfl (by decide +kernel) rfl rfl (Nat.le_of_ble_eq_true rfl) dX3_passesAll_138 (fun H locs hP hD hS => ?_)
  have hP : va_P (gD g) vwCl (wM g ad (((sCase (mS u135)), (sAsked (mS u135)), (sNq (mS u135)), (sNw (mS u135)), (if (kKeep (mK u123)) = 0 then (kKept (mK u123)) (kCur (mK u123)).toNatClampNeg else (sNh (mS u123))), (sForm (mS u135)), (sFirst (mS u135)), (sSecond (mS u135)), (sKind (mS u135)), (sFigure (mS u135)), (sKnows (mS u135)), (sWhom (mS u135)), (sWhat (mS u135)), (sSaid (mS u135)), (sWhen (mS u135))), (mT u135), (mK u135), (mF u135), (mRow u135), (mRowMany u135), (mLots u135), (mRefused u135))) H := hP
  have hD : va_D (AD ad 0 21) (wM g ad (((sCase (mS u135)), (sAsked (mS u135)), (sNq (mS u135)), (sNw (mS u135)), (if (kKeep (mK u123)) = 0 then (kKept (mK u123)) (kCur (mK u123)).toNatClampNeg else (sNh (mS u123))), (sForm (mS u135)), (sFirst (mS u135)), (sSecond (mS u135)), (sKind (mS u135)), (sFigure (mS u135)), (sKnows (mS u135)), (sWhom (mS u135)), (sWhat (mS u135)), (sSaid (mS u135)), (sWhen (mS u135))), (mT u135), (mK u135), (mF u135), (mRow u135), (mRowMany u135), (mLots u135), (mRefused u135))) := hD
  refine lv_aload_n hx hb dX3_passesAll_141 rfl (lv_at hl 0 rfl) ?_
  refine lv_aload_n hx hb dX3_passesAll_142 rfl (lv_at hl 0 rfl) ?_
  refine lv_aload_n hx hb dX3_passesAll_143 rfl (lv_at hl 0 rfl) ?_
  refine va_get (D := gD g) (ci := 3) (v := .int (sAsked (mS u135))) (C := RX3) (T := TX3) (N := 33) hx hb hts hi3 hown hK hP 0 rfl rfl 15 (by decide) k16 (fun _ h9 => h9) rfl dX3_passesAll_144 ?_
  have h8 := hv.1
  have hv := hv.2
  have hPc := hP
  have hDc := hD
  refine rw_int (va_runV (As := [.int (sAsked (mS u135))]) (rest := [.ref (ad 0)]) ⟨hx, hb, hml, hown, hts⟩ (h_X3_passOne g ad (((sCase (mS u135)), (sAsked (mS u135)), (sNq (mS u135)), (sNw (mS u135)), (if (kKeep (mK u123)) = 0 then (kKept (mK u123)) (kCur (mK u123)).toNatClampNeg else (sNh (mS u123))), (sForm (mS u135)), (sFirst (mS u135)), (sSecond (mS u135)), (sKind (mS u135)), (sFigure (mS u135)), (sKnows (mS u135)), (sWhom (mS u135)), (sWhat (mS u135)), (sSaid (mS u135)), (sWhen (mS u135))), (mT u135), (mK u135), (mF u135), (mRow u135), (mRowMany u135), (mLots u135), (mRefused u135)) (sAsked (mS u135)) h8) (cwV 1 hts gX3_passesAll_X3_passOne rfl rfl rfl (by decide +kernel) ⟨Nat.le_of_ble_eq_true rfl, Nat.le_of_ble_eq_true rfl⟩) ⟨RW_blind, va_recv hK hP (ci := 3) (q0 := 0) rfl rfl, fun U hU hW => ⟨rfl, by rw [hU]; exact hPc, va_K.moved hW.alike hK, hE.call hW hU hS (fun _ h => h), hDc⟩⟩ rfl rfl hl.1 rfl (lv_room (Nat.le_of_ble_eq_true rfl)) dX3_passesAll_147 ⟨Nat.le_of_ble_eq_true rfl, Nat.le_of_ble_eq_true rfl⟩) hS (fun _ h => h) (fun r u147 H1 locs hw hP1 hk hS => ?_)
  obtain ⟨hw1, hw⟩ := hw; subst r
  have hv := hv u147 hw
  have hP := hP1
  generalize H1 = H at hP hS ⊢
  have hP : va_P (gD g) vwCl (wM g ad u147) H := hP
  have hD : va_D (AD ad 0 21) (wM g ad u147) := hD.addr (by rfl)
  refine va_put (D := gD g) (ci := 3) (v := .int (if (kKeep (mK u135)) = 0 then (kKept (mK u135)) (kCur (mK u135)).toNatClampNeg else (sAsked (mS u135)))) (ty := .int) (C := RX3) (T := TX3) (N := 33) hx hb hts hi3 tyX3 tyX3_ok nmX3 hown hK hP hD hS 0 rfl rfl 15 (by decide) k16 (fun _ h9 => h9) rfl (by decide +kernel) rfl rfl (Nat.le_of_ble_eq_true rfl) dX3_passesAll_150 (fun H locs hP hD hS => ?_)
  have hP : va_P (gD g) vwCl (wM g ad (((sCase (mS u147)), (if (kKeep (mK u135)) = 0 then (kKept (mK u135)) (kCur (mK u135)).toNatClampNeg else (sAsked (mS u135))), (sNq (mS u147)), (sNw (mS u147)), (sNh (mS u147)), (sForm (mS u147)), (sFirst (mS u147)), (sSecond (mS u147)), (sKind (mS u147)), (sFigure (mS u147)), (sKnows (mS u147)), (sWhom (mS u147)), (sWhat (mS u147)), (sSaid (mS u147)), (sWhen (mS u147))), (mT u147), (mK u147), (mF u147), (mRow u147), (mRowMany u147), (mLots u147), (mRefused u147))) H := hP
  have hD : va_D (AD ad 0 21) (wM g ad (((sCase (mS u147)), (if (kKeep (mK u135)) = 0 then (kKept (mK u135)) (kCur (mK u135)).toNatClampNeg else (sAsked (mS u135))), (sNq (mS u147)), (sNw (mS u147)), (sNh (mS u147)), (sForm (mS u147)), (sFirst (mS u147)), (sSecond (mS u147)), (sKind (mS u147)), (sFigure (mS u147)), (sKnows (mS u147)), (sWhom (mS u147)), (sWhat (mS u147)), (sSaid (mS u147)), (sWhen (mS u147))), (mT u147), (mK u147), (mF u147), (mRow u147), (mRowMany u147), (mLots u147), (mRefused u147))) := hD
  exact W.vret hx hb hr (fun t ht hW => ⟨⟨(((sCase (mS u147)), (if (kKeep (mK u135)) = 0 then (kKept (mK u135)) (kCur (mK u135)).toNatClampNeg else (sAsked (mS u135))), (sNq (mS u147)), (sNw (mS u147)), (sNh (mS u147)), (sForm (mS u147)), (sFirst (mS u147)), (sSecond (mS u147)), (sKind (mS u147)), (sFigure (mS u147)), (sKnows (mS u147)), (sWhom (mS u147)), (sWhat (mS u147)), (sSaid (mS u147)), (sWhen (mS u147))), (mT u147), (mK u147), (mF u147), (mRow u147), (mRowMany u147), (mLots u147), (mRefused u147)), rfl, hv, P_at ht hP⟩, hS.F ht⟩) hS.2.2 dX3_passesAll_153

set_option maxHeartbeats 4000000 in
set_option maxRecDepth 100000 in
theorem m_X3_image (l : Launch) (h_X3_passesAll : C_X3_passesAll l) (g : CX) (ad : Nat → Nat) (σ : KM)  (Post : Int32 → KM → Prop) (hv : vc_X3_image σ Post) : Met l yX3_image wsX3_image { frames := 2, cells := 0, slots := 0, locals := 44 } (va_Pc [.ref (ad 0)] (RW g (AD ad 0 21) (wM g ad σ))) (va_Qi (fun (r : Int32) (u : KM) => Post r u) (fun u t => va_P (gD g) vwCl (wM g ad u) t.heap) (AD ad 0 21)) 0 0 (AD ad 0 21) := by
  unfold vc_X3_image at hv
  refine Met.ofW (cc := cX3_image) (maxL := 1) (ret := (some .int)) (by decide) rfl ?_
  intro p e s m args below meth c s₁ B hml hv0
  obtain ⟨rfl, hP, hK, hE, hD⟩ := hv0
  have hx := B.exec
  have hb := B.bytes
  have hr := B.returns
  have hts := atoms_spec (ws := wsX3_image) B.pre
  have hown : s.vm.findClass RX3 = some m.cls := findClass_of_methodNamed B.named
  have hlocks := B.notSynchronized
  have hi3 : ∀ w ∈ wsX30, w ∈ wsX3_image := by decide +kernel
  have k0 := hts (.fieldLink RX3 174 "JuryHearsAnswersModel" "hasImage" "Z") (by decide +kernel)
  have k1 := hts (.fieldLink RX3 127 "JuryHearsAnswersModel" "asked" "I") (by decide +kernel)
  have hS : va_S (AD ad 0 21) s.heap s.heap [] := va_S.rf
  have hP : va_P (gD g) vwCl (wM g ad σ) s.heap := hP
  have hl := lv_entry ([.ref (ad 0)]) (n := 1) (Nat.le_of_ble_eq_true rfl)
  rw [lg_entry_eq]
  generalize (lg_sl ([.ref (ad 0)]) ++ List.replicate (1 - (lg_sl ([.ref (ad 0)])).length) Slot.unset).toArray = ls at hl ⊢
  have hl : lv_has ls 1 [(0, .ref (ad 0))] := hl
  obtain ⟨H, hH⟩ : ∃ z, z = s.heap := ⟨_, rfl⟩
  obtain ⟨locs, hL⟩ : ∃ z : List Loc, z = [] := ⟨_, rfl⟩
  rw [← hL] at hS ⊢
  have hS : va_S (AD ad 0 21) s.heap H locs := by rw [hH]; exact hS
  rw [← hH] at hP ⊢
  clear hH hL
  refine lv_aload_n hx hb dX3_image_0 rfl (lv_at hl 0 rfl) ?_
  refine lv_iconst (v := 1) hx hb dX3_image_1 (by decide) ?_
  refine va_put (D := gD g) (ci := 3) (v := .int 1) (ty := .boolean) (C := RX3) (T := TX3) (N := 33) hx hb hts hi3 tyX3 tyX3_ok nmX3 hown hK hP hD hS 0 rfl rfl 24 (by decide) k0 (fun _ h9 => h9) rfl (by decide +kernel) rfl rfl (Nat.le_of_ble_eq_true rfl) dX3_image_2 (fun H locs hP hD hS => ?_)
  have hP : va_P (gD g) vwCl (wM g ad ((mS σ), (mT σ), ((kKept (mK σ)), 1, (kKeep (mK σ)), (kCur (mK σ))), (mF σ), (mRow σ), (mRowMany σ), (mLots σ), (mRefused σ))) H := hP
  have hD : va_D (AD ad 0 21) (wM g ad ((mS σ), (mT σ), ((kKept (mK σ)), 1, (kKeep (mK σ)), (kCur (mK σ))), (mF σ), (mRow σ), (mRowMany σ), (mLots σ), (mRefused σ))) := hD
  refine lv_aload_n hx hb dX3_image_5 rfl (lv_at hl 0 rfl) ?_
  refine lv_iconst (v := 0) hx hb dX3_image_6 (by decide) ?_
  refine lv_iconst (v := 1) hx hb dX3_image_7 (by decide) ?_
  have h8 := hv.1
  have hv := hv.2
  have hPc := hP
  have hDc := hD
  refine rw_void (va_runV (As := [.int 0, .int 1]) (rest := []) ⟨hx, hb, hml, hown, hts⟩ (h_X3_passesAll g ad ((mS σ), (mT σ), ((kKept (mK σ)), 1, (kKeep (mK σ)), (kCur (mK σ))), (mF σ), (mRow σ), (mRowMany σ), (mLots σ), (mRefused σ)) 0 1 h8) (cwV 2 hts gX3_image_X3_passesAll rfl rfl rfl (by decide +kernel) ⟨Nat.le_of_ble_eq_true rfl, Nat.le_of_ble_eq_true rfl⟩) ⟨RW_blind, va_recv hK hP (ci := 3) (q0 := 0) rfl rfl, fun U hU hW => ⟨rfl, by rw [hU]; exact hPc, va_K.moved hW.alike hK, hE.call hW hU hS (fun _ h => h), hDc⟩⟩ rfl rfl hl.1 rfl (lv_room (Nat.le_of_ble_eq_true rfl)) dX3_image_8 ⟨Nat.le_of_ble_eq_true rfl, Nat.le_of_ble_eq_true rfl⟩) hS (fun _ h => h) (fun u H1 locs hw hP1 hk hS => ?_)
  subst u
  have hP := hP1
  generalize H1 = H at hP hS ⊢
  have hP : va_P (gD g) vwCl (wM g ad ((if (1 : Int32) = 0 then loadS (kKept (mK σ)) (92 * (0 : Int32)) (mS σ) else (mS σ)), (mT σ), ((if (1 : Int32) = 0 then (kKept (mK σ)) else saveS (kKept (mK σ)) (92 * (0 : Int32)) (mS σ), 1, (1 : Int32), 92 * (0 : Int32) + 92)), (mF σ), (mRow σ), (mRowMany σ), (mLots σ), (mRefused σ))) H := hP
  have hD : va_D (AD ad 0 21) (wM g ad ((if (1 : Int32) = 0 then loadS (kKept (mK σ)) (92 * (0 : Int32)) (mS σ) else (mS σ)), (mT σ), ((if (1 : Int32) = 0 then (kKept (mK σ)) else saveS (kKept (mK σ)) (92 * (0 : Int32)) (mS σ), 1, (1 : Int32), 92 * (0 : Int32) + 92)), (mF σ), (mRow σ), (mRowMany σ), (mLots σ), (mRefused σ))) := hD.addr (by rfl)
  refine lv_aload_n hx hb dX3_image_11 rfl (lv_at hl 0 rfl) ?_
  refine va_get (D := gD g) (ci := 3) (v := .int (sAsked (if (1 : Int32) = 0 then loadS (kKept (mK σ)) (92 * (0 : Int32)) (mS σ) else (mS σ)))) (C := RX3) (T := TX3) (N := 33) hx hb hts hi3 hown hK hP 0 rfl rfl 15 (by decide) k1 (fun _ h9 => h9) rfl dX3_image_12 ?_
  exact W.iret (v := (sAsked (if (1 : Int32) = 0 then loadS (kKept (mK σ)) (92 * (0 : Int32)) (mS σ) else (mS σ)))) hx hb hr (fun t ht hW => ⟨⟨(sAsked (if (1 : Int32) = 0 then loadS (kKept (mK σ)) (92 * (0 : Int32)) (mS σ) else (mS σ))), ((if (1 : Int32) = 0 then loadS (kKept (mK σ)) (92 * (0 : Int32)) (mS σ) else (mS σ)), (mT σ), ((if (1 : Int32) = 0 then (kKept (mK σ)) else saveS (kKept (mK σ)) (92 * (0 : Int32)) (mS σ), 1, (1 : Int32), 92 * (0 : Int32) + 92)), (mF σ), (mRow σ), (mRowMany σ), (mLots σ), (mRefused σ)), rfl, hv, P_at ht hP⟩, hS.F ht⟩) hS.2.2 dX3_image_15

set_option maxHeartbeats 4000000 in
set_option maxRecDepth 100000 in
theorem m_X3_on (l : Launch) (h_X3_no : C_X3_no l) (h_X3_passesAll : C_X3_passesAll l) (g : CX) (ad : Nat → Nat) (σ : KM)  (Post : Int32 → KM → Prop) (hv : vc_X3_on σ Post) : Met l yX3_on wsX3_on { frames := 2, cells := 0, slots := 0, locals := 44 } (va_Pc [.ref (ad 0)] (RW g (AD ad 0 21) (wM g ad σ))) (va_Qi (fun (r : Int32) (u : KM) => Post r u) (fun u t => va_P (gD g) vwCl (wM g ad u) t.heap) (AD ad 0 21)) 0 0 (AD ad 0 21) := by
  unfold vc_X3_on at hv
  refine Met.ofW (cc := cX3_on) (maxL := 1) (ret := (some .int)) (by decide) rfl ?_
  intro p e s m args below meth c s₁ B hml hv0
  obtain ⟨rfl, hP, hK, hE, hD⟩ := hv0
  have hx := B.exec
  have hb := B.bytes
  have hr := B.returns
  have hts := atoms_spec (ws := wsX3_on) B.pre
  have hown : s.vm.findClass RX3 = some m.cls := findClass_of_methodNamed B.named
  have hlocks := B.notSynchronized
  have hi3 : ∀ w ∈ wsX30, w ∈ wsX3_on := by decide +kernel
  have k0 := hts (.fieldLink RX3 174 "JuryHearsAnswersModel" "hasImage" "Z") (by decide +kernel)
  have k1 := hts (.fieldLink RX3 127 "JuryHearsAnswersModel" "asked" "I") (by decide +kernel)
  have hS : va_S (AD ad 0 21) s.heap s.heap [] := va_S.rf
  have hP : va_P (gD g) vwCl (wM g ad σ) s.heap := hP
  have hl := lv_entry ([.ref (ad 0)]) (n := 1) (Nat.le_of_ble_eq_true rfl)
  rw [lg_entry_eq]
  generalize (lg_sl ([.ref (ad 0)]) ++ List.replicate (1 - (lg_sl ([.ref (ad 0)])).length) Slot.unset).toArray = ls at hl ⊢
  have hl : lv_has ls 1 [(0, .ref (ad 0))] := hl
  obtain ⟨H, hH⟩ : ∃ z, z = s.heap := ⟨_, rfl⟩
  obtain ⟨locs, hL⟩ : ∃ z : List Loc, z = [] := ⟨_, rfl⟩
  rw [← hL] at hS ⊢
  have hS : va_S (AD ad 0 21) s.heap H locs := by rw [hH]; exact hS
  rw [← hH] at hP ⊢
  clear hH hL
  refine lv_aload_n hx hb dX3_on_0 rfl (lv_at hl 0 rfl) ?_
  refine va_get (D := gD g) (ci := 3) (v := .int (kHas (mK σ))) (C := RX3) (T := TX3) (N := 33) hx hb hts hi3 hown hK hP 0 rfl rfl 24 (by decide) k0 (fun _ h9 => h9) rfl dX3_on_1 ?_
  refine lv_if_ne (tgt := 14) hx hb dX3_on_4 (by decide) (fun c4 => ?_) (fun c4 => ?_)
  · have hv := hv.1 c4
    refine lv_aload_n hx hb dX3_on_14 rfl (lv_at hl 0 rfl) ?_
    refine lv_iconst (v := 0) hx hb dX3_on_15 (by decide) ?_
    refine lv_iconst (v := 0) hx hb dX3_on_16 (by decide) ?_
    have h8 := hv.1
    have hv := hv.2
    have hPc := hP
    have hDc := hD
    refine rw_void (va_runV (As := [.int 0, .int 0]) (rest := []) ⟨hx, hb, hml, hown, hts⟩ (h_X3_passesAll g ad σ 0 0 h8) (cwV 2 hts gX3_on_X3_passesAll rfl rfl rfl (by decide +kernel) ⟨Nat.le_of_ble_eq_true rfl, Nat.le_of_ble_eq_true rfl⟩) ⟨RW_blind, va_recv hK hP (ci := 3) (q0 := 0) rfl rfl, fun U hU hW => ⟨rfl, by rw [hU]; exact hPc, va_K.moved hW.alike hK, hE.call hW hU hS (fun _ h => h), hDc⟩⟩ rfl rfl hl.1 rfl (lv_room (Nat.le_of_ble_eq_true rfl)) dX3_on_17 ⟨Nat.le_of_ble_eq_true rfl, Nat.le_of_ble_eq_true rfl⟩) hS (fun _ h => h) (fun u H1 locs hw hP1 hk hS => ?_)
    subst u
    have hP := hP1
    generalize H1 = H at hP hS ⊢
    have hP : va_P (gD g) vwCl (wM g ad ((if (0 : Int32) = 0 then loadS (kKept (mK σ)) (92 * (0 : Int32)) (mS σ) else mS σ), (mT σ), ((if (0 : Int32) = 0 then kKept (mK σ) else saveS (kKept (mK σ)) (92 * (0 : Int32)) (mS σ), kHas (mK σ), (0 : Int32), 92 * (0 : Int32) + 92)), (mF σ), (mRow σ), (mRowMany σ), (mLots σ), (mRefused σ))) H := hP
    have hD : va_D (AD ad 0 21) (wM g ad ((if (0 : Int32) = 0 then loadS (kKept (mK σ)) (92 * (0 : Int32)) (mS σ) else mS σ), (mT σ), ((if (0 : Int32) = 0 then kKept (mK σ) else saveS (kKept (mK σ)) (92 * (0 : Int32)) (mS σ), kHas (mK σ), (0 : Int32), 92 * (0 : Int32) + 92)), (mF σ), (mRow σ), (mRowMany σ), (mLots σ), (mRefused σ))) := hD.addr (by rfl)
    refine lv_aload_n hx hb dX3_on_20 rfl (lv_at hl 0 rfl) ?_
    refine va_get (D := gD g) (ci := 3) (v := .int (sAsked (if (0 : Int32) = 0 then loadS (kKept (mK σ)) (92 * (0 : Int32)) (mS σ) else mS σ))) (C := RX3) (T := TX3) (N := 33) hx hb hts hi3 hown hK hP 0 rfl rfl 15 (by decide) k1 (fun _ h9 => h9) rfl dX3_on_21 ?_
    exact W.iret (v := (sAsked (if (0 : Int32) = 0 then loadS (kKept (mK σ)) (92 * (0 : Int32)) (mS σ) else mS σ))) hx hb hr (fun t ht hW => ⟨⟨(sAsked (if (0 : Int32) = 0 then loadS (kKept (mK σ)) (92 * (0 : Int32)) (mS σ) else mS σ)), ((if (0 : Int32) = 0 then loadS (kKept (mK σ)) (92 * (0 : Int32)) (mS σ) else mS σ), (mT σ), ((if (0 : Int32) = 0 then kKept (mK σ) else saveS (kKept (mK σ)) (92 * (0 : Int32)) (mS σ), kHas (mK σ), (0 : Int32), 92 * (0 : Int32) + 92)), (mF σ), (mRow σ), (mRowMany σ), (mLots σ), (mRefused σ)), rfl, hv, P_at ht hP⟩, hS.F ht⟩) hS.2.2 dX3_on_24
  · have hv := hv.2 c4
    refine lv_aload_n hx hb dX3_on_7 rfl (lv_at hl 0 rfl) ?_
    refine lv_bipush (v := (-3)) hx hb dX3_on_8 (by decide) ?_
    have h8 := hv.1
    have hv := hv.2
    have hPc := hP
    have hDc := hD
    refine rw_int (va_runV (As := [.int (-3)]) (rest := []) ⟨hx, hb, hml, hown, hts⟩ (h_X3_no g ad σ (-3) h8) (cwV 1 hts gX3_on_X3_no rfl rfl rfl (by decide +kernel) ⟨Nat.le_of_ble_eq_true rfl, Nat.le_of_ble_eq_true rfl⟩) ⟨RW_blind, va_recv hK hP (ci := 3) (q0 := 0) rfl rfl, fun U hU hW => ⟨rfl, by rw [hU]; exact hPc, va_K.moved hW.alike hK, hE.call hW hU hS (fun _ h => h), hDc⟩⟩ rfl rfl hl.1 rfl (lv_room (Nat.le_of_ble_eq_true rfl)) dX3_on_10 ⟨Nat.le_of_ble_eq_true rfl, Nat.le_of_ble_eq_true rfl⟩) hS (fun _ h => h) (fun r u H1 locs hw hP1 hk hS => ?_)
    obtain ⟨hw1, hw⟩ := hw; subst r; subst u
    have hP := hP1
    generalize H1 = H at hP hS ⊢
    have hP : va_P (gD g) vwCl (wM g ad ((mS σ), (mT σ), (mK σ), (mF σ), (mRow σ), (mRowMany σ), (mLots σ), (refuX (mRefused σ) ((-3) : Int32)))) H := hP
    have hD : va_D (AD ad 0 21) (wM g ad ((mS σ), (mT σ), (mK σ), (mF σ), (mRow σ), (mRowMany σ), (mLots σ), (refuX (mRefused σ) ((-3) : Int32)))) := hD.addr (by rfl)
    exact W.iret (v := (((-3) : Int32))) hx hb hr (fun t ht hW => ⟨⟨(((-3) : Int32)), ((mS σ), (mT σ), (mK σ), (mF σ), (mRow σ), (mRowMany σ), (mLots σ), (refuX (mRefused σ) ((-3) : Int32))), rfl, hv, P_at ht hP⟩, hS.F ht⟩) hS.2.2 dX3_on_13

