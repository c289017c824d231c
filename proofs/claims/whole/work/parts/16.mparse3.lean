set_option maxHeartbeats 4000000 in
set_option maxRecDepth 100000 in
theorem m_X3_passesAll (l : Launch) (h_X3_passOne : C_X3_passOne l) (h_X3_passes_10 : C_X3_passes_10 l) (h_X3_passes_11 : C_X3_passes_11 l) (h_X3_passes_2 : C_X3_passes_2 l) (h_X3_passes_3 : C_X3_passes_3 l) (h_X3_passes_4 : C_X3_passes_4 l) (h_X3_passes_5 : C_X3_passes_5 l) (h_X3_passes_6 : C_X3_passes_6 l) (h_X3_passes_7 : C_X3_passes_7 l) (h_X3_passes_8 : C_X3_passes_8 l) (h_X3_passes_9 : C_X3_passes_9 l) (g : CX) (ad : Nat → Nat) (σ : KM) (p0 : Int32) (p1 : Int32) (Post : KM → Prop) (hv : vc_X3_passesAll σ p0 p1 Post) : Met l yX3_passesAll wsX3_passesAll { frames := 1, cells := 0, slots := 0, locals := 22 } (va_Pc [.ref (ad 0), .int p0, .int p1] (RW g (AD ad 0 21) (wM g ad σ))) (va_Qv (fun (u : KM) => Post u) (fun u t => va_P (gD g) vwCl (wM g ad u) t.heap) (AD ad 0 21)) 0 0 (AD ad 0 21) := by
  unfold vc_X3_passesAll at hv
  refine Met.ofW (cc := cX3_passesAll) (maxL := 3) (ret := none) (by decide) rfl ?_
  intro p e s m args below meth c s₁ B hml hv0
  obtain ⟨rfl, hP, hK, hE, hD⟩ := hv0
  have hx := B.exec
  have hb := B.bytes
  have hr := B.returns
  have hts := atoms_spec (ws := wsX3_passesAll) B.pre
  have hown : s.vm.findClass RX3 = some m.cls := findClass_of_methodNamed B.named
  have hlocks := B.notSynchronized
  have hi3 : ∀ w ∈ wsX30, w ∈ wsX3_passesAll := by decide +kernel
  have k0 := hts (.fieldLink RX3 164 "JuryHearsAnswersModel" "cursor" "I") (by decide +kernel)
  have k1 := hts (.fieldLink RX3 160 "JuryHearsAnswersModel" "isKeeping" "Z") (by decide +kernel)
  have k2 := hts (.fieldLink RX3 13 "JuryHearsAnswersModel" "form" "[I") (by decide +kernel)
  have k3 := hts (.fieldLink RX3 16 "JuryHearsAnswersModel" "first" "[I") (by decide +kernel)
  have k4 := hts (.fieldLink RX3 19 "JuryHearsAnswersModel" "second" "[I") (by decide +kernel)
  have k5 := hts (.fieldLink RX3 22 "JuryHearsAnswersModel" "kind" "[I") (by decide +kernel)
  have k6 := hts (.fieldLink RX3 25 "JuryHearsAnswersModel" "figure" "[I") (by decide +kernel)
  have k7 := hts (.fieldLink RX3 28 "JuryHearsAnswersModel" "knows" "[I") (by decide +kernel)
  have k8 := hts (.fieldLink RX3 31 "JuryHearsAnswersModel" "whom" "[I") (by decide +kernel)
  have k9 := hts (.fieldLink RX3 34 "JuryHearsAnswersModel" "what" "[I") (by decide +kernel)
  have k10 := hts (.fieldLink RX3 37 "JuryHearsAnswersModel" "said" "[I") (by decide +kernel)
  have k11 := hts (.fieldLink RX3 40 "JuryHearsAnswersModel" "when" "[I") (by decide +kernel)
  have k12 := hts (.fieldLink RX3 134 "JuryHearsAnswersModel" "theCase" "I") (by decide +kernel)
  have k13 := hts (.fieldLink RX3 70 "JuryHearsAnswersModel" "questions" "I") (by decide +kernel)
  have k14 := hts (.fieldLink RX3 76 "JuryHearsAnswersModel" "witnesses" "I") (by decide +kernel)
  have k15 := hts (.fieldLink RX3 146 "JuryHearsAnswersModel" "heard" "I") (by decide +kernel)
  have k16 := hts (.fieldLink RX3 127 "JuryHearsAnswersModel" "asked" "I") (by decide +kernel)
  have hS : va_S (AD ad 0 21) s.heap s.heap [] := va_S.rf
  have hP : va_P (gD g) vwCl (wM g ad σ) s.heap := hP
  have hl := lv_entry ([.ref (ad 0), .int p0, .int p1]) (n := 3) (Nat.le_of_ble_eq_true rfl)
  rw [lg_entry_eq]
  generalize (lg_sl ([.ref (ad 0), .int p0, .int p1]) ++ List.replicate (3 - (lg_sl ([.ref (ad 0), .int p0, .int p1])).length) Slot.unset).toArray = ls at hl ⊢
  have hl : lv_has ls 3 [(0, .ref (ad 0)), (1, .int p0), (2, .int p1)] := hl
  obtain ⟨H, hH⟩ : ∃ z, z = s.heap := ⟨_, rfl⟩
  obtain ⟨locs, hL⟩ : ∃ z : List Loc, z = [] := ⟨_, rfl⟩
  rw [← hL] at hS ⊢
  have hS : va_S (AD ad 0 21) s.heap H locs := by rw [hH]; exact hS
  rw [← hH] at hP ⊢
  clear hH hL
  refine lv_aload_n hx hb dX3_passesAll_0 rfl (lv_at hl 0 rfl) ?_
  refine lv_bipush (v := 92) hx hb dX3_passesAll_1 (by decide) ?_
  refine lv_iload_n hx hb dX3_passesAll_3 rfl (lv_at hl 1 rfl) ?_
  refine lv_imul hx hb dX3_passesAll_4 ?_
  refine va_put (D := gD g) (ci := 3) (v := .int (92 * p0)) (ty := .int) (C := RX3) (T := TX3) (N := 33) hx hb hts hi3 tyX3 tyX3_ok nmX3 hown hK hP hD hS 0 rfl rfl 26 (by decide) k0 (fun _ h9 => h9) rfl (by decide +kernel) rfl rfl (Nat.le_of_ble_eq_true rfl) dX3_passesAll_5 (fun H locs hP hD hS => ?_)
  have hP : va_P (gD g) vwCl (wM g ad ((mS σ), (mT σ), ((kKept (mK σ)), (kHas (mK σ)), (kKeep (mK σ)), (92 * p0)), (mF σ), (mRow σ), (mRowMany σ), (mLots σ), (mRefused σ))) H := hP
  have hD : va_D (AD ad 0 21) (wM g ad ((mS σ), (mT σ), ((kKept (mK σ)), (kHas (mK σ)), (kKeep (mK σ)), (92 * p0)), (mF σ), (mRow σ), (mRowMany σ), (mLots σ), (mRefused σ))) := hD
  refine lv_aload_n hx hb dX3_passesAll_8 rfl (lv_at hl 0 rfl) ?_
  refine lv_iload_n hx hb dX3_passesAll_9 rfl (lv_at hl 2 rfl) ?_
  have hn := hv.1
  have hv := hv.2
  refine va_put (D := gD g) (ci := 3) (v := .int p1) (ty := .boolean) (C := RX3) (T := TX3) (N := 33) hx hb hts hi3 tyX3 tyX3_ok nmX3 hown hK hP hD hS 0 rfl rfl 25 (by decide) k1 (fun _ h9 => h9) rfl (by decide +kernel) hn.1 hn.2 (Nat.le_of_ble_eq_true rfl) dX3_passesAll_10 (fun H locs hP hD hS => ?_)
  have hP : va_P (gD g) vwCl (wM g ad ((mS σ), (mT σ), ((kKept (mK σ)), (kHas (mK σ)), p1, (92 * p0)), (mF σ), (mRow σ), (mRowMany σ), (mLots σ), (mRefused σ))) H := hP
  have hD : va_D (AD ad 0 21) (wM g ad ((mS σ), (mT σ), ((kKept (mK σ)), (kHas (mK σ)), p1, (92 * p0)), (mF σ), (mRow σ), (mRowMany σ), (mLots σ), (mRefused σ))) := hD
  refine lv_aload_n hx hb dX3_passesAll_13 rfl (lv_at hl 0 rfl) ?_
  refine lv_aload_n hx hb dX3_passesAll_14 rfl (lv_at hl 0 rfl) ?_
  refine va_get (D := gD g) (ci := 3) (v := .ref (ad 2)) (C := RX3) (T := TX3) (N := 33) hx hb hts hi3 hown hK hP 0 rfl rfl 1 (by decide) k2 (fun _ h9 => h9) rfl dX3_passesAll_15 ?_
  have h8 := hv.1
  have hv := hv.2
  have hPc := hP
  have hDc := hD
  refine rw_void (va_runV (As := [.ref (ad 2)]) (rest := []) ⟨hx, hb, hml, hown, hts⟩ (h_X3_passes_2 g ad ((mS σ), (mT σ), ((kKept (mK σ)), (kHas (mK σ)), p1, (92 * p0)), (mF σ), (mRow σ), (mRowMany σ), (mLots σ), (mRefused σ)) h8) (cwV 1 hts gX3_passesAll_X3_passes rfl rfl rfl (by decide +kernel) ⟨Nat.le_of_ble_eq_true rfl, Nat.le_of_ble_eq_true rfl⟩) ⟨RW_blind, va_recv hK hP (ci := 3) (q0 := 0) rfl rfl, fun U hU hW => ⟨rfl, by rw [hU]; exact hPc, va_K.moved hW.alike hK, hE.call hW hU hS (fun _ h => h), hDc⟩⟩ rfl rfl hl.1 rfl (lv_room (Nat.le_of_ble_eq_true rfl)) dX3_passesAll_18 ⟨Nat.le_of_ble_eq_true rfl, Nat.le_of_ble_eq_true rfl⟩) hS (fun _ h => h) (fun u H1 locs hw hP1 hk hS => ?_)
  obtain ⟨u18, hun⟩ : ∃ z, z = u := ⟨_, rfl⟩
  subst u
  have hv := hv u18 hw
  have hP := hP1
  generalize H1 = H at hP hS ⊢
  have hP : va_P (gD g) vwCl (wM g ad u18) H := hP
  have hD : va_D (AD ad 0 21) (wM g ad u18) := hD.addr (by rfl)
  refine lv_aload_n hx hb dX3_passesAll_21 rfl (lv_at hl 0 rfl) ?_
  refine lv_aload_n hx hb dX3_passesAll_22 rfl (lv_at hl 0 rfl) ?_
  refine va_get (D := gD g) (ci := 3) (v := .ref (ad 3)) (C := RX3) (T := TX3) (N := 33) hx hb hts hi3 hown hK hP 0 rfl rfl 2 (by decide) k3 (fun _ h9 => h9) rfl dX3_passesAll_23 ?_
  have h8 := hv.1
  have hv := hv.2
  have hPc := hP
  have hDc := hD
  refine rw_void (va_runV (As := [.ref (ad 3)]) (rest := []) ⟨hx, hb, hml, hown, hts⟩ (h_X3_passes_3 g ad u18 h8) (cwV 1 hts gX3_passesAll_X3_passes rfl rfl rfl (by decide +kernel) ⟨Nat.le_of_ble_eq_true rfl, Nat.le_of_ble_eq_true rfl⟩) ⟨RW_blind, va_recv hK hP (ci := 3) (q0 := 0) rfl rfl, fun U hU hW => ⟨rfl, by rw [hU]; exact hPc, va_K.moved hW.alike hK, hE.call hW hU hS (fun _ h => h), hDc⟩⟩ rfl rfl hl.1 rfl (lv_room (Nat.le_of_ble_eq_true rfl)) dX3_passesAll_26 ⟨Nat.le_of_ble_eq_true rfl, Nat.le_of_ble_eq_true rfl⟩) hS (fun _ h => h) (fun u H1 locs hw hP1 hk hS => ?_)
  obtain ⟨u26, hun⟩ : ∃ z, z = u := ⟨_, rfl⟩
  subst u
  have hv := hv u26 hw
  have hP := hP1
  generalize H1 = H at hP hS ⊢
  have hP : va_P (gD g) vwCl (wM g ad u26) H := hP
  have hD : va_D (AD ad 0 21) (wM g ad u26) := hD.addr (by rfl)
  refine lv_aload_n hx hb dX3_passesAll_29 rfl (lv_at hl 0 rfl) ?_
  refine lv_aload_n hx hb dX3_passesAll_30 rfl (lv_at hl 0 rfl) ?_
  refine va_get (D := gD g) (ci := 3) (v := .ref (ad 4)) (C := RX3) (T := TX3) (N := 33) hx hb hts hi3 hown hK hP 0 rfl rfl 3 (by decide) k4 (fun _ h9 => h9) rfl dX3_passesAll_31 ?_
  have h8 := hv.1
  have hv := hv.2
  have hPc := hP
  have hDc := hD
  refine rw_void (va_runV (As := [.ref (ad 4)]) (rest := []) ⟨hx, hb, hml, hown, hts⟩ (h_X3_passes_4 g ad u26 h8) (cwV 1 hts gX3_passesAll_X3_passes rfl rfl rfl (by decide +kernel) ⟨Nat.le_of_ble_eq_true rfl, Nat.le_of_ble_eq_true rfl⟩) ⟨RW_blind, va_recv hK hP (ci := 3) (q0 := 0) rfl rfl, fun U hU hW => ⟨rfl, by rw [hU]; exact hPc, va_K.moved hW.alike hK, hE.call hW hU hS (fun _ h => h), hDc⟩⟩ rfl rfl hl.1 rfl (lv_room (Nat.le_of_ble_eq_true rfl)) dX3_passesAll_34 ⟨Nat.le_of_ble_eq_true rfl, Nat.le_of_ble_eq_true rfl⟩) hS (fun _ h => h) (fun u H1 locs hw hP1 hk hS => ?_)
  obtain ⟨u34, hun⟩ : ∃ z, z = u := ⟨_, rfl⟩
  subst u
  have hv := hv u34 hw
  have hP := hP1
  generalize H1 = H at hP hS ⊢
  have hP : va_P (gD g) vwCl (wM g ad u34) H := hP
  have hD : va_D (AD ad 0 21) (wM g ad u34) := hD.addr (by rfl)
  refine lv_aload_n hx hb dX3_passesAll_37 rfl (lv_at hl 0 rfl) ?_
  refine lv_aload_n hx hb dX3_passesAll_38 rfl (lv_at hl 0 rfl) ?_
  refine va_get (D := gD g) (ci := 3) (v := .ref (ad 5)) (C := RX3) (T := TX3) (N := 33) hx hb hts hi3 hown hK hP 0 rfl rfl 4 (by decide) k5 (fun _ h9 => h9) rfl dX3_passesAll_39 ?_
  have h8 := hv.1
  have hv := hv.2
  have hPc := hP
  have hDc := hD
  refine rw_void (va_runV (As := [.ref (ad 5)]) (rest := []) ⟨hx, hb, hml, hown, hts⟩ (h_X3_passes_5 g ad u34 h8) (cwV 1 hts gX3_passesAll_X3_passes rfl rfl rfl (by decide +kernel) ⟨Nat.le_of_ble_eq_true rfl, Nat.le_of_ble_eq_true rfl⟩) ⟨RW_blind, va_recv hK hP (ci := 3) (q0 := 0) rfl rfl, fun U hU hW => ⟨rfl, by rw [hU]; exact hPc, va_K.moved hW.alike hK, hE.call hW hU hS (fun _ h => h), hDc⟩⟩ rfl rfl hl.1 rfl (lv_room (Nat.le_of_ble_eq_true rfl)) dX3_passesAll_42 ⟨Nat.le_of_ble_eq_true rfl, Nat.le_of_ble_eq_true rfl⟩) hS (fun _ h => h) (fun u H1 locs hw hP1 hk hS => ?_)
  obtain ⟨u42, hun⟩ : ∃ z, z = u := ⟨_, rfl⟩
  subst u
  have hv := hv u42 hw
  have hP := hP1
  generalize H1 = H at hP hS ⊢
  have hP : va_P (gD g) vwCl (wM g ad u42) H := hP
  have hD : va_D (AD ad 0 21) (wM g ad u42) := hD.addr (by rfl)
  refine lv_aload_n hx hb dX3_passesAll_45 rfl (lv_at hl 0 rfl) ?_
  refine lv_aload_n hx hb dX3_passesAll_46 rfl (lv_at hl 0 rfl) ?_
  refine va_get (D := gD g) (ci := 3) (v := .ref (ad 6)) (C := RX3) (T := TX3) (N := 33) hx hb hts hi3 hown hK hP 0 rfl rfl 5 (by decide) k6 (fun _ h9 => h9) rfl dX3_passesAll_47 ?_
  have h8 := hv.1
  have hv := hv.2
  have hPc := hP
  have hDc := hD
  refine rw_void (va_runV (As := [.ref (ad 6)]) (rest := []) ⟨hx, hb, hml, hown, hts⟩ (h_X3_passes_6 g ad u42 h8) (cwV 1 hts gX3_passesAll_X3_passes rfl rfl rfl (by decide +kernel) ⟨Nat.le_of_ble_eq_true rfl, Nat.le_of_ble_eq_true rfl⟩) ⟨RW_blind, va_recv hK hP (ci := 3) (q0 := 0) rfl rfl, fun U hU hW => ⟨rfl, by rw [hU]; exact hPc, va_K.moved hW.alike hK, hE.call hW hU hS (fun _ h => h), hDc⟩⟩ rfl rfl hl.1 rfl (lv_room (Nat.le_of_ble_eq_true rfl)) dX3_passesAll_50 ⟨Nat.le_of_ble_eq_true rfl, Nat.le_of_ble_eq_true rfl⟩) hS (fun _ h => h) (fun u H1 locs hw hP1 hk hS => ?_)
  obtain ⟨u50, hun⟩ : ∃ z, z = u := ⟨_, rfl⟩
  subst u
  have hv := hv u50 hw
  have hP := hP1
  generalize H1 = H at hP hS ⊢
  have hP : va_P (gD g) vwCl (wM g ad u50) H := hP
  have hD : va_D (AD ad 0 21) (wM g ad u50) := hD.addr (by rfl)
  refine lv_aload_n hx hb dX3_passesAll_53 rfl (lv_at hl 0 rfl) ?_
  refine lv_aload_n hx hb dX3_passesAll_54 rfl (lv_at hl 0 rfl) ?_
  refine va_get (D := gD g) (ci := 3) (v := .ref (ad 7)) (C := RX3) (T := TX3) (N := 33) hx hb hts hi3 hown hK hP 0 rfl rfl 6 (by decide) k7 (fun _ h9 => h9) rfl dX3_passesAll_55 ?_
  have h8 := hv.1
  have hv := hv.2
  have hPc := hP
  have hDc := hD
  refine rw_void (va_runV (As := [.ref (ad 7)]) (rest := []) ⟨hx, hb, hml, hown, hts⟩ (h_X3_passes_7 g ad u50 h8) (cwV 1 hts gX3_passesAll_X3_passes rfl rfl rfl (by decide +kernel) ⟨Nat.le_of_ble_eq_true rfl, Nat.le_of_ble_eq_true rfl⟩) ⟨RW_blind, va_recv hK hP (ci := 3) (q0 := 0) rfl rfl, fun U hU hW => ⟨rfl, by rw [hU]; exact hPc, va_K.moved hW.alike hK, hE.call hW hU hS (fun _ h => h), hDc⟩⟩ rfl rfl hl.1 rfl (lv_room (Nat.le_of_ble_eq_true rfl)) dX3_passesAll_58 ⟨Nat.le_of_ble_eq_true rfl, Nat.le_of_ble_eq_true rfl⟩) hS (fun _ h => h) (fun u H1 locs hw hP1 hk hS => ?_)
  obtain ⟨u58, hun⟩ : ∃ z, z = u := ⟨_, rfl⟩
  subst u
  have hv := hv u58 hw
  have hP := hP1
  generalize H1 = H at hP hS ⊢
  have hP : va_P (gD g) vwCl (wM g ad u58) H := hP
  have hD : va_D (AD ad 0 21) (wM g ad u58) := hD.addr (by rfl)
  refine lv_aload_n hx hb dX3_passesAll_61 rfl (lv_at hl 0 rfl) ?_
  refine lv_aload_n hx hb dX3_passesAll_62 rfl (lv_at hl 0 rfl) ?_
  refine va_get (D := gD g) (ci := 3) (v := .ref (ad 8)) (C := RX3) (T := TX3) (N := 33) hx hb hts hi3 hown hK hP 0 rfl rfl 7 (by decide) k8 (fun _ h9 => h9) rfl dX3_passesAll_63 ?_
  have h8 := hv.1
  have hv := hv.2
  have hPc := hP
  have hDc := hD
  refine rw_void (va_runV (As := [.ref (ad 8)]) (rest := []) ⟨hx, hb, hml, hown, hts⟩ (h_X3_passes_8 g ad u58 h8) (cwV 1 hts gX3_passesAll_X3_passes rfl rfl rfl (by decide +kernel) ⟨Nat.le_of_ble_eq_true rfl, Nat.le_of_ble_eq_true rfl⟩) ⟨RW_blind, va_recv hK hP (ci := 3) (q0 := 0) rfl rfl, fun U hU hW => ⟨rfl, by rw [hU]; exact hPc, va_K.moved hW.alike hK, hE.call hW hU hS (fun _ h => h), hDc⟩⟩ rfl rfl hl.1 rfl (lv_room (Nat.le_of_ble_eq_true rfl)) dX3_passesAll_66 ⟨Nat.le_of_ble_eq_true rfl, Nat.le_of_ble_eq_true rfl⟩) hS (fun _ h => h) (fun u H1 locs hw hP1 hk hS => ?_)
  obtain ⟨u66, hun⟩ : ∃ z, z = u := ⟨_, rfl⟩
  subst u
  have hv := hv u66 hw
  have hP := hP1
  generalize H1 = H at hP hS ⊢
  have hP : va_P (gD g) vwCl (wM g ad u66) H := hP
  have hD : va_D (AD ad 0 21) (wM g ad u66) := hD.addr (by rfl)
  refine lv_aload_n hx hb dX3_passesAll_69 rfl (lv_at hl 0 rfl) ?_
  refine lv_aload_n hx hb dX3_passesAll_70 rfl (lv_at hl 0 rfl) ?_
  refine va_get (D := gD g) (ci := 3) (v := .ref (ad 9)) (C := RX3) (T := TX3) (N := 33) hx hb hts hi3 hown hK hP 0 rfl rfl 8 (by decide) k9 (fun _ h9 => h9) rfl dX3_passesAll_71 ?_
  have h8 := hv.1
  have hv := hv.2
  have hPc := hP
  have hDc := hD
  refine rw_void (va_runV (As := [.ref (ad 9)]) (rest := []) ⟨hx, hb, hml, hown, hts⟩ (h_X3_passes_9 g ad u66 h8) (cwV 1 hts gX3_passesAll_X3_passes rfl rfl rfl (by decide +kernel) ⟨Nat.le_of_ble_eq_true rfl, Nat.le_of_ble_eq_true rfl⟩) ⟨RW_blind, va_recv hK hP (ci := 3) (q0 := 0) rfl rfl, fun U hU hW => ⟨rfl, by rw [hU]; exact hPc, va_K.moved hW.alike hK, hE.call hW hU hS (fun _ h => h), hDc⟩⟩ rfl rfl hl.1 rfl (lv_room (Nat.le_of_ble_eq_true rfl)) dX3_passesAll_74 ⟨Nat.le_of_ble_eq_true rfl, Nat.le_of_ble_eq_true rfl⟩) hS (fun _ h => h) (fun u H1 locs hw hP1 hk hS => ?_)
  obtain ⟨u74, hun⟩ : ∃ z, z = u := ⟨_, rfl⟩
  subst u
  have hv := hv u74 hw
  have hP := hP1
  generalize H1 = H at hP hS ⊢
  have hP : va_P (gD g) vwCl (wM g ad u74) H := hP
  have hD : va_D (AD ad 0 21) (wM g ad u74) := hD.addr (by rfl)
  refine lv_aload_n hx hb dX3_passesAll_77 rfl (lv_at hl 0 rfl) ?_
  refine lv_aload_n hx hb dX3_passesAll_78 rfl (lv_at hl 0 rfl) ?_
  refine va_get (D := gD g) (ci := 3) (v := .ref (ad 10)) (C := RX3) (T := TX3) (N := 33) hx hb hts hi3 hown hK hP 0 rfl rfl 9 (by decide) k10 (fun _ h9 => h9) rfl dX3_passesAll_79 ?_
  have h8 := hv.1
  have hv := hv.2
  have hPc := hP
  have hDc := hD
  refine rw_void (va_runV (As := [.ref (ad 10)]) (rest := []) ⟨hx, hb, hml, hown, hts⟩ (h_X3_passes_10 g ad u74 h8) (cwV 1 hts gX3_passesAll_X3_passes rfl rfl rfl (by decide +kernel) ⟨Nat.le_of_ble_eq_true rfl, Nat.le_of_ble_eq_true rfl⟩) ⟨RW_blind, va_recv hK hP (ci := 3) (q0 := 0) rfl rfl, fun U hU hW => ⟨rfl, by rw [hU]; exact hPc, va_K.moved hW.alike hK, hE.call hW hU hS (fun _ h => h), hDc⟩⟩ rfl rfl hl.1 rfl (lv_room (Nat.le_of_ble_eq_true rfl)) dX3_passesAll_82 ⟨Nat.le_of_ble_eq_true rfl, Nat.le_of_ble_eq_true rfl⟩) hS (fun _ h => h) (fun u H1 locs hw hP1 hk hS => ?_)
  obtain ⟨u82, hun⟩ : ∃ z, z = u := ⟨_, rfl⟩
  subst u
  have hv := hv u82 hw
  have hP := hP1
  generalize H1 = H at hP hS ⊢
  have hP : va_P (gD g) vwCl (wM g ad u82) H := hP
  have hD : va_D (AD ad 0 21) (wM g ad u82) := hD.addr (by rfl)
  refine lv_aload_n hx hb dX3_passesAll_85 rfl (lv_at hl 0 rfl) ?_
  refine lv_aload_n hx hb dX3_passesAll_86 rfl (lv_at hl 0 rfl) ?_
  refine va_get (D := gD g) (ci := 3) (v := .ref (ad 11)) (C := RX3) (T := TX3) (N := 33) hx hb hts hi3 hown hK hP 0 rfl rfl 10 (by decide) k11 (fun _ h9 => h9) rfl dX3_passesAll_87 ?_
  have h8 := hv.1
  have hv := hv.2
  have hPc := hP
  have hDc := hD
  refine rw_void (va_runV (As := [.ref (ad 11)]) (rest := []) ⟨hx, hb, hml, hown, hts⟩ (h_X3_passes_11 g ad u82 h8) (cwV 1 hts gX3_passesAll_X3_passes rfl rfl rfl (by decide +kernel) ⟨Nat.le_of_ble_eq_true rfl, Nat.le_of_ble_eq_true rfl⟩) ⟨RW_blind, va_recv hK hP (ci := 3) (q0 := 0) rfl rfl, fun U hU hW => ⟨rfl, by rw [hU]; exact hPc, va_K.moved hW.alike hK, hE.call hW hU hS (fun _ h => h), hDc⟩⟩ rfl rfl hl.1 rfl (lv_room (Nat.le_of_ble_eq_true rfl)) dX3_passesAll_90 ⟨Nat.le_of_ble_eq_true rfl, Nat.le_of_ble_eq_true rfl⟩) hS (fun _ h => h) (fun u H1 locs hw hP1 hk hS => ?_)
  obtain ⟨u90, hun⟩ : ∃ z, z = u := ⟨_, rfl⟩
  subst u
  have hv := hv u90 hw
  have hP := hP1
  generalize H1 = H at hP hS ⊢
  have hP : va_P (gD g) vwCl (wM g ad u90) H := hP
  have hD : va_D (AD ad 0 21) (wM g ad u90) := hD.addr (by rfl)
  refine lv_aload_n hx hb dX3_passesAll_93 rfl (lv_at hl 0 rfl) ?_
  refine lv_aload_n hx hb dX3_passesAll_94 rfl (lv_at hl 0 rfl) ?_
  refine lv_aload_n hx hb dX3_passesAll_95 rfl (lv_at hl 0 rfl) ?_
  refine va_get (D := gD g) (ci := 3) (v := .int (sCase (mS u90))) (C := RX3) (T := TX3) (N := 33) hx hb hts hi3 hown hK hP 0 rfl rfl 11 (by decide) k12 (fun _ h9 => h9) rfl dX3_passesAll_96 ?_
  have h8 := hv.1
  have hv := hv.2
  have hPc := hP
  have hDc := hD
  refine rw_int (va_runV (As := [.int (sCase (mS u90))]) (rest := [.ref (ad 0)]) ⟨hx, hb, hml, hown, hts⟩ (h_X3_passOne g ad u90 (sCase (mS u90)) h8) (cwV 1 hts gX3_passesAll_X3_passOne rfl rfl rfl (by decide +kernel) ⟨Nat.le_of_ble_eq_true rfl, Nat.le_of_ble_eq_true rfl⟩) ⟨RW_blind, va_recv hK hP (ci := 3) (q0 := 0) rfl rfl, fun U hU hW => ⟨rfl, by rw [hU]; exact hPc, va_K.moved hW.alike hK, hE.call hW hU hS (fun _ h => h), hDc⟩⟩ rfl rfl hl.1 rfl (lv_room (Nat.le_of_ble_eq_true rfl)) dX3_passesAll_99 ⟨Nat.le_of_ble_eq_true rfl, Nat.le_of_ble_eq_true rfl⟩) hS (fun _ h => h) (fun r u H1 locs hw hP1 hk hS => ?_)
  obtain ⟨hw1, hw⟩ := hw; subst r
  obtain ⟨u99, hun⟩ : ∃ z, z = u := ⟨_, rfl⟩
  subst u
  have hv := hv u99 hw
  have hP := hP1
  generalize H1 = H at hP hS ⊢
  have hP : va_P (gD g) vwCl (wM g ad u99) H := hP
  have hD : va_D (AD ad 0 21) (wM g ad u99) := hD.addr (by rfl)
  refine va_put (D := gD g) (ci := 3) (v := .int (if kKeep (mK u90) = 0 then kKept (mK u90) (kCur (mK u90)).toNatClampNeg else (sCase (mS u90)))) (ty := .int) (C := RX3) (T := TX3) (N := 33) hx hb hts hi3 tyX3 tyX3_ok nmX3 hown hK hP hD hS 0 rfl rfl 11 (by decide) k12 (fun _ h9 => h9) rfl (by decide +kernel) rfl rfl (Nat.le_of_ble_eq_true rfl) dX3_passesAll_102 (fun H locs hP hD hS => ?_)
  have hP : va_P (gD g) vwCl (wM g ad (((if kKeep (mK u90) = 0 then kKept (mK u90) (kCur (mK u90)).toNatClampNeg else (sCase (mS u90))), (sAsked (mS u99)), (sNq (mS u99)), (sNw (mS u99)), (sNh (mS u99)), (sForm (mS u99)), (sFirst (mS u99)), (sSecond (mS u99)), (sKind (mS u99)), (sFigure (mS u99)), (sKnows (mS u99)), (sWhom (mS u99)), (sWhat (mS u99)), (sSaid (mS u99)), (sWhen (mS u99))), (mT u99), (mK u99), (mF u99), (mRow u99), (mRowMany u99), (mLots u99), (mRefused u99))) H := hP
  have hD : va_D (AD ad 0 21) (wM g ad (((if kKeep (mK u90) = 0 then kKept (mK u90) (kCur (mK u90)).toNatClampNeg else (sCase (mS u90))), (sAsked (mS u99)), (sNq (mS u99)), (sNw (mS u99)), (sNh (mS u99)), (sForm (mS u99)), (sFirst (mS u99)), (sSecond (mS u99)), (sKind (mS u99)), (sFigure (mS u99)), (sKnows (mS u99)), (sWhom (mS u99)), (sWhat (mS u99)), (sSaid (mS u99)), (sWhen (mS u99))), (mT u99), (mK u99), (mF u99), (mRow u99), (mRowMany u99), (mLots u99), (mRefused u99))) := hD
  refine lv_aload_n hx hb dX3_passesAll_105 rfl (lv_at hl 0 rfl) ?_
  refine lv_aload_n hx hb dX3_passesAll_106 rfl (lv_at hl 0 rfl) ?_
  refine lv_aload_n hx hb dX3_passesAll_107 rfl (lv_at hl 0 rfl) ?_
  refine va_get (D := gD g) (ci := 3) (v := .int (sNq (mS u99))) (C := RX3) (T := TX3) (N := 33) hx hb hts hi3 hown hK hP 0 rfl rfl 12 (by decide) k13 (fun _ h9 => h9) rfl dX3_passesAll_108 ?_
  have h8 := hv.1
  have hv := hv.2
  have hPc := hP
  have hDc := hD
  refine rw_int (va_runV (As := [.int (sNq (mS u99))]) (rest := [.ref (ad 0)]) ⟨hx, hb, hml, hown, hts⟩ (h_X3_passOne g ad (((if kKeep (mK u90) = 0 then kKept (mK u90) (kCur (mK u90)).toNatClampNeg else (sCase (mS u90))), (sAsked (mS u99)), (sNq (mS u99)), (sNw (mS u99)), (sNh (mS u99)), (sForm (mS u99)), (sFirst (mS u99)), (sSecond (mS u99)), (sKind (mS u99)), (sFigure (mS u99)), (sKnows (mS u99)), (sWhom (mS u99)), (sWhat (mS u99)), (sSaid (mS u99)), (sWhen (mS u99))), (mT u99), (mK u99), (mF u99), (mRow u99), (mRowMany u99), (mLots u99), (mRefused u99)) (sNq (mS u99)) h8) (cwV 1 hts gX3_passesAll_X3_passOne rfl rfl rfl (by decide +kernel) ⟨Nat.le_of_ble_eq_true rfl, Nat.le_of_ble_eq_true rfl⟩) ⟨RW_blind, va_recv hK hP (ci := 3) (q0 := 0) rfl rfl, fun U hU hW => ⟨rfl, by rw [hU]; exact hPc, va_K.moved hW.alike hK, hE.call hW hU hS (fun _ h => h), hDc⟩⟩ rfl rfl hl.1 rfl (lv_room (Nat.le_of_ble_eq_true rfl)) dX3_passesAll_111 ⟨Nat.le_of_ble_eq_true rfl, Nat.le_of_ble_eq_true rfl⟩) hS (fun _ h => h) (fun r u H1 locs hw hP1 hk hS => ?_)
  obtain ⟨hw1, hw⟩ := hw; subst r
  obtain ⟨u111, hun⟩ : ∃ z, z = u := ⟨_, rfl⟩
  subst u
  have hv := hv u111 hw
  have hP := hP1
  generalize H1 = H at hP hS ⊢
  have hP : va_P (gD g) vwCl (wM g ad u111) H := hP
  have hD : va_D (AD ad 0 21) (wM g ad u111) := hD.addr (by rfl)
  refine va_put (D := gD g) (ci := 3) (v := .int (if (kKeep (mK u99)) = 0 then (kKept (mK u99)) (kCur (mK u99)).toNatClampNeg else (sNq (mS u99)))) (ty := .int) (C := RX3) (T := TX3) (N := 33) hx hb hts hi3 tyX3 tyX3_ok nmX3 hown hK hP hD hS 0 rfl rfl 12 (by decide) k13 (fun _ h9 => h9) rfl (by decide +kernel) rfl rfl (Nat.le_of_ble_eq_true rfl) dX3_passesAll_114 (fun H locs hP hD hS => ?_)
  have hP : va_P (gD g) vwCl (wM g ad (((sCase (mS u111)), (sAsked (mS u111)), (if (kKeep (mK u99)) = 0 then (kKept (mK u99)) (kCur (mK u99)).toNatClampNeg else (sNq (mS u99))), (sNw (mS u111)), (sNh (mS u111)), (sForm (mS u111)), (sFirst (mS u111)), (sSecond (mS u111)), (sKind (mS u111)), (sFigure (mS u111)), (sKnows (mS u111)), (sWhom (mS u111)), (sWhat (mS u111)), (sSaid (mS u111)), (sWhen (mS u111))), (mT u111), (mK u111), (mF u111), (mRow u111), (mRowMany u111), (mLots u111), (mRefused u111))) H := hP
  have hD : va_D (AD ad 0 21) (wM g ad (((sCase (mS u111)), (sAsked (mS u111)), (if (kKeep (mK u99)) = 0 then (kKept (mK u99)) (kCur (mK u99)).toNatClampNeg else (sNq (mS u99))), (sNw (mS u111)), (sNh (mS u111)), (sForm (mS u111)), (sFirst (mS u111)), (sSecond (mS u111)), (sKind (mS u111)), (sFigure (mS u111)), (sKnows (mS u111)), (sWhom (mS u111)), (sWhat (mS u111)), (sSaid (mS u111)), (sWhen (mS u111))), (mT u111), (mK u111), (mF u111), (mRow u111), (mRowMany u111), (mLots u111), (mRefused u111))) := hD
  refine lv_aload_n hx hb dX3_passesAll_117 rfl (lv_at hl 0 rfl) ?_
  refine lv_aload_n hx hb dX3_passesAll_118 rfl (lv_at hl 0 rfl) ?_
  refine lv_aload_n hx hb dX3_passesAll_119 rfl (lv_at hl 0 rfl) ?_
  refine va_get (D := gD g) (ci := 3) (v := .int (sNw (mS u111))) (C := RX3) (T := TX3) (N := 33) hx hb hts hi3 hown hK hP 0 rfl rfl 13 (by decide) k14 (fun _ h9 => h9) rfl dX3_passesAll_120 ?_
  have h8 := hv.1
  have hv := hv.2
  have hPc := hP
  have hDc := hD
  refine rw_int (va_runV (As := [.int (sNw (mS u111))]) (rest := [.ref (ad 0)]) ⟨hx, hb, hml, hown, hts⟩ (h_X3_passOne g ad (((sCase (mS u111)), (sAsked (mS u111)), (if (kKeep (mK u99)) = 0 then (kKept (mK u99)) (kCur (mK u99)).toNatClampNeg else (sNq (mS u99))), (sNw (mS u111)), (sNh (mS u111)), (sForm (mS u111)), (sFirst (mS u111)), (sSecond (mS u111)), (sKind (mS u111)), (sFigure (mS u111)), (sKnows (mS u111)), (sWhom (mS u111)), (sWhat (mS u111)), (sSaid (mS u111)), (sWhen (mS u111))), (mT u111), (mK u111), (mF u111), (mRow u111), (mRowMany u111), (mLots u111), (mRefused u111)) (sNw (mS u111)) h8) (cwV 1 hts gX3_passesAll_X3_passOne rfl rfl rfl (by decide +kernel) ⟨Nat.le_of_ble_eq_true rfl, Nat.le_of_ble_eq_true rfl⟩) ⟨RW_blind, va_recv hK hP (ci := 3) (q0 := 0) rfl rfl, fun U hU hW => ⟨rfl, by rw [hU]; exact hPc, va_K.moved hW.alike hK, hE.call hW hU hS (fun _ h => h), hDc⟩⟩ rfl rfl hl.1 rfl (lv_room (Nat.le_of_ble_eq_true rfl)) dX3_passesAll_123 ⟨Nat.le_of_ble_eq_true rfl, Nat.le_of_ble_eq_true rfl⟩) hS (fun _ h => h) (fun r u H1 locs hw hP1 hk hS => ?_)
  obtain ⟨hw1, hw⟩ := hw; subst r
  obtain ⟨u123, hun⟩ : ∃ z, z = u := ⟨_, rfl⟩
  subst u
  have hv := hv u123 hw
  have hP := hP1
  generalize H1 = H at hP hS ⊢
  have hP : va_P (gD g) vwCl (wM g ad u123) H := hP
  have hD : va_D (AD ad 0 21) (wM g ad u123) := hD.addr (by rfl)
  refine va_put (D := gD g) (ci := 3) (v := .int (if (kKeep (mK u111)) = 0 then (kKept (mK u111)) (kCur (mK u111)).toNatClampNeg else (sNw (mS u111)))) (ty := .int) (C := RX3) (T := TX3) (N := 33) hx hb hts hi3 tyX3 tyX3_ok nmX3 hown hK hP hD hS 0 rfl rfl 13 (by decide) k14 (fun _ h9 => h9) rfl (by decide +kernel) rfl rfl (Nat.le_of_ble_eq_true rfl) dX3_passesAll_126 (fun H locs hP hD hS => ?_)
  have hP : va_P (gD g) vwCl (wM g ad (((sCase (mS u123)), (sAsked (mS u123)), (sNq (mS u123)), (if (kKeep (mK u111)) = 0 then (kKept (mK u111)) (kCur (mK u111)).toNatClampNeg else (sNw (mS u111))), (sNh (mS u123)), (sForm (mS u123)), (sFirst (mS u123)), (sSecond (mS u123)), (sKind (mS u123)), (sFigure (mS u123)), (sKnows (mS u123)), (sWhom (mS u123)), (sWhat (mS u123)), (sSaid (mS u123)), (sWhen (mS u123))), (mT u123), (mK u123), (mF u123), (mRow u123), (mRowMany u123), (mLots u123), (mRefused u123))) H := hP
  have hD : va_D (AD ad 0 21) (wM g ad (((sCase (mS u123)), (sAsked (mS u123)), (sNq (mS u123)), (if (kKeep (mK u111)) = 0 then (kKept (mK u111)) (kCur (mK u111)).toNatClampNeg else (sNw (mS u111))), (sNh (mS u123)), (sForm (mS u123)), (sFirst (mS u123)), (sSecond (mS u123)), (sKind (mS u123)), (sFigure (mS u123)), (sKnows (mS u123)), (sWhom (mS u123)), (sWhat (mS u123)), (sSaid (mS u123)), (sWhen (mS u123))), (mT u123), (mK u123), (mF u123), (mRow u123), (mRowMany u123), (mLots u123), (mRefused u123))) := hD
  refine lv_aload_n hx hb dX3_passesAll_129 rfl (lv_at hl 0 rfl) ?_
  refine lv_aload_n hx hb dX3_passesAll_130 rfl (lv_at hl 0 rfl) ?_
  refine lv_aload_n hx hb dX3_passesAll_131 rfl (lv_at hl 0 rfl) ?_
  refine va_get (D := gD g) (ci := 3) (v := .int (sNh (mS u123))) (C := RX3) (T := TX3) (N := 33) hx hb hts hi3 hown hK hP 0 rfl rfl 14 (by decide) k15 (fun _ h9 => h9) rfl dX3_passesAll_132 ?_
  have h8 := hv.1
  have hv := hv.2
  have hPc := hP
  have hDc := hD
  refine rw_int (va_runV (As := [.int (sNh (mS u123))]) (rest := [.ref (ad 0)]) ⟨hx, hb, hml, hown, hts⟩ (h_X3_passOne g ad (((sCase (mS u123)), (sAsked (mS u123)), (sNq (mS u123)), (if (kKeep (mK u111)) = 0 then (kKept (mK u111)) (kCur (mK u111)).toNatClampNeg else (sNw (mS u111))), (sNh (mS u123)), (sForm (mS u123)), (sFirst (mS u123)), (sSecond (mS u123)), (sKind (mS u123)), (sFigure (mS u123)), (sKnows (mS u123)), (sWhom (mS u123)), (sWhat (mS u123)), (sSaid (mS u123)), (sWhen (mS u123))), (mT u123), (mK u123), (mF u123), (mRow u123), (mRowMany u123), (mLots u123), (mRefused u123)) (sNh (mS u123)) h8) (cwV 1 hts gX3_passesAll_X3_passOne rfl rfl rfl (by decide +kernel) ⟨Nat.le_of_ble_eq_true rfl, Nat.le_of_ble_eq_true rfl⟩) ⟨RW_blind, va_recv hK hP (ci := 3) (q0 := 0) rfl rfl, fun U hU hW => ⟨rfl, by rw [hU]; exact hPc, va_K.moved hW.alike hK, hE.call hW hU hS (fun _ h => h), hDc⟩⟩ rfl rfl hl.1 rfl (lv_room (Nat.le_of_ble_eq_true rfl)) dX3_passesAll_135 ⟨Nat.le_of_ble_eq_true rfl, Nat.le_of_ble_eq_true rfl⟩) hS (fun _ h => h) (fun r u H1 locs hw hP1 hk hS => ?_)
  obtain ⟨hw1, hw⟩ := hw; subst r
  obtain ⟨u135, hun⟩ : ∃ z, z = u := ⟨_, rfl⟩
  subst u
  have hv := hv u135 hw
  have hP := hP1
  generalize H1 = H at hP hS ⊢
  have hP : va_P (gD g) vwCl (wM g ad u135) H := hP
  have hD : va_D (AD ad 0 21) (wM g ad u135) := hD.addr (by rfl)
  refine va_put (D := gD g) (ci := 3) (v := .int (if (kKeep (mK u123)) = 0 then (kKept (mK u123)) (kCur (mK u123)).toNatClampNeg else (sNh (mS u123)))) (ty := .int) (C := RX3) (T := TX3) (N := 33) hx hb hts hi3 tyX3 tyX3_ok nmX3 hown hK hP hD hS 0 rfl rfl 14 (by decide) k15 (fun _ h9 => h9) rfl (by decide +kernel) rfl rfl (Nat.le_of_ble_eq_true rfl) dX3_passesAll_138 (fun H locs hP hD hS => ?_)
  have hP : va_P (gD g) vwCl (wM g ad (((sCase (mS u135)), (sAsked (mS u135)), (sNq (mS u135)), (sNw (mS u135)), (if (kKeep (mK u123)) = 0 then (kKept (mK u123)) (kCur (mK u123)).toNatClampNeg else (sNh (mS u123))), (sForm (mS u135)), (sFirst (mS u135)), (sSecond (mS u135)), (sKind (mS u135)), (sFigure (mS u135)), (sKnows (mS u135)), (sWhom (mS u135)), (sWhat (mS u135)), (sSaid (mS u135)), (sWhen (mS u135))), (mT u135), (mK u135), (mF u135), (mRow u135), (mRowMany u135), (mLots u135), (mRefused u135))) H := hP
  have hD : va_D (AD ad 0 21) (wM g ad (((sCase (mS u135)), (sAsked (mS u135)), (sNq (mS u135)), (sNw (mS u135)), (if (kKeep (mK u123)) = 0 then (kKept (mK u123)) (kCur (mK u123)).toNatClampNeg else (sNh (mS u123))), (sForm (mS u135)), (sFirst (mS u135)), (sSecond (mS u135)), (sKind (mS u135)), (sFigure (mS u135)), (sKnows (mS u135)), (sWhom (mS u135)), (sWhat (mS u135)), (sSaid (mS u135)), (sWhen (mS u135))), (mT u135), (mK u135), (mF u135), (mRow u135), (mRowMany u135), (mLots u135), (mRefused u135))) := hD
  refine lv_aload_n hx hb dX3_passesAll_141 rfl (lv_at hl 0 rfl) ?_
  refine lv_aload_n hx hb dX3_passesAll_142 rfl (lv_at hl 0 rfl) ?_
  refine lv_aload_n hx hb dX3_passesAll_143 rfl (lv_at hl 0 rfl) ?_
  refine va_get (D := gD g) (ci := 3) (v := .int (sAsked (mS u135))) (C := RX3) (T := TX3) (N := 33) hx hb hts hi3 hown hK hP 0 rfl rfl 15 (by decide) k16 (fun _ h9 => h9) rfl dX3_passesAll_144 ?_
  have h8 := hv.1
  have hv := hv.2
  have hPc := hP
  have hDc := hD
  refine rw_int (va_runV (As := [.int (sAsked (mS u135))]) (rest := [.ref (ad 0)]) ⟨hx, hb, hml, hown, hts⟩ (h_X3_passOne g ad (((sCase (mS u135)), (sAsked (mS u135)), (sNq (mS u135)), (sNw (mS u135)), (if (kKeep (mK u123)) = 0 then (kKept (mK u123)) (kCur (mK u123)).toNatClampNeg else (sNh (mS u123))), (sForm (mS u135)), (sFirst (mS u135)), (sSecond (mS u135)), (sKind (mS u135)), (sFigure (mS u135)), (sKnows (mS u135)), (sWhom (mS u135)), (sWhat (mS u135)), (sSaid (mS u135)), (sWhen (mS u135))), (mT u135), (mK u135), (mF u135), (mRow u135), (mRowMany u135), (mLots u135), (mRefused u135)) (sAsked (mS u135)) h8) (cwV 1 hts gX3_passesAll_X3_passOne rfl rfl rfl (by decide +kernel) ⟨Nat.le_of_ble_eq_true rfl, Nat.le_of_ble_eq_true rfl⟩) ⟨RW_blind, va_recv hK hP (ci := 3) (q0 := 0) rfl rfl, fun U hU hW => ⟨rfl, by rw [hU]; exact hPc, va_K.moved hW.alike hK, hE.call hW hU hS (fun _ h => h), hDc⟩⟩ rfl rfl hl.1 rfl (lv_room (Nat.le_of_ble_eq_true rfl)) dX3_passesAll_147 ⟨Nat.le_of_ble_eq_true rfl, Nat.le_of_ble_eq_true rfl⟩) hS (fun _ h => h) (fun r u H1 locs hw hP1 hk hS => ?_)
  obtain ⟨hw1, hw⟩ := hw; subst r
  obtain ⟨u147, hun⟩ : ∃ z, z = u := ⟨_, rfl⟩
  subst u
  have hv := hv u147 hw
  have hP := hP1
  generalize H1 = H at hP hS ⊢
  have hP : va_P (gD g) vwCl (wM g ad u147) H := hP
  have hD : va_D (AD ad 0 21) (wM g ad u147) := hD.addr (by rfl)
  refine va_put (D := gD g) (ci := 3) (v := .int (if (kKeep (mK u135)) = 0 then (kKept (mK u135)) (kCur (mK u135)).toNatClampNeg else (sAsked (mS u135)))) (ty := .int) (C := RX3) (T := TX3) (N := 33) hx hb hts hi3 tyX3 tyX3_ok nmX3 hown hK hP hD hS 0 rfl rfl 15 (by decide) k16 (fun _ h9 => h9) rfl (by decide +kernel) rfl rfl (Nat.le_of_ble_eq_true rfl) dX3_passesAll_150 (fun H locs hP hD hS => ?_)
  have hP : va_P (gD g) vwCl (wM g ad (((sCase (mS u147)), (if (kKeep (mK u135)) = 0 then (kKept (mK u135)) (kCur (mK u135)).toNatClampNeg else (sAsked (mS u135))), (sNq (mS u147)), (sNw (mS u147)), (sNh (mS u147)), (sForm (mS u147)), (sFirst (mS u147)), (sSecond (mS u147)), (sKind (mS u147)), (sFigure (mS u147)), (sKnows (mS u147)), (sWhom (mS u147)), (sWhat (mS u147)), (sSaid (mS u147)), (sWhen (mS u147))), (mT u147), (mK u147), (mF u147), (mRow u147), (mRowMany u147), (mLots u147), (mRefused u147))) H := hP
  have hD : va_D (AD ad 0 21) (wM g ad (((sCase (mS u147)), (if (kKeep (mK u135)) = 0 then (kKept (mK u135)) (kCur (mK u135)).toNatClampNeg else (sAsked (mS u135))), (sNq (mS u147)), (sNw (mS u147)), (sNh (mS u147)), (sForm (mS u147)), (sFirst (mS u147)), (sSecond (mS u147)), (sKind (mS u147)), (sFigure (mS u147)), (sKnows (mS u147)), (sWhom (mS u147)), (sWhat (mS u147)), (sSaid (mS u147)), (sWhen (mS u147))), (mT u147), (mK u147), (mF u147), (mRow u147), (mRowMany u147), (mLots u147), (mRefused u147))) := hD
  exact W.vret hx hb hr (fun t ht hW => ⟨⟨(((sCase (mS u147)), (if (kKeep (mK u135)) = 0 then (kKept (mK u135)) (kCur (mK u135)).toNatClampNeg else (sAsked (mS u135))), (sNq (mS u147)), (sNw (mS u147)), (sNh (mS u147)), (sForm (mS u147)), (sFirst (mS u147)), (sSecond (mS u147)), (sKind (mS u147)), (sFigure (mS u147)), (sKnows (mS u147)), (sWhom (mS u147)), (sWhat (mS u147)), (sSaid (mS u147)), (sWhen (mS u147))), (mT u147), (mK u147), (mF u147), (mRow u147), (mRowMany u147), (mLots u147), (mRefused u147)), rfl, hv, P_at ht hP⟩, hS.F ht⟩) hS.2.2 dX3_passesAll_153

set_option maxHeartbeats 4000000 in
set_option maxRecDepth 100000 in
theorem m_X3_image (l : Launch) (h_X3_passesAll : C_X3_passesAll l) (g : CX) (ad : Nat → Nat) (σ : KM)  (Post : Int32 → KM → Prop) (hv : vc_X3_image σ Post) : Met l yX3_image wsX3_image { frames := 2, cells := 0, slots := 0, locals := 44 } (va_Pc [.ref (ad 0)] (RW g (AD ad 0 21) (wM g ad σ))) (va_Qi (fun (r : Int32) (u : KM) => Post r u) (fun u t => va_P (gD g) vwCl (wM g ad u) t.heap) (AD ad 0 21)) 0 0 (AD ad 0 21) := by
  unfold vc_X3_image at hv
  refine Met.ofW (cc := cX3_image) (maxL := 1) (ret := (some .int)) (by decide) rfl ?_
  intro p e s m args below meth c s₁ B hml hv0
  obtain ⟨rfl, hP, hK, hE, hD⟩ := hv0
  have hx := B.exec
  have hb := B.bytes
  have hr := B.returns
  have hts := atoms_spec (ws := wsX3_image) B.pre
  have hown : s.vm.findClass RX3 = some m.cls := findClass_of_methodNamed B.named
  have hlocks := B.notSynchronized
  have hi3 : ∀ w ∈ wsX30, w ∈ wsX3_image := by decide +kernel
  have k0 := hts (.fieldLink RX3 174 "JuryHearsAnswersModel" "hasImage" "Z") (by decide +kernel)
  have k1 := hts (.fieldLink RX3 127 "JuryHearsAnswersModel" "asked" "I") (by decide +kernel)
  have hS : va_S (AD ad 0 21) s.heap s.heap [] := va_S.rf
  have hP : va_P (gD g) vwCl (wM g ad σ) s.heap := hP
  have hl := lv_entry ([.ref (ad 0)]) (n := 1) (Nat.le_of_ble_eq_true rfl)
  rw [lg_entry_eq]
  generalize (lg_sl ([.ref (ad 0)]) ++ List.replicate (1 - (lg_sl ([.ref (ad 0)])).length) Slot.unset).toArray = ls at hl ⊢
  have hl : lv_has ls 1 [(0, .ref (ad 0))] := hl
  obtain ⟨H, hH⟩ : ∃ z, z = s.heap := ⟨_, rfl⟩
  obtain ⟨locs, hL⟩ : ∃ z : List Loc, z = [] := ⟨_, rfl⟩
  rw [← hL] at hS ⊢
  have hS : va_S (AD ad 0 21) s.heap H locs := by rw [hH]; exact hS
  rw [← hH] at hP ⊢
  clear hH hL
  refine lv_aload_n hx hb dX3_image_0 rfl (lv_at hl 0 rfl) ?_
  refine lv_iconst (v := 1) hx hb dX3_image_1 (by decide) ?_
  refine va_put (D := gD g) (ci := 3) (v := .int 1) (ty := .boolean) (C := RX3) (T := TX3) (N := 33) hx hb hts hi3 tyX3 tyX3_ok nmX3 hown hK hP hD hS 0 rfl rfl 24 (by decide) k0 (fun _ h9 => h9) rfl (by decide +kernel) rfl rfl (Nat.le_of_ble_eq_true rfl) dX3_image_2 (fun H locs hP hD hS => ?_)
  have hP : va_P (gD g) vwCl (wM g ad ((mS σ), (mT σ), ((kKept (mK σ)), 1, (kKeep (mK σ)), (kCur (mK σ))), (mF σ), (mRow σ), (mRowMany σ), (mLots σ), (mRefused σ))) H := hP
  have hD : va_D (AD ad 0 21) (wM g ad ((mS σ), (mT σ), ((kKept (mK σ)), 1, (kKeep (mK σ)), (kCur (mK σ))), (mF σ), (mRow σ), (mRowMany σ), (mLots σ), (mRefused σ))) := hD
  refine lv_aload_n hx hb dX3_image_5 rfl (lv_at hl 0 rfl) ?_
  refine lv_iconst (v := 0) hx hb dX3_image_6 (by decide) ?_
  refine lv_iconst (v := 1) hx hb dX3_image_7 (by decide) ?_
  have h8 := hv.1
  have hv := hv.2
  have hPc := hP
  have hDc := hD
  refine rw_void (va_runV (As := [.int 0, .int 1]) (rest := []) ⟨hx, hb, hml, hown, hts⟩ (h_X3_passesAll g ad ((mS σ), (mT σ), ((kKept (mK σ)), 1, (kKeep (mK σ)), (kCur (mK σ))), (mF σ), (mRow σ), (mRowMany σ), (mLots σ), (mRefused σ)) 0 1 h8) (cwV 2 hts gX3_image_X3_passesAll rfl rfl rfl (by decide +kernel) ⟨Nat.le_of_ble_eq_true rfl, Nat.le_of_ble_eq_true rfl⟩) ⟨RW_blind, va_recv hK hP (ci := 3) (q0 := 0) rfl rfl, fun U hU hW => ⟨rfl, by rw [hU]; exact hPc, va_K.moved hW.alike hK, hE.call hW hU hS (fun _ h => h), hDc⟩⟩ rfl rfl hl.1 rfl (lv_room (Nat.le_of_ble_eq_true rfl)) dX3_image_8 ⟨Nat.le_of_ble_eq_true rfl, Nat.le_of_ble_eq_true rfl⟩) hS (fun _ h => h) (fun u H1 locs hw hP1 hk hS => ?_)
  subst u
  have hP := hP1
  generalize H1 = H at hP hS ⊢
  have hP : va_P (gD g) vwCl (wM g ad ((if (1 : Int32) = 0 then loadS (kKept (mK σ)) (92 * (0 : Int32)) (mS σ) else (mS σ)), (mT σ), ((if (1 : Int32) = 0 then (kKept (mK σ)) else saveS (kKept (mK σ)) (92 * (0 : Int32)) (mS σ), 1, (1 : Int32), 92 * (0 : Int32) + 92)), (mF σ), (mRow σ), (mRowMany σ), (mLots σ), (mRefused σ))) H := hP
  have hD : va_D (AD ad 0 21) (wM g ad ((if (1 : Int32) = 0 then loadS (kKept (mK σ)) (92 * (0 : Int32)) (mS σ) else (mS σ)), (mT σ), ((if (1 : Int32) = 0 then (kKept (mK σ)) else saveS (kKept (mK σ)) (92 * (0 : Int32)) (mS σ), 1, (1 : Int32), 92 * (0 : Int32) + 92)), (mF σ), (mRow σ), (mRowMany σ), (mLots σ), (mRefused σ))) := hD.addr (by rfl)
  refine lv_aload_n hx hb dX3_image_11 rfl (lv_at hl 0 rfl) ?_
  refine va_get (D := gD g) (ci := 3) (v := .int (sAsked (if (1 : Int32) = 0 then loadS (kKept (mK σ)) (92 * (0 : Int32)) (mS σ) else (mS σ)))) (C := RX3) (T := TX3) (N := 33) hx hb hts hi3 hown hK hP 0 rfl rfl 15 (by decide) k1 (fun _ h9 => h9) rfl dX3_image_12 ?_
  exact W.iret (v := (sAsked (if (1 : Int32) = 0 then loadS (kKept (mK σ)) (92 * (0 : Int32)) (mS σ) else (mS σ)))) hx hb hr (fun t ht hW => ⟨⟨(sAsked (if (1 : Int32) = 0 then loadS (kKept (mK σ)) (92 * (0 : Int32)) (mS σ) else (mS σ))), ((if (1 : Int32) = 0 then loadS (kKept (mK σ)) (92 * (0 : Int32)) (mS σ) else (mS σ)), (mT σ), ((if (1 : Int32) = 0 then (kKept (mK σ)) else saveS (kKept (mK σ)) (92 * (0 : Int32)) (mS σ), 1, (1 : Int32), 92 * (0 : Int32) + 92)), (mF σ), (mRow σ), (mRowMany σ), (mLots σ), (mRefused σ)), rfl, hv, P_at ht hP⟩, hS.F ht⟩) hS.2.2 dX3_image_15

set_option maxHeartbeats 4000000 in
set_option maxRecDepth 100000 in
theorem m_X3_on (l : Launch) (h_X3_no : C_X3_no l) (h_X3_passesAll : C_X3_passesAll l) (g : CX) (ad : Nat → Nat) (σ : KM)  (Post : Int32 → KM → Prop) (hv : vc_X3_on σ Post) : Met l yX3_on wsX3_on { frames := 2, cells := 0, slots := 0, locals := 44 } (va_Pc [.ref (ad 0)] (RW g (AD ad 0 21) (wM g ad σ))) (va_Qi (fun (r : Int32) (u : KM) => Post r u) (fun u t => va_P (gD g) vwCl (wM g ad u) t.heap) (AD ad 0 21)) 0 0 (AD ad 0 21) := by
  unfold vc_X3_on at hv
  refine Met.ofW (cc := cX3_on) (maxL := 1) (ret := (some .int)) (by decide) rfl ?_
  intro p e s m args below meth c s₁ B hml hv0
  obtain ⟨rfl, hP, hK, hE, hD⟩ := hv0
  have hx := B.exec
  have hb := B.bytes
  have hr := B.returns
  have hts := atoms_spec (ws := wsX3_on) B.pre
  have hown : s.vm.findClass RX3 = some m.cls := findClass_of_methodNamed B.named
  have hlocks := B.notSynchronized
  have hi3 : ∀ w ∈ wsX30, w ∈ wsX3_on := by decide +kernel
  have k0 := hts (.fieldLink RX3 174 "JuryHearsAnswersModel" "hasImage" "Z") (by decide +kernel)
  have k1 := hts (.fieldLink RX3 127 "JuryHearsAnswersModel" "asked" "I") (by decide +kernel)
  have hS : va_S (AD ad 0 21) s.heap s.heap [] := va_S.rf
  have hP : va_P (gD g) vwCl (wM g ad σ) s.heap := hP
  have hl := lv_entry ([.ref (ad 0)]) (n := 1) (Nat.le_of_ble_eq_true rfl)
  rw [lg_entry_eq]
  generalize (lg_sl ([.ref (ad 0)]) ++ List.replicate (1 - (lg_sl ([.ref (ad 0)])).length) Slot.unset).toArray = ls at hl ⊢
  have hl : lv_has ls 1 [(0, .ref (ad 0))] := hl
  obtain ⟨H, hH⟩ : ∃ z, z = s.heap := ⟨_, rfl⟩
  obtain ⟨locs, hL⟩ : ∃ z : List Loc, z = [] := ⟨_, rfl⟩
  rw [← hL] at hS ⊢
  have hS : va_S (AD ad 0 21) s.heap H locs := by rw [hH]; exact hS
  rw [← hH] at hP ⊢
  clear hH hL
  refine lv_aload_n hx hb dX3_on_0 rfl (lv_at hl 0 rfl) ?_
  refine va_get (D := gD g) (ci := 3) (v := .int (kHas (mK σ))) (C := RX3) (T := TX3) (N := 33) hx hb hts hi3 hown hK hP 0 rfl rfl 24 (by decide) k0 (fun _ h9 => h9) rfl dX3_on_1 ?_
  refine lv_if_ne (tgt := 14) hx hb dX3_on_4 (by decide) (fun c4 => ?_) (fun c4 => ?_)
  · have hv := hv.1 c4
    refine lv_aload_n hx hb dX3_on_14 rfl (lv_at hl 0 rfl) ?_
    refine lv_iconst (v := 0) hx hb dX3_on_15 (by decide) ?_
    refine lv_iconst (v := 0) hx hb dX3_on_16 (by decide) ?_
    have h8 := hv.1
    have hv := hv.2
    have hPc := hP
    have hDc := hD
    refine rw_void (va_runV (As := [.int 0, .int 0]) (rest := []) ⟨hx, hb, hml, hown, hts⟩ (h_X3_passesAll g ad σ 0 0 h8) (cwV 2 hts gX3_on_X3_passesAll rfl rfl rfl (by decide +kernel) ⟨Nat.le_of_ble_eq_true rfl, Nat.le_of_ble_eq_true rfl⟩) ⟨RW_blind, va_recv hK hP (ci := 3) (q0 := 0) rfl rfl, fun U hU hW => ⟨rfl, by rw [hU]; exact hPc, va_K.moved hW.alike hK, hE.call hW hU hS (fun _ h => h), hDc⟩⟩ rfl rfl hl.1 rfl (lv_room (Nat.le_of_ble_eq_true rfl)) dX3_on_17 ⟨Nat.le_of_ble_eq_true rfl, Nat.le_of_ble_eq_true rfl⟩) hS (fun _ h => h) (fun u H1 locs hw hP1 hk hS => ?_)
    subst u
    have hP := hP1
    generalize H1 = H at hP hS ⊢
    have hP : va_P (gD g) vwCl (wM g ad ((if (0 : Int32) = 0 then loadS (kKept (mK σ)) (92 * (0 : Int32)) (mS σ) else mS σ), (mT σ), ((if (0 : Int32) = 0 then kKept (mK σ) else saveS (kKept (mK σ)) (92 * (0 : Int32)) (mS σ), kHas (mK σ), (0 : Int32), 92 * (0 : Int32) + 92)), (mF σ), (mRow σ), (mRowMany σ), (mLots σ), (mRefused σ))) H := hP
    have hD : va_D (AD ad 0 21) (wM g ad ((if (0 : Int32) = 0 then loadS (kKept (mK σ)) (92 * (0 : Int32)) (mS σ) else mS σ), (mT σ), ((if (0 : Int32) = 0 then kKept (mK σ) else saveS (kKept (mK σ)) (92 * (0 : Int32)) (mS σ), kHas (mK σ), (0 : Int32), 92 * (0 : Int32) + 92)), (mF σ), (mRow σ), (mRowMany σ), (mLots σ), (mRefused σ))) := hD.addr (by rfl)
    refine lv_aload_n hx hb dX3_on_20 rfl (lv_at hl 0 rfl) ?_
    refine va_get (D := gD g) (ci := 3) (v := .int (sAsked (if (0 : Int32) = 0 then loadS (kKept (mK σ)) (92 * (0 : Int32)) (mS σ) else mS σ))) (C := RX3) (T := TX3) (N := 33) hx hb hts hi3 hown hK hP 0 rfl rfl 15 (by decide) k1 (fun _ h9 => h9) rfl dX3_on_21 ?_
    exact W.iret (v := (sAsked (if (0 : Int32) = 0 then loadS (kKept (mK σ)) (92 * (0 : Int32)) (mS σ) else mS σ))) hx hb hr (fun t ht hW => ⟨⟨(sAsked (if (0 : Int32) = 0 then loadS (kKept (mK σ)) (92 * (0 : Int32)) (mS σ) else mS σ)), ((if (0 : Int32) = 0 then loadS (kKept (mK σ)) (92 * (0 : Int32)) (mS σ) else mS σ), (mT σ), ((if (0 : Int32) = 0 then kKept (mK σ) else saveS (kKept (mK σ)) (92 * (0 : Int32)) (mS σ), kHas (mK σ), (0 : Int32), 92 * (0 : Int32) + 92)), (mF σ), (mRow σ), (mRowMany σ), (mLots σ), (mRefused σ)), rfl, hv, P_at ht hP⟩, hS.F ht⟩) hS.2.2 dX3_on_24
  · have hv := hv.2 c4
    refine lv_aload_n hx hb dX3_on_7 rfl (lv_at hl 0 rfl) ?_
    refine lv_bipush (v := (-3)) hx hb dX3_on_8 (by decide) ?_
    have h8 := hv.1
    have hv := hv.2
    have hPc := hP
    have hDc := hD
    refine rw_int (va_runV (As := [.int (-3)]) (rest := []) ⟨hx, hb, hml, hown, hts⟩ (h_X3_no g ad σ (-3) h8) (cwV 1 hts gX3_on_X3_no rfl rfl rfl (by decide +kernel) ⟨Nat.le_of_ble_eq_true rfl, Nat.le_of_ble_eq_true rfl⟩) ⟨RW_blind, va_recv hK hP (ci := 3) (q0 := 0) rfl rfl, fun U hU hW => ⟨rfl, by rw [hU]; exact hPc, va_K.moved hW.alike hK, hE.call hW hU hS (fun _ h => h), hDc⟩⟩ rfl rfl hl.1 rfl (lv_room (Nat.le_of_ble_eq_true rfl)) dX3_on_10 ⟨Nat.le_of_ble_eq_true rfl, Nat.le_of_ble_eq_true rfl⟩) hS (fun _ h => h) (fun r u H1 locs hw hP1 hk hS => ?_)
    obtain ⟨hw1, hw⟩ := hw; subst r; subst u
    have hP := hP1
    generalize H1 = H at hP hS ⊢
    have hP : va_P (gD g) vwCl (wM g ad ((mS σ), (mT σ), (mK σ), (mF σ), (mRow σ), (mRowMany σ), (mLots σ), (refuX (mRefused σ) ((-3) : Int32)))) H := hP
    have hD : va_D (AD ad 0 21) (wM g ad ((mS σ), (mT σ), (mK σ), (mF σ), (mRow σ), (mRowMany σ), (mLots σ), (refuX (mRefused σ) ((-3) : Int32)))) := hD.addr (by rfl)
    exact W.iret (v := (((-3) : Int32))) hx hb hr (fun t ht hW => ⟨⟨(((-3) : Int32)), ((mS σ), (mT σ), (mK σ), (mF σ), (mRow σ), (mRowMany σ), (mLots σ), (refuX (mRefused σ) ((-3) : Int32))), rfl, hv, P_at ht hP⟩, hS.F ht⟩) hS.2.2 dX3_on_13

set_option maxHeartbeats 4000000 in
set_option maxRecDepth 100000 in
theorem m_X3_court (l : Launch) (h_X3_comes : C_X3_comes l) (h_X3_passesAll : C_X3_passesAll l) (h_X3_statement : C_X3_statement l) (g : CX) (ad : Nat → Nat) (σ : KM)  (Post : Int32 → KM → Prop) (hv : vc_X3_court σ Post) : Met l yX3_court wsX3_court { frames := 7, cells := 0, slots := 0, locals := 160 } (va_Pc [.ref (ad 0)] (RW g (AD ad 0 21) (wM g ad σ))) (va_Qi (fun (r : Int32) (u : KM) => Post r u) (fun u t => va_P (gD g) vwCl (wM g ad u) t.heap) (AD ad 0 21)) 0 0 (AD ad 0 21) := by
  unfold vc_X3_court at hv
  refine Met.ofW (cc := cX3_court) (maxL := 3) (ret := (some .int)) (by decide) rfl ?_
  intro p e s m args below meth c s₁ B hml hv0
  obtain ⟨rfl, hP, hK, hE, hD⟩ := hv0
  have hx := B.exec
  have hb := B.bytes
  have hr := B.returns
  have hts := atoms_spec (ws := wsX3_court) B.pre
  have hown : s.vm.findClass RX3 = some m.cls := findClass_of_methodNamed B.named
  have hlocks := B.notSynchronized
  have hi3 : ∀ w ∈ wsX30, w ∈ wsX3_court := by decide +kernel
  have k0 := hts (.fieldLink RX3 90 "JuryHearsAnswersModel" "at" "I") (by decide +kernel)
  have k1 := hts (.fieldLink RX3 112 "JuryHearsAnswersModel" "statements" "I") (by decide +kernel)
  have k2 := hts (.fieldLink RX3 83 "JuryHearsAnswersModel" "taped" "I") (by decide +kernel)
  have k3 := hts (.fieldLink RX3 49 "JuryHearsAnswersModel" "letterAt" "[I") (by decide +kernel)
  have hS : va_S (AD ad 0 21) s.heap s.heap [] := va_S.rf
  have hP : va_P (gD g) vwCl (wM g ad σ) s.heap := hP
  have hl := lv_entry ([.ref (ad 0)]) (n := 3) (Nat.le_of_ble_eq_true rfl)
  rw [lg_entry_eq]
  generalize (lg_sl ([.ref (ad 0)]) ++ List.replicate (3 - (lg_sl ([.ref (ad 0)])).length) Slot.unset).toArray = ls at hl ⊢
  have hl : lv_has ls 3 [(0, .ref (ad 0))] := hl
  have hv := hv (fun (x1 : Int32) (s_K : KK) (s_S : SS) (s_T : KT) => ∀ (H : Heap) (locs : List Loc) (ls : Array Slot), va_P (gD g) vwCl (wM g ad (s_S, s_T, s_K, (mF σ), (mRow σ), (mRowMany σ), (mLots σ), (mRefused σ))) H → va_D (AD ad 0 21) (wM g ad (s_S, s_T, s_K, (mF σ), (mRow σ), (mRowMany σ), (mLots σ), (mRefused σ))) → va_S (AD ad 0 21) s.heap H locs → lv_has ls 3 [(0, .ref (ad 0)), (1, .int x1)] → W p l e { frames := 7, cells := 0, slots := 0, locals := 160 } s m ([.ref (ad 0)] : List Value).toArray below meth c H locs 0 0 (MQ below (va_Qi (fun (r : Int32) (u : KM) => Post r u) (fun u t => va_P (gD g) vwCl (wM g ad u) t.heap) (AD ad 0 21)) ([.ref (ad 0)] : List Value).toArray s 0 0 (AD ad 0 21)) (F0 m 12 ls []))
  have hv := hv (fun (x2 : Int32) (s_K : KK) (s_S : SS) (s_T : KT) => ∀ (H : Heap) (locs : List Loc) (ls : Array Slot), va_P (gD g) vwCl (wM g ad (s_S, s_T, s_K, (mF σ), (mRow σ), (mRowMany σ), (mLots σ), (mRefused σ))) H → va_D (AD ad 0 21) (wM g ad (s_S, s_T, s_K, (mF σ), (mRow σ), (mRowMany σ), (mLots σ), (mRefused σ))) → va_S (AD ad 0 21) s.heap H locs → lv_has ls 3 [(0, .ref (ad 0)), (2, .int x2)] → W p l e { frames := 7, cells := 0, slots := 0, locals := 160 } s m ([.ref (ad 0)] : List Value).toArray below meth c H locs 0 0 (MQ below (va_Qi (fun (r : Int32) (u : KM) => Post r u) (fun u t => va_P (gD g) vwCl (wM g ad u) t.heap) (AD ad 0 21)) ([.ref (ad 0)] : List Value).toArray s 0 0 (AD ad 0 21)) (F0 m 86 ls []))
  have hv := hv (by
    intro x1 s_K s_S s_T hv H locs ls hP hD hS hl
    refine lv_iload_n hx hb dX3_court_12 rfl (lv_at hl 1 rfl) ?_
    refine lv_if_eq (tgt := 60) hx hb dX3_court_13 (by decide) (fun c13 => ?_) (fun c13 => ?_)
    · have hv := hv.1 c13
      refine lv_aload_n hx hb dX3_court_60 rfl (lv_at hl 0 rfl) ?_
      refine lv_iconst (v := 0) hx hb dX3_court_61 (by decide) ?_
      refine va_put (D := gD g) (ci := 3) (v := .int 0) (ty := .int) (C := RX3) (T := TX3) (N := 33) hx hb hts hi3 tyX3 tyX3_ok nmX3 hown hK hP hD hS 0 rfl rfl 20 (by decide) k2 (fun _ h9 => h9) rfl (by decide +kernel) rfl rfl (Nat.le_of_ble_eq_true rfl) dX3_court_62 (fun H locs hP hD hS => ?_)
      have hP : va_P (gD g) vwCl (wM g ad (s_S, ((tTape s_T), (tLetter s_T), (tLetterAt s_T), (tTold s_T), 0, (tAt s_T), (tStm s_T)), s_K, (mF σ), (mRow σ), (mRowMany σ), (mLots σ), (mRefused σ))) H := hP
      have hD : va_D (AD ad 0 21) (wM g ad (s_S, ((tTape s_T), (tLetter s_T), (tLetterAt s_T), (tTold s_T), 0, (tAt s_T), (tStm s_T)), s_K, (mF σ), (mRow σ), (mRowMany σ), (mLots σ), (mRefused σ))) := hD
      refine lv_iload_n hx hb dX3_court_65 rfl (lv_at hl 1 rfl) ?_
      refine lv_if_ne (tgt := 78) hx hb dX3_court_66 (by decide) (fun c66 => ?_) (fun c66 => ?_)
      · have hv := hv.1 c66
        refine lv_aload_n hx hb dX3_court_78 rfl (lv_at hl 0 rfl) ?_
        refine lv_iconst (v := 1) hx hb dX3_court_79 (by decide) ?_
        refine lv_iconst (v := 1) hx hb dX3_court_80 (by decide) ?_
        have h8 := hv.1
        have hv := hv.2
        have hPc := hP
        have hDc := hD
        refine rw_void (va_runV (As := [.int 1, .int 1]) (rest := []) ⟨hx, hb, hml, hown, hts⟩ (h_X3_passesAll g ad (s_S, ((tTape s_T), (tLetter s_T), (tLetterAt s_T), (tTold s_T), 0, (tAt s_T), (tStm s_T)), s_K, (mF σ), (mRow σ), (mRowMany σ), (mLots σ), (mRefused σ)) 1 1 h8) (cwV 2 hts gX3_court_X3_passesAll rfl rfl rfl (by decide +kernel) ⟨Nat.le_of_ble_eq_true rfl, Nat.le_of_ble_eq_true rfl⟩) ⟨RW_blind, va_recv hK hP (ci := 3) (q0 := 0) rfl rfl, fun U hU hW => ⟨rfl, by rw [hU]; exact hPc, va_K.moved hW.alike hK, hE.call hW hU hS (fun _ h => h), hDc⟩⟩ rfl rfl hl.1 rfl (lv_room (Nat.le_of_ble_eq_true rfl)) dX3_court_81 ⟨Nat.le_of_ble_eq_true rfl, Nat.le_of_ble_eq_true rfl⟩) hS (fun _ h => h) (fun u H1 locs hw hP1 hk hS => ?_)
        subst u
        have hP := hP1
        generalize H1 = H at hP hS ⊢
        have hP : va_P (gD g) vwCl (wM g ad ((if (1 : Int32) = 0 then loadS (kKept s_K) (92 * (1 : Int32)) s_S else s_S), ((tTape s_T), (tLetter s_T), (tLetterAt s_T), (tTold s_T), 0, (tAt s_T), (tStm s_T)), ((if (1 : Int32) = 0 then (kKept s_K) else saveS (kKept s_K) (92 * (1 : Int32)) s_S, (kHas s_K), (1 : Int32), 92 * (1 : Int32) + 92)), (mF σ), (mRow σ), (mRowMany σ), (mLots σ), (mRefused σ))) H := hP
        have hD : va_D (AD ad 0 21) (wM g ad ((if (1 : Int32) = 0 then loadS (kKept s_K) (92 * (1 : Int32)) s_S else s_S), ((tTape s_T), (tLetter s_T), (tLetterAt s_T), (tTold s_T), 0, (tAt s_T), (tStm s_T)), ((if (1 : Int32) = 0 then (kKept s_K) else saveS (kKept s_K) (92 * (1 : Int32)) s_S, (kHas s_K), (1 : Int32), 92 * (1 : Int32) + 92)), (mF σ), (mRow σ), (mRowMany σ), (mLots σ), (mRefused σ))) := hD.addr (by rfl)
        refine lv_iconst (v := 0) hx hb dX3_court_84 (by decide) ?_
        refine lv_istore_n (lv' := [(2, .int 0), (0, .ref (ad 0)), (1, .int x1)]) hx hb dX3_court_85 rfl hl (by decide) rfl (fun ls hl => ?_)
        exact hv H locs ls hP hD hS (lv_sub hl [1, 0] rfl)
      · have hv := hv.2 c66
        refine lv_sipush (v := (-1000)) hx hb dX3_court_69 (by decide) ?_
        refine lv_aload_n hx hb dX3_court_72 rfl (lv_at hl 0 rfl) ?_
        refine va_get (D := gD g) (ci := 3) (v := .int (tAt s_T)) (C := RX3) (T := TX3) (N := 33) hx hb hts hi3 hown hK hP 0 rfl rfl 21 (by decide) k0 (fun _ h9 => h9) rfl dX3_court_73 ?_
        refine lv_isub hx hb dX3_court_76 ?_
        exact W.iret (v := ((-1000) - (tAt s_T))) hx hb hr (fun t ht hW => ⟨⟨((-1000) - (tAt s_T)), (s_S, ((tTape s_T), (tLetter s_T), (tLetterAt s_T), (tTold s_T), 0, (tAt s_T), (tStm s_T)), s_K, (mF σ), (mRow σ), (mRowMany σ), (mLots σ), (mRefused σ)), rfl, hv, P_at ht hP⟩, hS.F ht⟩) hS.2.2 dX3_court_77
    · have hv := hv.2 c13
      refine lv_aload_n hx hb dX3_court_16 rfl (lv_at hl 0 rfl) ?_
      refine va_get (D := gD g) (ci := 3) (v := .int (tAt s_T)) (C := RX3) (T := TX3) (N := 33) hx hb hts hi3 hown hK hP 0 rfl rfl 21 (by decide) k0 (fun _ h9 => h9) rfl dX3_court_17 ?_
      refine lv_aload_n hx hb dX3_court_20 rfl (lv_at hl 0 rfl) ?_
      refine va_get (D := gD g) (ci := 3) (v := .int (tTaped s_T)) (C := RX3) (T := TX3) (N := 33) hx hb hts hi3 hown hK hP 0 rfl rfl 20 (by decide) k2 (fun _ h9 => h9) rfl dX3_court_21 ?_
      refine lv_icmp_lt (tgt := 34) hx hb dX3_court_24 (by decide) (fun c24 => ?_) (fun c24 => ?_)
      · have hv := hv.1 c24
        refine lv_aload_n hx hb dX3_court_34 rfl (lv_at hl 0 rfl) ?_
        have h8 := hv.1
        have hv := hv.2
        have hPc := hP
        have hDc := hD
        refine rw_int (va_runV (As := []) (rest := []) ⟨hx, hb, hml, hown, hts⟩ (h_X3_statement g ad (s_S, s_T, s_K, (mF σ), (mRow σ), (mRowMany σ), (mLots σ), (mRefused σ)) h8) (cwV 0 hts gX3_court_X3_statement rfl rfl rfl (by decide +kernel) ⟨Nat.le_of_ble_eq_true rfl, Nat.le_of_ble_eq_true rfl⟩) ⟨RW_blind, va_recv hK hP (ci := 3) (q0 := 0) rfl rfl, fun U hU hW => ⟨rfl, by rw [hU]; exact hPc, va_K.moved hW.alike hK, hE.call hW hU hS (fun _ h => h), hDc⟩⟩ rfl rfl hl.1 rfl (lv_room (Nat.le_of_ble_eq_true rfl)) dX3_court_35 ⟨Nat.le_of_ble_eq_true rfl, Nat.le_of_ble_eq_true rfl⟩) hS (fun _ h => h) (fun r u H1 locs hw hP1 hk hS => ?_)
        obtain ⟨hw1, hw⟩ := hw; subst r; subst u
        have hP := hP1
        generalize H1 = H at hP hS ⊢
        have hP : va_P (gD g) vwCl (wM g ad (s_S, ((stmT s_T).2), s_K, (mF σ), (mRow σ), (mRowMany σ), (mLots σ), (mRefused σ))) H := hP
        have hD : va_D (AD ad 0 21) (wM g ad (s_S, ((stmT s_T).2), s_K, (mF σ), (mRow σ), (mRowMany σ), (mLots σ), (mRefused σ))) := hD.addr (by rfl)
        refine lv_istore_n (lv' := [(1, .int ((stmT s_T).1)), (0, .ref (ad 0))]) hx hb dX3_court_38 rfl hl (by decide) rfl (fun ls hl => ?_)
        refine lv_aload_n hx hb dX3_court_39 rfl (lv_at hl 1 rfl) ?_
        refine lv_dup hx hb dX3_court_40 rfl ?_
        refine va_get (D := gD g) (ci := 3) (v := .int (tStm ((stmT s_T).2))) (C := RX3) (T := TX3) (N := 33) hx hb hts hi3 hown hK hP 0 rfl rfl 22 (by decide) k1 (fun _ h9 => h9) rfl dX3_court_41 ?_
        refine lv_iload_n hx hb dX3_court_44 rfl (lv_at hl 0 rfl) ?_
        refine lv_if_eq (tgt := 52) hx hb dX3_court_45 (by decide) (fun c45 => ?_) (fun c45 => ?_)
        · have hv := hv.1 c45
          refine lv_iconst (v := 0) hx hb dX3_court_52 (by decide) ?_
          refine lv_iadd hx hb dX3_court_53 ?_
          refine va_put (D := gD g) (ci := 3) (v := .int ((tStm ((stmT s_T).2)) + 0)) (ty := .int) (C := RX3) (T := TX3) (N := 33) hx hb hts hi3 tyX3 tyX3_ok nmX3 hown hK hP hD hS 0 rfl rfl 22 (by decide) k1 (fun _ h9 => h9) rfl (by decide +kernel) rfl rfl (Nat.le_of_ble_eq_true rfl) dX3_court_54 (fun H locs hP hD hS => ?_)
          have hP : va_P (gD g) vwCl (wM g ad (s_S, ((tTape ((stmT s_T).2)), (tLetter ((stmT s_T).2)), (tLetterAt ((stmT s_T).2)), (tTold ((stmT s_T).2)), (tTaped ((stmT s_T).2)), (tAt ((stmT s_T).2)), ((tStm ((stmT s_T).2)) + 0)), s_K, (mF σ), (mRow σ), (mRowMany σ), (mLots σ), (mRefused σ))) H := hP
          have hD : va_D (AD ad 0 21) (wM g ad (s_S, ((tTape ((stmT s_T).2)), (tLetter ((stmT s_T).2)), (tLetterAt ((stmT s_T).2)), (tTold ((stmT s_T).2)), (tTaped ((stmT s_T).2)), (tAt ((stmT s_T).2)), ((tStm ((stmT s_T).2)) + 0)), s_K, (mF σ), (mRow σ), (mRowMany σ), (mLots σ), (mRefused σ))) := hD
          refine lv_goto (tgt := 12) hx hb dX3_court_57 (by decide) ?_
          exact hv H locs ls hP hD hS (lv_sub hl [1, 0] rfl)
        · have hv := hv.2 c45
          refine lv_iconst (v := 1) hx hb dX3_court_48 (by decide) ?_
          refine lv_goto (tgt := 53) hx hb dX3_court_49 (by decide) ?_
          refine lv_iadd hx hb dX3_court_53 ?_
          refine va_put (D := gD g) (ci := 3) (v := .int ((tStm ((stmT s_T).2)) + 1)) (ty := .int) (C := RX3) (T := TX3) (N := 33) hx hb hts hi3 tyX3 tyX3_ok nmX3 hown hK hP hD hS 0 rfl rfl 22 (by decide) k1 (fun _ h9 => h9) rfl (by decide +kernel) rfl rfl (Nat.le_of_ble_eq_true rfl) dX3_court_54 (fun H locs hP hD hS => ?_)
          have hP : va_P (gD g) vwCl (wM g ad (s_S, ((tTape ((stmT s_T).2)), (tLetter ((stmT s_T).2)), (tLetterAt ((stmT s_T).2)), (tTold ((stmT s_T).2)), (tTaped ((stmT s_T).2)), (tAt ((stmT s_T).2)), ((tStm ((stmT s_T).2)) + 1)), s_K, (mF σ), (mRow σ), (mRowMany σ), (mLots σ), (mRefused σ))) H := hP
          have hD : va_D (AD ad 0 21) (wM g ad (s_S, ((tTape ((stmT s_T).2)), (tLetter ((stmT s_T).2)), (tLetterAt ((stmT s_T).2)), (tTold ((stmT s_T).2)), (tTaped ((stmT s_T).2)), (tAt ((stmT s_T).2)), ((tStm ((stmT s_T).2)) + 1)), s_K, (mF σ), (mRow σ), (mRowMany σ), (mLots σ), (mRefused σ))) := hD
          refine lv_goto (tgt := 12) hx hb dX3_court_57 (by decide) ?_
          exact hv H locs ls hP hD hS (lv_sub hl [1, 0] rfl)
      · have hv := hv.2 c24
        refine lv_aload_n hx hb dX3_court_27 rfl (lv_at hl 0 rfl) ?_
        refine va_get (D := gD g) (ci := 3) (v := .int (tStm s_T)) (C := RX3) (T := TX3) (N := 33) hx hb hts hi3 hown hK hP 0 rfl rfl 22 (by decide) k1 (fun _ h9 => h9) rfl dX3_court_28 ?_
        refine lv_if_ne (tgt := 60) hx hb dX3_court_31 (by decide) (fun c31 => ?_) (fun c31 => ?_)
        · have hv := hv.1 c31
          refine lv_aload_n hx hb dX3_court_60 rfl (lv_at hl 0 rfl) ?_
          refine lv_iconst (v := 0) hx hb dX3_court_61 (by decide) ?_
          refine va_put (D := gD g) (ci := 3) (v := .int 0) (ty := .int) (C := RX3) (T := TX3) (N := 33) hx hb hts hi3 tyX3 tyX3_ok nmX3 hown hK hP hD hS 0 rfl rfl 20 (by decide) k2 (fun _ h9 => h9) rfl (by decide +kernel) rfl rfl (Nat.le_of_ble_eq_true rfl) dX3_court_62 (fun H locs hP hD hS => ?_)
          have hP : va_P (gD g) vwCl (wM g ad (s_S, ((tTape s_T), (tLetter s_T), (tLetterAt s_T), (tTold s_T), 0, (tAt s_T), (tStm s_T)), s_K, (mF σ), (mRow σ), (mRowMany σ), (mLots σ), (mRefused σ))) H := hP
          have hD : va_D (AD ad 0 21) (wM g ad (s_S, ((tTape s_T), (tLetter s_T), (tLetterAt s_T), (tTold s_T), 0, (tAt s_T), (tStm s_T)), s_K, (mF σ), (mRow σ), (mRowMany σ), (mLots σ), (mRefused σ))) := hD
          refine lv_iload_n hx hb dX3_court_65 rfl (lv_at hl 1 rfl) ?_
          refine lv_if_ne (tgt := 78) hx hb dX3_court_66 (by decide) (fun c66 => ?_) (fun c66 => ?_)
          · have hv := hv.1 c66
            refine lv_aload_n hx hb dX3_court_78 rfl (lv_at hl 0 rfl) ?_
            refine lv_iconst (v := 1) hx hb dX3_court_79 (by decide) ?_
            refine lv_iconst (v := 1) hx hb dX3_court_80 (by decide) ?_
            have h8 := hv.1
            have hv := hv.2
            have hPc := hP
            have hDc := hD
            refine rw_void (va_runV (As := [.int 1, .int 1]) (rest := []) ⟨hx, hb, hml, hown, hts⟩ (h_X3_passesAll g ad (s_S, ((tTape s_T), (tLetter s_T), (tLetterAt s_T), (tTold s_T), 0, (tAt s_T), (tStm s_T)), s_K, (mF σ), (mRow σ), (mRowMany σ), (mLots σ), (mRefused σ)) 1 1 h8) (cwV 2 hts gX3_court_X3_passesAll rfl rfl rfl (by decide +kernel) ⟨Nat.le_of_ble_eq_true rfl, Nat.le_of_ble_eq_true rfl⟩) ⟨RW_blind, va_recv hK hP (ci := 3) (q0 := 0) rfl rfl, fun U hU hW => ⟨rfl, by rw [hU]; exact hPc, va_K.moved hW.alike hK, hE.call hW hU hS (fun _ h => h), hDc⟩⟩ rfl rfl hl.1 rfl (lv_room (Nat.le_of_ble_eq_true rfl)) dX3_court_81 ⟨Nat.le_of_ble_eq_true rfl, Nat.le_of_ble_eq_true rfl⟩) hS (fun _ h => h) (fun u H1 locs hw hP1 hk hS => ?_)
            subst u
            have hP := hP1
            generalize H1 = H at hP hS ⊢
            have hP : va_P (gD g) vwCl (wM g ad ((if (1 : Int32) = 0 then loadS (kKept s_K) (92 * (1 : Int32)) s_S else s_S), ((tTape s_T), (tLetter s_T), (tLetterAt s_T), (tTold s_T), 0, (tAt s_T), (tStm s_T)), ((if (1 : Int32) = 0 then (kKept s_K) else saveS (kKept s_K) (92 * (1 : Int32)) s_S, (kHas s_K), (1 : Int32), 92 * (1 : Int32) + 92)), (mF σ), (mRow σ), (mRowMany σ), (mLots σ), (mRefused σ))) H := hP
            have hD : va_D (AD ad 0 21) (wM g ad ((if (1 : Int32) = 0 then loadS (kKept s_K) (92 * (1 : Int32)) s_S else s_S), ((tTape s_T), (tLetter s_T), (tLetterAt s_T), (tTold s_T), 0, (tAt s_T), (tStm s_T)), ((if (1 : Int32) = 0 then (kKept s_K) else saveS (kKept s_K) (92 * (1 : Int32)) s_S, (kHas s_K), (1 : Int32), 92 * (1 : Int32) + 92)), (mF σ), (mRow σ), (mRowMany σ), (mLots σ), (mRefused σ))) := hD.addr (by rfl)
            refine lv_iconst (v := 0) hx hb dX3_court_84 (by decide) ?_
            refine lv_istore_n (lv' := [(2, .int 0), (0, .ref (ad 0)), (1, .int x1)]) hx hb dX3_court_85 rfl hl (by decide) rfl (fun ls hl => ?_)
            exact hv H locs ls hP hD hS (lv_sub hl [1, 0] rfl)
          · have hv := hv.2 c66
            refine lv_sipush (v := (-1000)) hx hb dX3_court_69 (by decide) ?_
            refine lv_aload_n hx hb dX3_court_72 rfl (lv_at hl 0 rfl) ?_
            refine va_get (D := gD g) (ci := 3) (v := .int (tAt s_T)) (C := RX3) (T := TX3) (N := 33) hx hb hts hi3 hown hK hP 0 rfl rfl 21 (by decide) k0 (fun _ h9 => h9) rfl dX3_court_73 ?_
            refine lv_isub hx hb dX3_court_76 ?_
            exact W.iret (v := ((-1000) - (tAt s_T))) hx hb hr (fun t ht hW => ⟨⟨((-1000) - (tAt s_T)), (s_S, ((tTape s_T), (tLetter s_T), (tLetterAt s_T), (tTold s_T), 0, (tAt s_T), (tStm s_T)), s_K, (mF σ), (mRow σ), (mRowMany σ), (mLots σ), (mRefused σ)), rfl, hv, P_at ht hP⟩, hS.F ht⟩) hS.2.2 dX3_court_77
        · have hv := hv.2 c31
          refine lv_aload_n hx hb dX3_court_34 rfl (lv_at hl 0 rfl) ?_
          have h8 := hv.1
          have hv := hv.2
          have hPc := hP
          have hDc := hD
          refine rw_int (va_runV (As := []) (rest := []) ⟨hx, hb, hml, hown, hts⟩ (h_X3_statement g ad (s_S, s_T, s_K, (mF σ), (mRow σ), (mRowMany σ), (mLots σ), (mRefused σ)) h8) (cwV 0 hts gX3_court_X3_statement rfl rfl rfl (by decide +kernel) ⟨Nat.le_of_ble_eq_true rfl, Nat.le_of_ble_eq_true rfl⟩) ⟨RW_blind, va_recv hK hP (ci := 3) (q0 := 0) rfl rfl, fun U hU hW => ⟨rfl, by rw [hU]; exact hPc, va_K.moved hW.alike hK, hE.call hW hU hS (fun _ h => h), hDc⟩⟩ rfl rfl hl.1 rfl (lv_room (Nat.le_of_ble_eq_true rfl)) dX3_court_35 ⟨Nat.le_of_ble_eq_true rfl, Nat.le_of_ble_eq_true rfl⟩) hS (fun _ h => h) (fun r u H1 locs hw hP1 hk hS => ?_)
          obtain ⟨hw1, hw⟩ := hw; subst r; subst u
          have hP := hP1
          generalize H1 = H at hP hS ⊢
          have hP : va_P (gD g) vwCl (wM g ad (s_S, ((stmT s_T).2), s_K, (mF σ), (mRow σ), (mRowMany σ), (mLots σ), (mRefused σ))) H := hP
          have hD : va_D (AD ad 0 21) (wM g ad (s_S, ((stmT s_T).2), s_K, (mF σ), (mRow σ), (mRowMany σ), (mLots σ), (mRefused σ))) := hD.addr (by rfl)
          refine lv_istore_n (lv' := [(1, .int ((stmT s_T).1)), (0, .ref (ad 0))]) hx hb dX3_court_38 rfl hl (by decide) rfl (fun ls hl => ?_)
          refine lv_aload_n hx hb dX3_court_39 rfl (lv_at hl 1 rfl) ?_
          refine lv_dup hx hb dX3_court_40 rfl ?_
          refine va_get (D := gD g) (ci := 3) (v := .int (tStm ((stmT s_T).2))) (C := RX3) (T := TX3) (N := 33) hx hb hts hi3 hown hK hP 0 rfl rfl 22 (by decide) k1 (fun _ h9 => h9) rfl dX3_court_41 ?_
          refine lv_iload_n hx hb dX3_court_44 rfl (lv_at hl 0 rfl) ?_
          refine lv_if_eq (tgt := 52) hx hb dX3_court_45 (by decide) (fun c45 => ?_) (fun c45 => ?_)
          · have hv := hv.1 c45
            refine lv_iconst (v := 0) hx hb dX3_court_52 (by decide) ?_
            refine lv_iadd hx hb dX3_court_53 ?_
            refine va_put (D := gD g) (ci := 3) (v := .int ((tStm ((stmT s_T).2)) + 0)) (ty := .int) (C := RX3) (T := TX3) (N := 33) hx hb hts hi3 tyX3 tyX3_ok nmX3 hown hK hP hD hS 0 rfl rfl 22 (by decide) k1 (fun _ h9 => h9) rfl (by decide +kernel) rfl rfl (Nat.le_of_ble_eq_true rfl) dX3_court_54 (fun H locs hP hD hS => ?_)
            have hP : va_P (gD g) vwCl (wM g ad (s_S, ((tTape ((stmT s_T).2)), (tLetter ((stmT s_T).2)), (tLetterAt ((stmT s_T).2)), (tTold ((stmT s_T).2)), (tTaped ((stmT s_T).2)), (tAt ((stmT s_T).2)), ((tStm ((stmT s_T).2)) + 0)), s_K, (mF σ), (mRow σ), (mRowMany σ), (mLots σ), (mRefused σ))) H := hP
            have hD : va_D (AD ad 0 21) (wM g ad (s_S, ((tTape ((stmT s_T).2)), (tLetter ((stmT s_T).2)), (tLetterAt ((stmT s_T).2)), (tTold ((stmT s_T).2)), (tTaped ((stmT s_T).2)), (tAt ((stmT s_T).2)), ((tStm ((stmT s_T).2)) + 0)), s_K, (mF σ), (mRow σ), (mRowMany σ), (mLots σ), (mRefused σ))) := hD
            refine lv_goto (tgt := 12) hx hb dX3_court_57 (by decide) ?_
            exact hv H locs ls hP hD hS (lv_sub hl [1, 0] rfl)
          · have hv := hv.2 c45
            refine lv_iconst (v := 1) hx hb dX3_court_48 (by decide) ?_
            refine lv_goto (tgt := 53) hx hb dX3_court_49 (by decide) ?_
            refine lv_iadd hx hb dX3_court_53 ?_
            refine va_put (D := gD g) (ci := 3) (v := .int ((tStm ((stmT s_T).2)) + 1)) (ty := .int) (C := RX3) (T := TX3) (N := 33) hx hb hts hi3 tyX3 tyX3_ok nmX3 hown hK hP hD hS 0 rfl rfl 22 (by decide) k1 (fun _ h9 => h9) rfl (by decide +kernel) rfl rfl (Nat.le_of_ble_eq_true rfl) dX3_court_54 (fun H locs hP hD hS => ?_)
            have hP : va_P (gD g) vwCl (wM g ad (s_S, ((tTape ((stmT s_T).2)), (tLetter ((stmT s_T).2)), (tLetterAt ((stmT s_T).2)), (tTold ((stmT s_T).2)), (tTaped ((stmT s_T).2)), (tAt ((stmT s_T).2)), ((tStm ((stmT s_T).2)) + 1)), s_K, (mF σ), (mRow σ), (mRowMany σ), (mLots σ), (mRefused σ))) H := hP
            have hD : va_D (AD ad 0 21) (wM g ad (s_S, ((tTape ((stmT s_T).2)), (tLetter ((stmT s_T).2)), (tLetterAt ((stmT s_T).2)), (tTold ((stmT s_T).2)), (tTaped ((stmT s_T).2)), (tAt ((stmT s_T).2)), ((tStm ((stmT s_T).2)) + 1)), s_K, (mF σ), (mRow σ), (mRowMany σ), (mLots σ), (mRefused σ))) := hD
            refine lv_goto (tgt := 12) hx hb dX3_court_57 (by decide) ?_
            exact hv H locs ls hP hD hS (lv_sub hl [1, 0] rfl))
  have hv := hv (by
    intro x2 s_K s_S s_T hv H locs ls hP hD hS hl
    refine lv_iload_n hx hb dX3_court_86 rfl (lv_at hl 1 rfl) ?_
    refine lv_aload_n hx hb dX3_court_87 rfl (lv_at hl 0 rfl) ?_
    refine va_get (D := gD g) (ci := 3) (v := .int (tStm s_T)) (C := RX3) (T := TX3) (N := 33) hx hb hts hi3 hown hK hP 0 rfl rfl 22 (by decide) k1 (fun _ h9 => h9) rfl dX3_court_88 ?_
    refine lv_icmp_ge (tgt := 128) hx hb dX3_court_91 (by decide) (fun c91 => ?_) (fun c91 => ?_)
    · have hv := hv.1 c91
      refine lv_aload_n hx hb dX3_court_128 rfl (lv_at hl 0 rfl) ?_
      refine va_get (D := gD g) (ci := 3) (v := .int (tStm s_T)) (C := RX3) (T := TX3) (N := 33) hx hb hts hi3 hown hK hP 0 rfl rfl 22 (by decide) k1 (fun _ h9 => h9) rfl dX3_court_129 ?_
      exact W.iret (v := (tStm s_T)) hx hb hr (fun t ht hW => ⟨⟨(tStm s_T), (s_S, s_T, s_K, (mF σ), (mRow σ), (mRowMany σ), (mLots σ), (mRefused σ)), rfl, hv, P_at ht hP⟩, hS.F ht⟩) hS.2.2 dX3_court_132
    · have hv := hv.2 c91
      refine lv_aload_n hx hb dX3_court_94 rfl (lv_at hl 0 rfl) ?_
      refine lv_iload_n hx hb dX3_court_95 rfl (lv_at hl 1 rfl) ?_
      have h8 := hv.1
      have hv := hv.2
      have hPc := hP
      have hDc := hD
      refine rw_int (va_runV (As := [.int x2]) (rest := []) ⟨hx, hb, hml, hown, hts⟩ (h_X3_comes g ad (s_S, s_T, s_K, (mF σ), (mRow σ), (mRowMany σ), (mLots σ), (mRefused σ)) x2 h8) (cwV 1 hts gX3_court_X3_comes rfl rfl rfl (by decide +kernel) ⟨Nat.le_of_ble_eq_true rfl, Nat.le_of_ble_eq_true rfl⟩) ⟨RW_blind, va_recv hK hP (ci := 3) (q0 := 0) rfl rfl, fun U hU hW => ⟨rfl, by rw [hU]; exact hPc, va_K.moved hW.alike hK, hE.call hW hU hS (fun _ h => h), hDc⟩⟩ rfl rfl hl.1 rfl (lv_room (Nat.le_of_ble_eq_true rfl)) dX3_court_96 ⟨Nat.le_of_ble_eq_true rfl, Nat.le_of_ble_eq_true rfl⟩) hS (fun _ h => h) (fun r u H1 locs hw hP1 hk hS => ?_)
      obtain ⟨hw1, hw⟩ := hw; subst r; subst u
      have hP := hP1
      generalize H1 = H at hP hS ⊢
      have hP : va_P (gD g) vwCl (wM g ad (((comesI s_T s_S x2).2), s_T, s_K, (mF σ), (mRow σ), (mRowMany σ), (mLots σ), (mRefused σ))) H := hP
      have hD : va_D (AD ad 0 21) (wM g ad (((comesI s_T s_S x2).2), s_T, s_K, (mF σ), (mRow σ), (mRowMany σ), (mLots σ), (mRefused σ))) := hD.addr (by rfl)
      refine lv_if_eq (tgt := 105) hx hb dX3_court_99 (by decide) (fun c99 => ?_) (fun c99 => ?_)
      · have hv := hv.1 c99
        refine lv_aload_n hx hb dX3_court_105 rfl (lv_at hl 0 rfl) ?_
        refine lv_iconst (v := 1) hx hb dX3_court_106 (by decide) ?_
        refine lv_iconst (v := 0) hx hb dX3_court_107 (by decide) ?_
        have h8 := hv.1
        have hv := hv.2
        have hPc := hP
        have hDc := hD
        refine rw_void (va_runV (As := [.int 1, .int 0]) (rest := []) ⟨hx, hb, hml, hown, hts⟩ (h_X3_passesAll g ad (((comesI s_T s_S x2).2), s_T, s_K, (mF σ), (mRow σ), (mRowMany σ), (mLots σ), (mRefused σ)) 1 0 h8) (cwV 2 hts gX3_court_X3_passesAll rfl rfl rfl (by decide +kernel) ⟨Nat.le_of_ble_eq_true rfl, Nat.le_of_ble_eq_true rfl⟩) ⟨RW_blind, va_recv hK hP (ci := 3) (q0 := 0) rfl rfl, fun U hU hW => ⟨rfl, by rw [hU]; exact hPc, va_K.moved hW.alike hK, hE.call hW hU hS (fun _ h => h), hDc⟩⟩ rfl rfl hl.1 rfl (lv_room (Nat.le_of_ble_eq_true rfl)) dX3_court_108 ⟨Nat.le_of_ble_eq_true rfl, Nat.le_of_ble_eq_true rfl⟩) hS (fun _ h => h) (fun u H1 locs hw hP1 hk hS => ?_)
        subst u
        have hP := hP1
        generalize H1 = H at hP hS ⊢
        have hP : va_P (gD g) vwCl (wM g ad ((if (0 : Int32) = 0 then loadS (kKept s_K) (92 * (1 : Int32)) ((comesI s_T s_S x2).2) else ((comesI s_T s_S x2).2)), s_T, ((if (0 : Int32) = 0 then (kKept s_K) else saveS (kKept s_K) (92 * (1 : Int32)) ((comesI s_T s_S x2).2), (kHas s_K), (0 : Int32), 92 * (1 : Int32) + 92)), (mF σ), (mRow σ), (mRowMany σ), (mLots σ), (mRefused σ))) H := hP
        have hD : va_D (AD ad 0 21) (wM g ad ((if (0 : Int32) = 0 then loadS (kKept s_K) (92 * (1 : Int32)) ((comesI s_T s_S x2).2) else ((comesI s_T s_S x2).2)), s_T, ((if (0 : Int32) = 0 then (kKept s_K) else saveS (kKept s_K) (92 * (1 : Int32)) ((comesI s_T s_S x2).2), (kHas s_K), (0 : Int32), 92 * (1 : Int32) + 92)), (mF σ), (mRow σ), (mRowMany σ), (mLots σ), (mRefused σ))) := hD.addr (by rfl)
        refine lv_sipush (v := (-2000)) hx hb dX3_court_111 (by decide) ?_
        refine lv_aload_n hx hb dX3_court_114 rfl (lv_at hl 0 rfl) ?_
        refine va_get (D := gD g) (ci := 3) (v := .ref (ad 14)) (C := RX3) (T := TX3) (N := 33) hx hb hts hi3 hown hK hP 0 rfl rfl 18 (by decide) k3 (fun _ h9 => h9) rfl dX3_court_115 ?_
        refine lv_iload_n hx hb dX3_court_118 rfl (lv_at hl 1 rfl) ?_
        have h9 := hv.1
        have hv := hv.2
        refine va_iald (f := (tLetterAt s_T)) (n := 48) hx hb hK hP 14 0 rfl rfl h9 dX3_court_119 ?_
        refine lv_isub hx hb dX3_court_120 ?_
        exact W.iret (v := ((-2000) - ((tLetterAt s_T) (x2).toNatClampNeg))) hx hb hr (fun t ht hW => ⟨⟨((-2000) - ((tLetterAt s_T) (x2).toNatClampNeg)), ((if (0 : Int32) = 0 then loadS (kKept s_K) (92 * (1 : Int32)) ((comesI s_T s_S x2).2) else ((comesI s_T s_S x2).2)), s_T, ((if (0 : Int32) = 0 then (kKept s_K) else saveS (kKept s_K) (92 * (1 : Int32)) ((comesI s_T s_S x2).2), (kHas s_K), (0 : Int32), 92 * (1 : Int32) + 92)), (mF σ), (mRow σ), (mRowMany σ), (mLots σ), (mRefused σ)), rfl, hv, P_at ht hP⟩, hS.F ht⟩) hS.2.2 dX3_court_121
      · have hv := hv.2 c99
        refine lv_goto (tgt := 122) hx hb dX3_court_102 (by decide) ?_
        refine lv_iinc (v := (x2 + 1)) (lv' := [(2, .int (x2 + 1)), (0, .ref (ad 0))]) hx hb dX3_court_122 hl (k := 1) rfl (by first | rfl | exact congrArg _ (by decide)) (by decide) rfl (fun ls hl => ?_)
        refine lv_goto (tgt := 86) hx hb dX3_court_125 (by decide) ?_
        exact hv H locs ls hP hD hS (lv_sub hl [1, 0] rfl))
  obtain ⟨H, hH⟩ : ∃ z, z = s.heap := ⟨_, rfl⟩
  obtain ⟨locs, hL⟩ : ∃ z : List Loc, z = [] := ⟨_, rfl⟩
  rw [← hL] at hS ⊢
  have hS : va_S (AD ad 0 21) s.heap H locs := by rw [hH]; exact hS
  rw [← hH] at hP ⊢
  clear hH hL
  refine lv_aload_n hx hb dX3_court_0 rfl (lv_at hl 0 rfl) ?_
  refine lv_iconst (v := 0) hx hb dX3_court_1 (by decide) ?_
  refine va_put (D := gD g) (ci := 3) (v := .int 0) (ty := .int) (C := RX3) (T := TX3) (N := 33) hx hb hts hi3 tyX3 tyX3_ok nmX3 hown hK hP hD hS 0 rfl rfl 21 (by decide) k0 (fun _ h9 => h9) rfl (by decide +kernel) rfl rfl (Nat.le_of_ble_eq_true rfl) dX3_court_2 (fun H locs hP hD hS => ?_)
  have hP : va_P (gD g) vwCl (wM g ad ((mS σ), ((tTape (mT σ)), (tLetter (mT σ)), (tLetterAt (mT σ)), (tTold (mT σ)), (tTaped (mT σ)), 0, (tStm (mT σ))), (mK σ), (mF σ), (mRow σ), (mRowMany σ), (mLots σ), (mRefused σ))) H := hP
  have hD : va_D (AD ad 0 21) (wM g ad ((mS σ), ((tTape (mT σ)), (tLetter (mT σ)), (tLetterAt (mT σ)), (tTold (mT σ)), (tTaped (mT σ)), 0, (tStm (mT σ))), (mK σ), (mF σ), (mRow σ), (mRowMany σ), (mLots σ), (mRefused σ))) := hD
  refine lv_aload_n hx hb dX3_court_5 rfl (lv_at hl 0 rfl) ?_
  refine lv_iconst (v := 0) hx hb dX3_court_6 (by decide) ?_
  refine va_put (D := gD g) (ci := 3) (v := .int 0) (ty := .int) (C := RX3) (T := TX3) (N := 33) hx hb hts hi3 tyX3 tyX3_ok nmX3 hown hK hP hD hS 0 rfl rfl 22 (by decide) k1 (fun _ h9 => h9) rfl (by decide +kernel) rfl rfl (Nat.le_of_ble_eq_true rfl) dX3_court_7 (fun H locs hP hD hS => ?_)
  have hP : va_P (gD g) vwCl (wM g ad ((mS σ), ((tTape (mT σ)), (tLetter (mT σ)), (tLetterAt (mT σ)), (tTold (mT σ)), (tTaped (mT σ)), 0, 0), (mK σ), (mF σ), (mRow σ), (mRowMany σ), (mLots σ), (mRefused σ))) H := hP
  have hD : va_D (AD ad 0 21) (wM g ad ((mS σ), ((tTape (mT σ)), (tLetter (mT σ)), (tLetterAt (mT σ)), (tTold (mT σ)), (tTaped (mT σ)), 0, 0), (mK σ), (mF σ), (mRow σ), (mRowMany σ), (mLots σ), (mRefused σ))) := hD
  refine lv_iconst (v := 1) hx hb dX3_court_10 (by decide) ?_
  refine lv_istore_n (lv' := [(1, .int 1), (0, .ref (ad 0))]) hx hb dX3_court_11 rfl hl (by decide) rfl (fun ls hl => ?_)
  exact hv H locs ls hP hD hS (lv_sub hl [1, 0] rfl)

set_option maxHeartbeats 4000000 in
set_option maxRecDepth 100000 in
theorem m_X3_lots (l : Launch) (h_X3_asksOne : C_X3_asksOne l) (h_X3_bound : C_X3_bound l) (h_X3_draw : C_X3_draw l) (h_X3_findFit : C_X3_findFit l) (h_X3_isIn : C_X3_isIn l) (h_X3_manyIn : C_X3_manyIn l) (h_X3_no : C_X3_no l) (h_X3_passesAll : C_X3_passesAll l) (g : CX) (ad : Nat → Nat) (σ : KM) (p0 : Int32) (p1 : Int32) (p2 : Int32) (Post : Int32 → KM → Prop) (hv : vc_X3_lots σ p0 p1 p2 Post) : Met l yX3_lots wsX3_lots { frames := 7, cells := 0, slots := 0, locals := 160 } (va_Pc [.ref (ad 0), .int p0, .int p1, .int p2] (RW g (AD ad 0 21) (wM g ad σ))) (va_Qi (fun (r : Int32) (u : KM) => Post r u) (fun u t => va_P (gD g) vwCl (wM g ad u) t.heap) (AD ad 0 21)) 0 0 (AD ad 0 21) := by
  unfold vc_X3_lots at hv
  refine Met.ofW (cc := cX3_lots) (maxL := 10) (ret := (some .int)) (by decide) rfl ?_
  intro p e s m args below meth c s₁ B hml hv0
  obtain ⟨rfl, hP, hK, hE, hD⟩ := hv0
  have hx := B.exec
  have hb := B.bytes
  have hr := B.returns
  have hts := atoms_spec (ws := wsX3_lots) B.pre
  have hown : s.vm.findClass RX3 = some m.cls := findClass_of_methodNamed B.named
  have hlocks := B.notSynchronized
  have hi3 : ∀ w ∈ wsX30, w ∈ wsX3_lots := by decide +kernel
  have k0 := hts (.fieldLink RX3 275 "JuryHearsAnswersModel" "lots" "I") (by decide +kernel)
  have k1 := hts (.fieldLink RX3 76 "JuryHearsAnswersModel" "witnesses" "I") (by decide +kernel)
  have k2 := hts (.fieldLink RX3 70 "JuryHearsAnswersModel" "questions" "I") (by decide +kernel)
  have k3 := hts (.fieldLink RX3 58 "JuryHearsAnswersModel" "fit" "[I") (by decide +kernel)
  have hS : va_S (AD ad 0 21) s.heap s.heap [] := va_S.rf
  have hP : va_P (gD g) vwCl (wM g ad σ) s.heap := hP
  have hl := lv_entry ([.ref (ad 0), .int p0, .int p1, .int p2]) (n := 10) (Nat.le_of_ble_eq_true rfl)
  rw [lg_entry_eq]
  generalize (lg_sl ([.ref (ad 0), .int p0, .int p1, .int p2]) ++ List.replicate (10 - (lg_sl ([.ref (ad 0), .int p0, .int p1, .int p2])).length) Slot.unset).toArray = ls at hl ⊢
  have hl : lv_has ls 10 [(0, .ref (ad 0)), (1, .int p0), (2, .int p1), (3, .int p2)] := hl
  have hv := hv (fun (x5 : Int32) (x6 : Int32) (x7 : Int32) (s_F_fit : FI) (s_K : KK) (s_S : SS) (s_lots : Int32) (s_refused : FI) => ∀ (H : Heap) (locs : List Loc) (ls : Array Slot), va_P (gD g) vwCl (wM g ad (s_S, (mT σ), s_K, (s_F_fit, (fLeft (mF σ)), (fLeftBy (mF σ))), (mRow σ), (mRowMany σ), s_lots, s_refused)) H → va_D (AD ad 0 21) (wM g ad (s_S, (mT σ), s_K, (s_F_fit, (fLeft (mF σ)), (fLeftBy (mF σ))), (mRow σ), (mRowMany σ), s_lots, s_refused)) → va_S (AD ad 0 21) s.heap H locs → lv_has ls 10 [(0, .ref (ad 0)), (1, .int p0), (3, .int p2), (5, .int x5), (6, .int x6), (7, .int x7)] → W p l e { frames := 7, cells := 0, slots := 0, locals := 160 } s m ([.ref (ad 0), .int p0, .int p1, .int p2] : List Value).toArray below meth c H locs 0 0 (MQ below (va_Qi (fun (r : Int32) (u : KM) => Post r u) (fun u t => va_P (gD g) vwCl (wM g ad u) t.heap) (AD ad 0 21)) ([.ref (ad 0), .int p0, .int p1, .int p2] : List Value).toArray s 0 0 (AD ad 0 21)) (F0 m 76 ls []))
  have hv := hv (fun (x5 : Int32) (x6 : Int32) (x7 : Int32) (x8 : Int32) (s_F_fit : FI) (s_K : KK) (s_S : SS) (s_lots : Int32) (s_refused : FI) => ∀ (H : Heap) (locs : List Loc) (ls : Array Slot), va_P (gD g) vwCl (wM g ad (s_S, (mT σ), s_K, (s_F_fit, (fLeft (mF σ)), (fLeftBy (mF σ))), (mRow σ), (mRowMany σ), s_lots, s_refused)) H → va_D (AD ad 0 21) (wM g ad (s_S, (mT σ), s_K, (s_F_fit, (fLeft (mF σ)), (fLeftBy (mF σ))), (mRow σ), (mRowMany σ), s_lots, s_refused)) → va_S (AD ad 0 21) s.heap H locs → lv_has ls 10 [(0, .ref (ad 0)), (1, .int p0), (3, .int p2), (5, .int x5), (6, .int x6), (7, .int x7), (8, .int x8)] → W p l e { frames := 7, cells := 0, slots := 0, locals := 160 } s m ([.ref (ad 0), .int p0, .int p1, .int p2] : List Value).toArray below meth c H locs 0 0 (MQ below (va_Qi (fun (r : Int32) (u : KM) => Post r u) (fun u t => va_P (gD g) vwCl (wM g ad u) t.heap) (AD ad 0 21)) ([.ref (ad 0), .int p0, .int p1, .int p2] : List Value).toArray s 0 0 (AD ad 0 21)) (F0 m 91 ls []))
  have hv := hv (by
    intro x5 x6 x7 s_F_fit s_K s_S s_lots s_refused hv H locs ls hP hD hS hl
    refine lv_iload hx hb dX3_lots_76 (lv_at hl 5 rfl) ?_
    refine lv_iload_n hx hb dX3_lots_78 rfl (lv_at hl 1 rfl) ?_
    refine lv_icmp_ge (tgt := 171) hx hb dX3_lots_79 (by decide) (fun c79 => ?_) (fun c79 => ?_)
    · have hv := hv.1 c79
      refine lv_iload_n hx hb dX3_lots_171 rfl (lv_at hl 2 rfl) ?_
      refine lv_if_ne (tgt := 180) hx hb dX3_lots_172 (by decide) (fun c172 => ?_) (fun c172 => ?_)
      · have hv := hv.1 c172
        refine lv_iload hx hb dX3_lots_180 (lv_at hl 4 rfl) ?_
        exact W.iret (v := x6) hx hb hr (fun t ht hW => ⟨⟨x6, (s_S, (mT σ), s_K, (s_F_fit, (fLeft (mF σ)), (fLeftBy (mF σ))), (mRow σ), (mRowMany σ), s_lots, s_refused), rfl, hv, P_at ht hP⟩, hS.F ht⟩) hS.2.2 dX3_lots_182
      · have hv := hv.2 c172
        refine lv_iload hx hb dX3_lots_175 (lv_at hl 3 rfl) ?_
        refine lv_goto (tgt := 182) hx hb dX3_lots_177 (by decide) ?_
        exact W.iret (v := x5) hx hb hr (fun t ht hW => ⟨⟨x5, (s_S, (mT σ), s_K, (s_F_fit, (fLeft (mF σ)), (fLeftBy (mF σ))), (mRow σ), (mRowMany σ), s_lots, s_refused), rfl, hv, P_at ht hP⟩, hS.F ht⟩) hS.2.2 dX3_lots_182
    · have hv := hv.2 c79
      refine lv_aload_n hx hb dX3_lots_82 rfl (lv_at hl 0 rfl) ?_
      refine lv_iconst (v := 2) hx hb dX3_lots_83 (by decide) ?_
      refine lv_iconst (v := 1) hx hb dX3_lots_84 (by decide) ?_
      have h8 := hv.1
      have hv := hv.2
      have hPc := hP
      have hDc := hD
      refine rw_void (va_runV (As := [.int 2, .int 1]) (rest := []) ⟨hx, hb, hml, hown, hts⟩ (h_X3_passesAll g ad (s_S, (mT σ), s_K, (s_F_fit, (fLeft (mF σ)), (fLeftBy (mF σ))), (mRow σ), (mRowMany σ), s_lots, s_refused) 2 1 h8) (cwV 2 hts gX3_lots_X3_passesAll rfl rfl rfl (by decide +kernel) ⟨Nat.le_of_ble_eq_true rfl, Nat.le_of_ble_eq_true rfl⟩) ⟨RW_blind, va_recv hK hP (ci := 3) (q0 := 0) rfl rfl, fun U hU hW => ⟨rfl, by rw [hU]; exact hPc, va_K.moved hW.alike hK, hE.call hW hU hS (fun _ h => h), hDc⟩⟩ rfl rfl hl.1 rfl (lv_room (Nat.le_of_ble_eq_true rfl)) dX3_lots_85 ⟨Nat.le_of_ble_eq_true rfl, Nat.le_of_ble_eq_true rfl⟩) hS (fun _ h => h) (fun u H1 locs hw hP1 hk hS => ?_)
      subst u
      have hP := hP1
      generalize H1 = H at hP hS ⊢
      have hP : va_P (gD g) vwCl (wM g ad ((if (1 : Int32) = 0 then loadS (kKept s_K) (92 * (2 : Int32)) s_S else s_S), (mT σ), ((if (1 : Int32) = 0 then (kKept s_K) else saveS (kKept s_K) (92 * (2 : Int32)) s_S, (kHas s_K), (1 : Int32), 92 * (2 : Int32) + 92)), (s_F_fit, (fLeft (mF σ)), (fLeftBy (mF σ))), (mRow σ), (mRowMany σ), s_lots, s_refused)) H := hP
      have hD : va_D (AD ad 0 21) (wM g ad ((if (1 : Int32) = 0 then loadS (kKept s_K) (92 * (2 : Int32)) s_S else s_S), (mT σ), ((if (1 : Int32) = 0 then (kKept s_K) else saveS (kKept s_K) (92 * (2 : Int32)) s_S, (kHas s_K), (1 : Int32), 92 * (2 : Int32) + 92)), (s_F_fit, (fLeft (mF σ)), (fLeftBy (mF σ))), (mRow σ), (mRowMany σ), s_lots, s_refused)) := hD.addr (by rfl)
      refine lv_iconst (v := 0) hx hb dX3_lots_88 (by decide) ?_
      refine lv_istore (lv' := [(8, .int 0), (0, .ref (ad 0)), (1, .int p0), (3, .int p2), (5, .int x5), (6, .int x6), (7, .int x7)]) hx hb dX3_lots_89 hl (by decide) rfl (fun ls hl => ?_)
      exact hv H locs ls hP hD hS (lv_sub hl [1, 2, 3, 4, 5, 6, 0] rfl))
  have hv := hv (by
    intro x5 x6 x7 x8 s_F_fit s_K s_S s_lots s_refused hv H locs ls hP hD hS hl
    refine lv_iload hx hb dX3_lots_91 (lv_at hl 6 rfl) ?_
    refine lv_bipush (v := 6) hx hb dX3_lots_93 (by decide) ?_
    refine lv_icmp_ge (tgt := 142) hx hb dX3_lots_95 (by decide) (fun c95 => ?_) (fun c95 => ?_)
    · have hv := hv.1 c95
      refine lv_aload_n hx hb dX3_lots_142 rfl (lv_at hl 0 rfl) ?_
      refine lv_iconst (v := 0) hx hb dX3_lots_143 (by decide) ?_
      have h8 := hv.1
      have hv := hv.2
      have hPc := hP
      have hDc := hD
      refine rw_void (va_runV (As := [.int 0]) (rest := []) ⟨hx, hb, hml, hown, hts⟩ (h_X3_findFit g ad (s_S, (mT σ), s_K, (s_F_fit, (fLeft (mF σ)), (fLeftBy (mF σ))), (mRow σ), (mRowMany σ), s_lots, s_refused) 0 h8) (cwV 1 hts gX3_lots_X3_findFit rfl rfl rfl (by decide +kernel) ⟨Nat.le_of_ble_eq_true rfl, Nat.le_of_ble_eq_true rfl⟩) ⟨RW_blind, va_recv hK hP (ci := 3) (q0 := 0) rfl rfl, fun U hU hW => ⟨rfl, by rw [hU]; exact hPc, va_K.moved hW.alike hK, hE.call hW hU hS (fun _ h => h), hDc⟩⟩ rfl rfl hl.1 rfl (lv_room (Nat.le_of_ble_eq_true rfl)) dX3_lots_144 ⟨Nat.le_of_ble_eq_true rfl, Nat.le_of_ble_eq_true rfl⟩) hS (fun _ h => h) (fun u H1 locs hw hP1 hk hS => ?_)
      subst u
      have hP := hP1
      generalize H1 = H at hP hS ⊢
      have hP : va_P (gD g) vwCl (wM g ad (s_S, (mT σ), s_K, ((fitM s_S (0 : Int32) s_F_fit), (fLeft (mF σ)), (fLeftBy (mF σ))), (mRow σ), (mRowMany σ), s_lots, s_refused)) H := hP
      have hD : va_D (AD ad 0 21) (wM g ad (s_S, (mT σ), s_K, ((fitM s_S (0 : Int32) s_F_fit), (fLeft (mF σ)), (fLeftBy (mF σ))), (mRow σ), (mRowMany σ), s_lots, s_refused)) := hD.addr (by rfl)
      refine lv_iload hx hb dX3_lots_147 (lv_at hl 4 rfl) ?_
      refine lv_aload_n hx hb dX3_lots_149 rfl (lv_at hl 0 rfl) ?_
      refine va_get (D := gD g) (ci := 3) (v := .ref (ad 17)) (C := RX3) (T := TX3) (N := 33) hx hb hts hi3 hown hK hP 0 rfl rfl 27 (by decide) k3 (fun _ h9 => h9) rfl dX3_lots_150 ?_
      have hPc : va_P (gD g) vwCl (wA g ad 17 (fitM s_S (0 : Int32) s_F_fit)) H := hP.sub [17] rfl
      refine ro_int (va_runS (As := [.ref (ad 17)]) (rest := [.int x6]) ⟨hx, hb, hml, hown, hts⟩ (h_X3_manyIn g ad 17 (fitM s_S (0 : Int32) s_F_fit)) (va_cwS 1 hts gX3_lots_X3_manyIn rfl rfl rfl (by decide +kernel) ⟨Nat.le_of_ble_eq_true rfl, Nat.le_of_ble_eq_true rfl⟩) ⟨RO_blind, fun U hU hW => ⟨rfl, by rw [hU]; exact hPc, va_K.moved hW.alike hK, hE.call hW hU hS (fun _ h => h.elim)⟩⟩ rfl rfl hl.1 rfl (lv_room (Nat.le_of_ble_eq_true rfl)) dX3_lots_153 ⟨Nat.le_of_ble_eq_true rfl, Nat.le_of_ble_eq_true rfl⟩) hS hP (fun r H locs hw hP hS => ?_)
      subst r
      refine lv_iadd hx hb dX3_lots_156 ?_
      refine lv_istore (lv' := [(6, .int (x6 + (sumN (fitM s_S (0 : Int32) s_F_fit) 64))), (0, .ref (ad 0)), (1, .int p0), (3, .int p2), (5, .int x5), (7, .int x7), (8, .int x8)]) hx hb dX3_lots_157 hl (by decide) rfl (fun ls hl => ?_)
      refine lv_aload_n hx hb dX3_lots_159 rfl (lv_at hl 1 rfl) ?_
      refine lv_iconst (v := 2) hx hb dX3_lots_160 (by decide) ?_
      refine lv_iconst (v := 0) hx hb dX3_lots_161 (by decide) ?_
      have h8 := hv.1
      have hv := hv.2
      have hPc := hP
      have hDc := hD
      refine rw_void (va_runV (As := [.int 2, .int 0]) (rest := []) ⟨hx, hb, hml, hown, hts⟩ (h_X3_passesAll g ad (s_S, (mT σ), s_K, ((fitM s_S (0 : Int32) s_F_fit), (fLeft (mF σ)), (fLeftBy (mF σ))), (mRow σ), (mRowMany σ), s_lots, s_refused) 2 0 h8) (cwV 2 hts gX3_lots_X3_passesAll rfl rfl rfl (by decide +kernel) ⟨Nat.le_of_ble_eq_true rfl, Nat.le_of_ble_eq_true rfl⟩) ⟨RW_blind, va_recv hK hP (ci := 3) (q0 := 0) rfl rfl, fun U hU hW => ⟨rfl, by rw [hU]; exact hPc, va_K.moved hW.alike hK, hE.call hW hU hS (fun _ h => h), hDc⟩⟩ rfl rfl hl.1 rfl (lv_room (Nat.le_of_ble_eq_true rfl)) dX3_lots_162 ⟨Nat.le_of_ble_eq_true rfl, Nat.le_of_ble_eq_true rfl⟩) hS (fun _ h => h) (fun u H1 locs hw hP1 hk hS => ?_)
      subst u
      have hP := hP1
      generalize H1 = H at hP hS ⊢
      have hP : va_P (gD g) vwCl (wM g ad ((if (0 : Int32) = 0 then loadS (kKept s_K) (92 * (2 : Int32)) s_S else s_S), (mT σ), ((if (0 : Int32) = 0 then (kKept s_K) else saveS (kKept s_K) (92 * (2 : Int32)) s_S, (kHas s_K), (0 : Int32), 92 * (2 : Int32) + 92)), ((fitM s_S (0 : Int32) s_F_fit), (fLeft (mF σ)), (fLeftBy (mF σ))), (mRow σ), (mRowMany σ), s_lots, s_refused)) H := hP
      have hD : va_D (AD ad 0 21) (wM g ad ((if (0 : Int32) = 0 then loadS (kKept s_K) (92 * (2 : Int32)) s_S else s_S), (mT σ), ((if (0 : Int32) = 0 then (kKept s_K) else saveS (kKept s_K) (92 * (2 : Int32)) s_S, (kHas s_K), (0 : Int32), 92 * (2 : Int32) + 92)), ((fitM s_S (0 : Int32) s_F_fit), (fLeft (mF σ)), (fLeftBy (mF σ))), (mRow σ), (mRowMany σ), s_lots, s_refused)) := hD.addr (by rfl)
      refine lv_iinc (v := (x7 + 1)) (lv' := [(7, .int (x7 + 1)), (6, .int (x6 + (sumN (fitM s_S (0 : Int32) s_F_fit) 64))), (0, .ref (ad 0)), (1, .int p0), (3, .int p2), (5, .int x5), (8, .int x8)]) hx hb dX3_lots_165 hl (k := 5) rfl (by first | rfl | exact congrArg _ (by decide)) (by decide) rfl (fun ls hl => ?_)
      refine lv_goto (tgt := 76) hx hb dX3_lots_168 (by decide) ?_
      exact hv H locs ls hP hD hS (lv_sub hl [2, 3, 4, 5, 1, 0] rfl)
    · have hv := hv.2 c95
      refine lv_aload_n hx hb dX3_lots_98 rfl (lv_at hl 0 rfl) ?_
      refine lv_aload_n hx hb dX3_lots_99 rfl (lv_at hl 0 rfl) ?_
      refine va_get (D := gD g) (ci := 3) (v := .int (sNw s_S)) (C := RX3) (T := TX3) (N := 33) hx hb hts hi3 hown hK hP 0 rfl rfl 13 (by decide) k1 (fun _ h9 => h9) rfl dX3_lots_100 ?_
      have h8 := hv.1
      have hv := hv.2
      have hPc := hP
      have hDc := hD
      refine rw_int (va_runV (As := [.int (sNw s_S)]) (rest := []) ⟨hx, hb, hml, hown, hts⟩ (h_X3_draw g ad (s_S, (mT σ), s_K, (s_F_fit, (fLeft (mF σ)), (fLeftBy (mF σ))), (mRow σ), (mRowMany σ), s_lots, s_refused) (sNw s_S) h8) (cwV 1 hts gX3_lots_X3_draw rfl rfl rfl (by decide +kernel) ⟨Nat.le_of_ble_eq_true rfl, Nat.le_of_ble_eq_true rfl⟩) ⟨RW_blind, va_recv hK hP (ci := 3) (q0 := 0) rfl rfl, fun U hU hW => ⟨rfl, by rw [hU]; exact hPc, va_K.moved hW.alike hK, hE.call hW hU hS (fun _ h => h), hDc⟩⟩ rfl rfl hl.1 rfl (lv_room (Nat.le_of_ble_eq_true rfl)) dX3_lots_103 ⟨Nat.le_of_ble_eq_true rfl, Nat.le_of_ble_eq_true rfl⟩) hS (fun _ h => h) (fun r u H1 locs hw hP1 hk hS => ?_)
      obtain ⟨hw1, hw⟩ := hw; subst r; subst u
      have hP := hP1
      generalize H1 = H at hP hS ⊢
      have hP : va_P (gD g) vwCl (wM g ad (s_S, (mT σ), s_K, (s_F_fit, (fLeft (mF σ)), (fLeftBy (mF σ))), (mRow σ), (mRowMany σ), (drawZ s_lots), s_refused)) H := hP
      have hD : va_D (AD ad 0 21) (wM g ad (s_S, (mT σ), s_K, (s_F_fit, (fLeft (mF σ)), (fLeftBy (mF σ))), (mRow σ), (mRowMany σ), (drawZ s_lots), s_refused)) := hD.addr (by rfl)
      refine lv_istore (lv' := [(9, .int (drawV s_lots (sNw s_S))), (0, .ref (ad 0)), (1, .int p0), (3, .int p2), (5, .int x5), (6, .int x6), (7, .int x7), (8, .int x8)]) hx hb dX3_lots_106 hl (by decide) rfl (fun ls hl => ?_)
      refine lv_iload hx hb dX3_lots_108 (lv_at hl 4 rfl) ?_
      refine lv_aload_n hx hb dX3_lots_110 rfl (lv_at hl 1 rfl) ?_
      refine lv_iload hx hb dX3_lots_111 (lv_at hl 0 rfl) ?_
      refine lv_aload_n hx hb dX3_lots_113 rfl (lv_at hl 1 rfl) ?_
      refine lv_aload_n hx hb dX3_lots_114 rfl (lv_at hl 1 rfl) ?_
      refine va_get (D := gD g) (ci := 3) (v := .int (sNq s_S)) (C := RX3) (T := TX3) (N := 33) hx hb hts hi3 hown hK hP 0 rfl rfl 12 (by decide) k2 (fun _ h9 => h9) rfl dX3_lots_115 ?_
      have h8 := hv.1
      have hv := hv.2
      have hPc := hP
      have hDc := hD
      refine rw_int (va_runV (As := [.int (sNq s_S)]) (rest := [.int (drawV s_lots (sNw s_S)), .ref (ad 0), .int x5]) ⟨hx, hb, hml, hown, hts⟩ (h_X3_draw g ad (s_S, (mT σ), s_K, (s_F_fit, (fLeft (mF σ)), (fLeftBy (mF σ))), (mRow σ), (mRowMany σ), (drawZ s_lots), s_refused) (sNq s_S) h8) (cwV 1 hts gX3_lots_X3_draw rfl rfl rfl (by decide +kernel) ⟨Nat.le_of_ble_eq_true rfl, Nat.le_of_ble_eq_true rfl⟩) ⟨RW_blind, va_recv hK hP (ci := 3) (q0 := 0) rfl rfl, fun U hU hW => ⟨rfl, by rw [hU]; exact hPc, va_K.moved hW.alike hK, hE.call hW hU hS (fun _ h => h), hDc⟩⟩ rfl rfl hl.1 rfl (lv_room (Nat.le_of_ble_eq_true rfl)) dX3_lots_118 ⟨Nat.le_of_ble_eq_true rfl, Nat.le_of_ble_eq_true rfl⟩) hS (fun _ h => h) (fun r u H1 locs hw hP1 hk hS => ?_)
      obtain ⟨hw1, hw⟩ := hw; subst r; subst u
      have hP := hP1
      generalize H1 = H at hP hS ⊢
      have hP : va_P (gD g) vwCl (wM g ad (s_S, (mT σ), s_K, (s_F_fit, (fLeft (mF σ)), (fLeftBy (mF σ))), (mRow σ), (mRowMany σ), (drawZ (drawZ s_lots)), s_refused)) H := hP
      have hD : va_D (AD ad 0 21) (wM g ad (s_S, (mT σ), s_K, (s_F_fit, (fLeft (mF σ)), (fLeftBy (mF σ))), (mRow σ), (mRowMany σ), (drawZ (drawZ s_lots)), s_refused)) := hD.addr (by rfl)
      have h8 := hv.1
      have hv := hv.2
      have hPc := hP
      have hDc := hD
      refine rw_int (va_runV (As := [.int (drawV s_lots (sNw s_S)), .int (drawV (drawZ s_lots) (sNq s_S))]) (rest := [.int x5]) ⟨hx, hb, hml, hown, hts⟩ (h_X3_asksOne g ad (s_S, (mT σ), s_K, (s_F_fit, (fLeft (mF σ)), (fLeftBy (mF σ))), (mRow σ), (mRowMany σ), (drawZ (drawZ s_lots)), s_refused) (drawV s_lots (sNw s_S)) (drawV (drawZ s_lots) (sNq s_S)) h8) (cwV 2 hts gX3_lots_X3_asksOne rfl rfl rfl (by decide +kernel) ⟨Nat.le_of_ble_eq_true rfl, Nat.le_of_ble_eq_true rfl⟩) ⟨RW_blind, va_recv hK hP (ci := 3) (q0 := 0) rfl rfl, fun U hU hW => ⟨rfl, by rw [hU]; exact hPc, va_K.moved hW.alike hK, hE.call hW hU hS (fun _ h => h), hDc⟩⟩ rfl rfl hl.1 rfl (lv_room (Nat.le_of_ble_eq_true rfl)) dX3_lots_121 ⟨Nat.le_of_ble_eq_true rfl, Nat.le_of_ble_eq_true rfl⟩) hS (fun _ h => h) (fun r u H1 locs hw hP1 hk hS => ?_)
      obtain ⟨hw1, hw⟩ := hw; subst r; subst u
      have hP := hP1
      generalize H1 = H at hP hS ⊢
      have hP : va_P (gD g) vwCl (wM g ad ((askS s_S (drawV s_lots (sNw s_S)) (drawV (drawZ s_lots) (sNq s_S))), (mT σ), s_K, (s_F_fit, (fLeft (mF σ)), (fLeftBy (mF σ))), (mRow σ), (mRowMany σ), (drawZ (drawZ s_lots)), s_refused)) H := hP
      have hD : va_D (AD ad 0 21) (wM g ad ((askS s_S (drawV s_lots (sNw s_S)) (drawV (drawZ s_lots) (sNq s_S))), (mT σ), s_K, (s_F_fit, (fLeft (mF σ)), (fLeftBy (mF σ))), (mRow σ), (mRowMany σ), (drawZ (drawZ s_lots)), s_refused)) := hD.addr (by rfl)
      refine lv_iconst (v := 1) hx hb dX3_lots_124 (by decide) ?_
      refine lv_icmp_ne (tgt := 132) hx hb dX3_lots_125 (by decide) (fun c125 => ?_) (fun c125 => ?_)
      · have hv := hv.1 c125
        refine lv_iconst (v := 0) hx hb dX3_lots_132 (by decide) ?_
        refine lv_iadd hx hb dX3_lots_133 ?_
        refine lv_istore (lv' := [(5, .int (x5 + 0)), (9, .int (drawV s_lots (sNw s_S))), (0, .ref (ad 0)), (1, .int p0), (3, .int p2), (6, .int x6), (7, .int x7), (8, .int x8)]) hx hb dX3_lots_134 hl (by decide) rfl (fun ls hl => ?_)
        refine lv_iinc (v := (x8 + 1)) (lv' := [(8, .int (x8 + 1)), (5, .int (x5 + 0)), (9, .int (drawV s_lots (sNw s_S))), (0, .ref (ad 0)), (1, .int p0), (3, .int p2), (6, .int x6), (7, .int x7)]) hx hb dX3_lots_136 hl (k := 7) rfl (by first | rfl | exact congrArg _ (by decide)) (by decide) rfl (fun ls hl => ?_)
        refine lv_goto (tgt := 91) hx hb dX3_lots_139 (by decide) ?_
        exact hv H locs ls hP hD hS (lv_sub hl [3, 4, 5, 1, 6, 7, 0] rfl)
      · have hv := hv.2 c125
        refine lv_iconst (v := 1) hx hb dX3_lots_128 (by decide) ?_
        refine lv_goto (tgt := 133) hx hb dX3_lots_129 (by decide) ?_
        refine lv_iadd hx hb dX3_lots_133 ?_
        refine lv_istore (lv' := [(5, .int (x5 + 1)), (9, .int (drawV s_lots (sNw s_S))), (0, .ref (ad 0)), (1, .int p0), (3, .int p2), (6, .int x6), (7, .int x7), (8, .int x8)]) hx hb dX3_lots_134 hl (by decide) rfl (fun ls hl => ?_)
        refine lv_iinc (v := (x8 + 1)) (lv' := [(8, .int (x8 + 1)), (5, .int (x5 + 1)), (9, .int (drawV s_lots (sNw s_S))), (0, .ref (ad 0)), (1, .int p0), (3, .int p2), (6, .int x6), (7, .int x7)]) hx hb dX3_lots_136 hl (k := 7) rfl (by first | rfl | exact congrArg _ (by decide)) (by decide) rfl (fun ls hl => ?_)
        refine lv_goto (tgt := 91) hx hb dX3_lots_139 (by decide) ?_
        exact hv H locs ls hP hD hS (lv_sub hl [3, 4, 5, 1, 6, 7, 0] rfl))
  obtain ⟨H, hH⟩ : ∃ z, z = s.heap := ⟨_, rfl⟩
  obtain ⟨locs, hL⟩ : ∃ z : List Loc, z = [] := ⟨_, rfl⟩
  rw [← hL] at hS ⊢
  have hS : va_S (AD ad 0 21) s.heap H locs := by rw [hH]; exact hS
  rw [← hH] at hP ⊢
  clear hH hL
  refine lv_iload_n hx hb dX3_lots_0 rfl (lv_at hl 1 rfl) ?_
  refine lv_iconst (v := 1) hx hb dX3_lots_1 (by decide) ?_
  refine lv_bipush (v := 20) hx hb dX3_lots_2 (by decide) ?_
  have hPc : va_P (gD g) vwCl [] H := fun k q h => by simp at h
  refine ro_int (va_runS (As := [.int p0, .int 1, .int 20]) (rest := []) ⟨hx, hb, hml, hown, hts⟩ (h_X3_bound g p0 1 20) (va_cwS 3 hts gX3_lots_X3_bound rfl rfl rfl (by decide +kernel) ⟨Nat.le_of_ble_eq_true rfl, Nat.le_of_ble_eq_true rfl⟩) ⟨RO_blind, fun U hU hW => ⟨rfl, by rw [hU]; exact hPc, va_K.moved hW.alike hK, hE.call hW hU hS (fun _ h => h.elim)⟩⟩ rfl rfl hl.1 rfl (lv_room (Nat.le_of_ble_eq_true rfl)) dX3_lots_4 ⟨Nat.le_of_ble_eq_true rfl, Nat.le_of_ble_eq_true rfl⟩) hS hP (fun r H locs hw hP hS => ?_)
  subst r
  refine lv_istore (lv' := [(4, .int (boundI p0 (1 : Int32) (20 : Int32))), (0, .ref (ad 0)), (1, .int p0), (2, .int p1), (3, .int p2)]) hx hb dX3_lots_7 hl (by decide) rfl (fun ls hl => ?_)
  refine lv_iload hx hb dX3_lots_9 (lv_at hl 0 rfl) ?_
  refine lv_if_ne (tgt := 50) hx hb dX3_lots_11 (by decide) (fun c11 => ?_) (fun c11 => ?_)
  · have hv := hv.1 c11
    refine lv_iload hx hb dX3_lots_50 (lv_at hl 0 rfl) ?_
    refine lv_if_eq (tgt := 62) hx hb dX3_lots_52 (by decide) (fun c52 => ?_) (fun c52 => ?_)
    · have hv := hv.1 c52
      refine lv_aload_n hx hb dX3_lots_62 rfl (lv_at hl 1 rfl) ?_
      refine lv_iload_n hx hb dX3_lots_63 rfl (lv_at hl 3 rfl) ?_
      refine va_put (D := gD g) (ci := 3) (v := .int p1) (ty := .int) (C := RX3) (T := TX3) (N := 33) hx hb hts hi3 tyX3 tyX3_ok nmX3 hown hK hP hD hS 0 rfl rfl 32 (by decide) k0 (fun _ h9 => h9) rfl (by decide +kernel) rfl rfl (Nat.le_of_ble_eq_true rfl) dX3_lots_64 (fun H locs hP hD hS => ?_)
      have hP : va_P (gD g) vwCl (wM g ad ((mS σ), (mT σ), (mK σ), (mF σ), (mRow σ), (mRowMany σ), p1, (mRefused σ))) H := hP
      have hD : va_D (AD ad 0 21) (wM g ad ((mS σ), (mT σ), (mK σ), (mF σ), (mRow σ), (mRowMany σ), p1, (mRefused σ))) := hD
      refine lv_iconst (v := 0) hx hb dX3_lots_67 (by decide) ?_
      refine lv_istore (lv' := [(5, .int 0), (4, .int (boundI p0 (1 : Int32) (20 : Int32))), (0, .ref (ad 0)), (1, .int p0), (2, .int p1), (3, .int p2)]) hx hb dX3_lots_68 hl (by decide) rfl (fun ls hl => ?_)
      refine lv_iconst (v := 0) hx hb dX3_lots_70 (by decide) ?_
      refine lv_istore (lv' := [(6, .int 0), (5, .int 0), (4, .int (boundI p0 (1 : Int32) (20 : Int32))), (0, .ref (ad 0)), (1, .int p0), (2, .int p1), (3, .int p2)]) hx hb dX3_lots_71 hl (by decide) rfl (fun ls hl => ?_)
      refine lv_iconst (v := 0) hx hb dX3_lots_73 (by decide) ?_
      refine lv_istore (lv' := [(7, .int 0), (6, .int 0), (5, .int 0), (4, .int (boundI p0 (1 : Int32) (20 : Int32))), (0, .ref (ad 0)), (1, .int p0), (2, .int p1), (3, .int p2)]) hx hb dX3_lots_74 hl (by decide) rfl (fun ls hl => ?_)
      exact hv H locs ls hP hD hS (lv_sub hl [4, 5, 7, 2, 1, 0] rfl)
    · have hv := hv.2 c52
      refine lv_aload_n hx hb dX3_lots_55 rfl (lv_at hl 1 rfl) ?_
      refine lv_iload hx hb dX3_lots_56 (lv_at hl 0 rfl) ?_
      have h8 := hv.1
      have hv := hv.2
      have hPc := hP
      have hDc := hD
      refine rw_int (va_runV (As := [.int (boundI p0 (1 : Int32) (20 : Int32))]) (rest := []) ⟨hx, hb, hml, hown, hts⟩ (h_X3_no g ad σ (boundI p0 (1 : Int32) (20 : Int32)) h8) (cwV 1 hts gX3_lots_X3_no rfl rfl rfl (by decide +kernel) ⟨Nat.le_of_ble_eq_true rfl, Nat.le_of_ble_eq_true rfl⟩) ⟨RW_blind, va_recv hK hP (ci := 3) (q0 := 0) rfl rfl, fun U hU hW => ⟨rfl, by rw [hU]; exact hPc, va_K.moved hW.alike hK, hE.call hW hU hS (fun _ h => h), hDc⟩⟩ rfl rfl hl.1 rfl (lv_room (Nat.le_of_ble_eq_true rfl)) dX3_lots_58 ⟨Nat.le_of_ble_eq_true rfl, Nat.le_of_ble_eq_true rfl⟩) hS (fun _ h => h) (fun r u H1 locs hw hP1 hk hS => ?_)
      obtain ⟨hw1, hw⟩ := hw; subst r; subst u
      have hP := hP1
      generalize H1 = H at hP hS ⊢
      have hP : va_P (gD g) vwCl (wM g ad ((mS σ), (mT σ), (mK σ), (mF σ), (mRow σ), (mRowMany σ), (mLots σ), (refuX (mRefused σ) (boundI p0 (1 : Int32) (20 : Int32))))) H := hP
      have hD : va_D (AD ad 0 21) (wM g ad ((mS σ), (mT σ), (mK σ), (mF σ), (mRow σ), (mRowMany σ), (mLots σ), (refuX (mRefused σ) (boundI p0 (1 : Int32) (20 : Int32))))) := hD.addr (by rfl)
      exact W.iret (v := ((boundI p0 (1 : Int32) (20 : Int32)))) hx hb hr (fun t ht hW => ⟨⟨((boundI p0 (1 : Int32) (20 : Int32))), ((mS σ), (mT σ), (mK σ), (mF σ), (mRow σ), (mRowMany σ), (mLots σ), (refuX (mRefused σ) (boundI p0 (1 : Int32) (20 : Int32)))), rfl, hv, P_at ht hP⟩, hS.F ht⟩) hS.2.2 dX3_lots_61
  · have hv := hv.2 c11
    refine lv_iload_n hx hb dX3_lots_14 rfl (lv_at hl 4 rfl) ?_
    refine lv_iconst (v := 0) hx hb dX3_lots_15 (by decide) ?_
    refine lv_iconst (v := 1) hx hb dX3_lots_16 (by decide) ?_
    have hPc : va_P (gD g) vwCl [] H := fun k q h => by simp at h
    refine ro_int (va_runS (As := [.int p2, .int 0, .int 1]) (rest := []) ⟨hx, hb, hml, hown, hts⟩ (h_X3_isIn g p2 0 1) (va_cwS 3 hts gX3_lots_X3_isIn rfl rfl rfl (by decide +kernel) ⟨Nat.le_of_ble_eq_true rfl, Nat.le_of_ble_eq_true rfl⟩) ⟨RO_blind, fun U hU hW => ⟨rfl, by rw [hU]; exact hPc, va_K.moved hW.alike hK, hE.call hW hU hS (fun _ h => h.elim)⟩⟩ rfl rfl hl.1 rfl (lv_room (Nat.le_of_ble_eq_true rfl)) dX3_lots_17 ⟨Nat.le_of_ble_eq_true rfl, Nat.le_of_ble_eq_true rfl⟩) hS hP (fun r H locs hw hP hS => ?_)
    subst r
    refine lv_if_ne (tgt := 28) hx hb dX3_lots_20 (by decide) (fun c20 => ?_) (fun c20 => ?_)
    · have hv := hv.1 c20
      refine lv_aload_n hx hb dX3_lots_28 rfl (lv_at hl 1 rfl) ?_
      refine va_get (D := gD g) (ci := 3) (v := .int (sNw (mS σ))) (C := RX3) (T := TX3) (N := 33) hx hb hts hi3 hown hK hP 0 rfl rfl 13 (by decide) k1 (fun _ h9 => h9) rfl dX3_lots_29 ?_
      refine lv_if_eq (tgt := 42) hx hb dX3_lots_32 (by decide) (fun c32 => ?_) (fun c32 => ?_)
      · have hv := hv.1 c32
        refine lv_bipush (v := (-3)) hx hb dX3_lots_42 (by decide) ?_
        refine lv_goto (tgt := 48) hx hb dX3_lots_44 (by decide) ?_
        refine lv_istore (lv' := [(4, .int (-3)), (0, .ref (ad 0)), (1, .int p0), (2, .int p1), (3, .int p2)]) hx hb dX3_lots_48 hl (by decide) rfl (fun ls hl => ?_)
        refine lv_iload hx hb dX3_lots_50 (lv_at hl 0 rfl) ?_
        refine lv_if_eq (tgt := 62) hx hb dX3_lots_52 (by decide) (fun c52 => ?_) (fun c52 => ?_)
        · exact absurd c52 (by decide)
        · refine lv_aload_n hx hb dX3_lots_55 rfl (lv_at hl 1 rfl) ?_
          refine lv_iload hx hb dX3_lots_56 (lv_at hl 0 rfl) ?_
          have h8 := hv.1
          have hv := hv.2
          have hPc := hP
          have hDc := hD
          refine rw_int (va_runV (As := [.int (-3)]) (rest := []) ⟨hx, hb, hml, hown, hts⟩ (h_X3_no g ad σ (-3) h8) (cwV 1 hts gX3_lots_X3_no rfl rfl rfl (by decide +kernel) ⟨Nat.le_of_ble_eq_true rfl, Nat.le_of_ble_eq_true rfl⟩) ⟨RW_blind, va_recv hK hP (ci := 3) (q0 := 0) rfl rfl, fun U hU hW => ⟨rfl, by rw [hU]; exact hPc, va_K.moved hW.alike hK, hE.call hW hU hS (fun _ h => h), hDc⟩⟩ rfl rfl hl.1 rfl (lv_room (Nat.le_of_ble_eq_true rfl)) dX3_lots_58 ⟨Nat.le_of_ble_eq_true rfl, Nat.le_of_ble_eq_true rfl⟩) hS (fun _ h => h) (fun r u H1 locs hw hP1 hk hS => ?_)
          obtain ⟨hw1, hw⟩ := hw; subst r; subst u
          have hP := hP1
          generalize H1 = H at hP hS ⊢
          have hP : va_P (gD g) vwCl (wM g ad ((mS σ), (mT σ), (mK σ), (mF σ), (mRow σ), (mRowMany σ), (mLots σ), (refuX (mRefused σ) ((-3) : Int32)))) H := hP
          have hD : va_D (AD ad 0 21) (wM g ad ((mS σ), (mT σ), (mK σ), (mF σ), (mRow σ), (mRowMany σ), (mLots σ), (refuX (mRefused σ) ((-3) : Int32)))) := hD.addr (by rfl)
          exact W.iret (v := (((-3) : Int32))) hx hb hr (fun t ht hW => ⟨⟨(((-3) : Int32)), ((mS σ), (mT σ), (mK σ), (mF σ), (mRow σ), (mRowMany σ), (mLots σ), (refuX (mRefused σ) ((-3) : Int32))), rfl, hv, P_at ht hP⟩, hS.F ht⟩) hS.2.2 dX3_lots_61
      · have hv := hv.2 c32
        refine lv_aload_n hx hb dX3_lots_35 rfl (lv_at hl 1 rfl) ?_
        refine va_get (D := gD g) (ci := 3) (v := .int (sNq (mS σ))) (C := RX3) (T := TX3) (N := 33) hx hb hts hi3 hown hK hP 0 rfl rfl 12 (by decide) k2 (fun _ h9 => h9) rfl dX3_lots_36 ?_
        refine lv_if_ne (tgt := 47) hx hb dX3_lots_39 (by decide) (fun c39 => ?_) (fun c39 => ?_)
        · have hv := hv.1 c39
          refine lv_iconst (v := 0) hx hb dX3_lots_47 (by decide) ?_
          refine lv_istore (lv' := [(4, .int 0), (0, .ref (ad 0)), (1, .int p0), (2, .int p1), (3, .int p2)]) hx hb dX3_lots_48 hl (by decide) rfl (fun ls hl => ?_)
          refine lv_iload hx hb dX3_lots_50 (lv_at hl 0 rfl) ?_
          refine lv_if_eq (tgt := 62) hx hb dX3_lots_52 (by decide) (fun c52 => ?_) (fun c52 => ?_)
          · refine lv_aload_n hx hb dX3_lots_62 rfl (lv_at hl 1 rfl) ?_
            refine lv_iload_n hx hb dX3_lots_63 rfl (lv_at hl 3 rfl) ?_
            refine va_put (D := gD g) (ci := 3) (v := .int p1) (ty := .int) (C := RX3) (T := TX3) (N := 33) hx hb hts hi3 tyX3 tyX3_ok nmX3 hown hK hP hD hS 0 rfl rfl 32 (by decide) k0 (fun _ h9 => h9) rfl (by decide +kernel) rfl rfl (Nat.le_of_ble_eq_true rfl) dX3_lots_64 (fun H locs hP hD hS => ?_)
            have hP : va_P (gD g) vwCl (wM g ad ((mS σ), (mT σ), (mK σ), (mF σ), (mRow σ), (mRowMany σ), p1, (mRefused σ))) H := hP
            have hD : va_D (AD ad 0 21) (wM g ad ((mS σ), (mT σ), (mK σ), (mF σ), (mRow σ), (mRowMany σ), p1, (mRefused σ))) := hD
            refine lv_iconst (v := 0) hx hb dX3_lots_67 (by decide) ?_
            refine lv_istore (lv' := [(5, .int 0), (4, .int 0), (0, .ref (ad 0)), (1, .int p0), (2, .int p1), (3, .int p2)]) hx hb dX3_lots_68 hl (by decide) rfl (fun ls hl => ?_)
            refine lv_iconst (v := 0) hx hb dX3_lots_70 (by decide) ?_
            refine lv_istore (lv' := [(6, .int 0), (5, .int 0), (4, .int 0), (0, .ref (ad 0)), (1, .int p0), (2, .int p1), (3, .int p2)]) hx hb dX3_lots_71 hl (by decide) rfl (fun ls hl => ?_)
            refine lv_iconst (v := 0) hx hb dX3_lots_73 (by decide) ?_
            refine lv_istore (lv' := [(7, .int 0), (6, .int 0), (5, .int 0), (4, .int 0), (0, .ref (ad 0)), (1, .int p0), (2, .int p1), (3, .int p2)]) hx hb dX3_lots_74 hl (by decide) rfl (fun ls hl => ?_)
            exact hv H locs ls hP hD hS (lv_sub hl [4, 5, 7, 2, 1, 0] rfl)
          · exact (c52 (by decide)).elim
        · have hv := hv.2 c39
          refine lv_bipush (v := (-3)) hx hb dX3_lots_42 (by decide) ?_
          refine lv_goto (tgt := 48) hx hb dX3_lots_44 (by decide) ?_
          refine lv_istore (lv' := [(4, .int (-3)), (0, .ref (ad 0)), (1, .int p0), (2, .int p1), (3, .int p2)]) hx hb dX3_lots_48 hl (by decide) rfl (fun ls hl => ?_)
          refine lv_iload hx hb dX3_lots_50 (lv_at hl 0 rfl) ?_
          refine lv_if_eq (tgt := 62) hx hb dX3_lots_52 (by decide) (fun c52 => ?_) (fun c52 => ?_)
          · exact absurd c52 (by decide)
          · refine lv_aload_n hx hb dX3_lots_55 rfl (lv_at hl 1 rfl) ?_
            refine lv_iload hx hb dX3_lots_56 (lv_at hl 0 rfl) ?_
            have h8 := hv.1
            have hv := hv.2
            have hPc := hP
            have hDc := hD
            refine rw_int (va_runV (As := [.int (-3)]) (rest := []) ⟨hx, hb, hml, hown, hts⟩ (h_X3_no g ad σ (-3) h8) (cwV 1 hts gX3_lots_X3_no rfl rfl rfl (by decide +kernel) ⟨Nat.le_of_ble_eq_true rfl, Nat.le_of_ble_eq_true rfl⟩) ⟨RW_blind, va_recv hK hP (ci := 3) (q0 := 0) rfl rfl, fun U hU hW => ⟨rfl, by rw [hU]; exact hPc, va_K.moved hW.alike hK, hE.call hW hU hS (fun _ h => h), hDc⟩⟩ rfl rfl hl.1 rfl (lv_room (Nat.le_of_ble_eq_true rfl)) dX3_lots_58 ⟨Nat.le_of_ble_eq_true rfl, Nat.le_of_ble_eq_true rfl⟩) hS (fun _ h => h) (fun r u H1 locs hw hP1 hk hS => ?_)
            obtain ⟨hw1, hw⟩ := hw; subst r; subst u
            have hP := hP1
            generalize H1 = H at hP hS ⊢
            have hP : va_P (gD g) vwCl (wM g ad ((mS σ), (mT σ), (mK σ), (mF σ), (mRow σ), (mRowMany σ), (mLots σ), (refuX (mRefused σ) ((-3) : Int32)))) H := hP
            have hD : va_D (AD ad 0 21) (wM g ad ((mS σ), (mT σ), (mK σ), (mF σ), (mRow σ), (mRowMany σ), (mLots σ), (refuX (mRefused σ) ((-3) : Int32)))) := hD.addr (by rfl)
            exact W.iret (v := (((-3) : Int32))) hx hb hr (fun t ht hW => ⟨⟨(((-3) : Int32)), ((mS σ), (mT σ), (mK σ), (mF σ), (mRow σ), (mRowMany σ), (mLots σ), (refuX (mRefused σ) ((-3) : Int32))), rfl, hv, P_at ht hP⟩, hS.F ht⟩) hS.2.2 dX3_lots_61
    · have hv := hv.2 c20
      refine lv_bipush (v := (-2)) hx hb dX3_lots_23 (by decide) ?_
      refine lv_goto (tgt := 48) hx hb dX3_lots_25 (by decide) ?_
      refine lv_istore (lv' := [(4, .int (-2)), (0, .ref (ad 0)), (1, .int p0), (2, .int p1), (3, .int p2)]) hx hb dX3_lots_48 hl (by decide) rfl (fun ls hl => ?_)
      refine lv_iload hx hb dX3_lots_50 (lv_at hl 0 rfl) ?_
      refine lv_if_eq (tgt := 62) hx hb dX3_lots_52 (by decide) (fun c52 => ?_) (fun c52 => ?_)
      · exact absurd c52 (by decide)
      · refine lv_aload_n hx hb dX3_lots_55 rfl (lv_at hl 1 rfl) ?_
        refine lv_iload hx hb dX3_lots_56 (lv_at hl 0 rfl) ?_
        have h8 := hv.1
        have hv := hv.2
        have hPc := hP
        have hDc := hD
        refine rw_int (va_runV (As := [.int (-2)]) (rest := []) ⟨hx, hb, hml, hown, hts⟩ (h_X3_no g ad σ (-2) h8) (cwV 1 hts gX3_lots_X3_no rfl rfl rfl (by decide +kernel) ⟨Nat.le_of_ble_eq_true rfl, Nat.le_of_ble_eq_true rfl⟩) ⟨RW_blind, va_recv hK hP (ci := 3) (q0 := 0) rfl rfl, fun U hU hW => ⟨rfl, by rw [hU]; exact hPc, va_K.moved hW.alike hK, hE.call hW hU hS (fun _ h => h), hDc⟩⟩ rfl rfl hl.1 rfl (lv_room (Nat.le_of_ble_eq_true rfl)) dX3_lots_58 ⟨Nat.le_of_ble_eq_true rfl, Nat.le_of_ble_eq_true rfl⟩) hS (fun _ h => h) (fun r u H1 locs hw hP1 hk hS => ?_)
        obtain ⟨hw1, hw⟩ := hw; subst r; subst u
        have hP := hP1
        generalize H1 = H at hP hS ⊢
        have hP : va_P (gD g) vwCl (wM g ad ((mS σ), (mT σ), (mK σ), (mF σ), (mRow σ), (mRowMany σ), (mLots σ), (refuX (mRefused σ) ((-2) : Int32)))) H := hP
        have hD : va_D (AD ad 0 21) (wM g ad ((mS σ), (mT σ), (mK σ), (mF σ), (mRow σ), (mRowMany σ), (mLots σ), (refuX (mRefused σ) ((-2) : Int32)))) := hD.addr (by rfl)
        exact W.iret (v := (((-2) : Int32))) hx hb hr (fun t ht hW => ⟨⟨(((-2) : Int32)), ((mS σ), (mT σ), (mK σ), (mF σ), (mRow σ), (mRowMany σ), (mLots σ), (refuX (mRefused σ) ((-2) : Int32))), rfl, hv, P_at ht hP⟩, hS.F ht⟩) hS.2.2 dX3_lots_61

