set_option maxHeartbeats 4000000 in
set_option maxRecDepth 100000 in
theorem m_X2_image (l : Launch) (h_X0_becomes_17_4 : C_X0_becomes_17_4 l) (g : CX) (ad : Nat → Nat) (σ : KX)  (Post : Int32 → KX → Prop) (hv : vc_X2_image σ Post) : Met l yX2_image wsX2_image { frames := 2, cells := 0, slots := 0, locals := 81 } (va_Pc [.ref (ad 0)] (RW g (AD ad 0 45) (wX g ad σ))) (va_Qi (fun (r : Int32) (u : KX) => Post r u) (fun u t => va_P (gD g) vwCl (wX g ad u) t.heap) (AD ad 0 45)) 0 0 (AD ad 0 45) := by
  unfold vc_X2_image at hv
  refine Met.ofW (cc := cX2_image) (maxL := 1) (ret := (some .int)) (by decide) rfl ?_
  intro p e s m args below meth c s₁ B hml hv0
  obtain ⟨rfl, hP, hK, hE, hD⟩ := hv0
  have hx := B.exec
  have hb := B.bytes
  have hr := B.returns
  have hts := atoms_spec (ws := wsX2_image) B.pre
  have hown : s.vm.findClass RX2 = some m.cls := findClass_of_methodNamed B.named
  have hlocks := B.notSynchronized
  have hi0 : ∀ w ∈ wsX00, w ∈ wsX2_image := by decide +kernel
  have hi2 : ∀ w ∈ wsX20, w ∈ wsX2_image := by decide +kernel
  have k0 := hts (.fieldLink RX2 16 "JuryHearsAnswers" "taken" "LJuryHearsAnswers$Court;") (by decide +kernel)
  have k1 := hts (.fieldLink RX2 10 "JuryHearsAnswers" "now" "LJuryHearsAnswers$Court;") (by decide +kernel)
  have k2 := hts (.fieldLink RX2 221 "JuryHearsAnswers" "isTaken" "Z") (by decide +kernel)
  have k3 := hts (.fieldLink RX2 90 "JuryHearsAnswers$Court" "asked" "I") (by decide +kernel)
  have hS : va_S (AD ad 0 45) s.heap s.heap [] := va_S.rf
  have hP : va_P (gD g) vwCl (wX g ad σ) s.heap := hP
  have hl := lv_entry ([.ref (ad 0)]) (n := 1) (Nat.le_of_ble_eq_true rfl)
  rw [lg_entry_eq]
  generalize (lg_sl ([.ref (ad 0)]) ++ List.replicate (1 - (lg_sl ([.ref (ad 0)])).length) Slot.unset).toArray = ls at hl ⊢
  have hl : lv_has ls 1 [(0, .ref (ad 0))] := hl
  obtain ⟨H, hH⟩ : ∃ z, z = s.heap := ⟨_, rfl⟩
  obtain ⟨locs, hL⟩ : ∃ z : List Loc, z = [] := ⟨_, rfl⟩
  rw [← hL] at hS ⊢
  have hS : va_S (AD ad 0 45) s.heap H locs := by rw [hH]; exact hS
  rw [← hH] at hP ⊢
  clear hH hL
  refine lv_aload_n hx hb dX2_image_0 rfl (lv_at hl 0 rfl) ?_
  refine va_get (D := gD g) (ci := 2) (v := .ref (ad 17)) (C := RX2) (T := TX2) (N := 9) hx hb hts hi2 hown hK hP 0 rfl rfl 1 (by decide) k0 (fun _ h9 => h9) rfl dX2_image_1 ?_
  refine lv_aload_n hx hb dX2_image_4 rfl (lv_at hl 0 rfl) ?_
  refine va_get (D := gD g) (ci := 2) (v := .ref (ad 4)) (C := RX2) (T := TX2) (N := 9) hx hb hts hi2 hown hK hP 0 rfl rfl 0 (by decide) k1 (fun _ h9 => h9) rfl dX2_image_5 ?_
  have h8 := hv.1
  have hv := hv.2
  have hPc : va_P (gD g) vwCl (wT g ad ((xNow σ), (xTaken σ), (xTrial σ))) H := hP.sub [4, 5, 6, 7, 8, 9, 10, 11, 12, 13, 14, 15, 16, 17, 18, 19, 20, 21, 22, 23, 24, 25, 26, 27, 28, 29, 30, 31, 32, 33, 34, 35, 36, 37, 38, 39, 40, 41, 42] rfl
  have hDc : va_D (AD ad 4 39) (wT g ad ((xNow σ), (xTaken σ), (xTrial σ))) := ⟨(hD.sub [4, 5, 6, 7, 8, 9, 10, 11, 12, 13, 14, 15, 16, 17, 18, 19, 20, 21, 22, 23, 24, 25, 26, 27, 28, 29, 30, 31, 32, 33, 34, 35, 36, 37, 38, 39, 40, 41, 42] (by decide) rfl).1, AD_of rfl⟩
  have hAc : ∀ q, (AD ad 4 39) q → (AD ad 0 45) q := AD_sub (by decide) (by decide)
  refine rw_void (va_runV (As := [.ref (ad 4)]) (rest := []) ⟨hx, hb, hml, hown, hts⟩ (h_X0_becomes_17_4 g ad ((xNow σ), (xTaken σ), (xTrial σ)) h8) (cwV 1 hts gX2_image_X0_becomes rfl rfl rfl (by decide +kernel) ⟨Nat.le_of_ble_eq_true rfl, Nat.le_of_ble_eq_true rfl⟩) ⟨RW_blind, va_recv hK hP (ci := 0) (q0 := 17) rfl rfl, fun U hU hW => ⟨rfl, by rw [hU]; exact hPc, va_K.moved hW.alike hK, hE.call hW hU hS hAc, hDc⟩⟩ rfl rfl hl.1 rfl (lv_room (Nat.le_of_ble_eq_true rfl)) dX2_image_8 ⟨Nat.le_of_ble_eq_true rfl, Nat.le_of_ble_eq_true rfl⟩) hS hAc (fun u H1 locs hw hP1 hk hS => ?_)
  subst u
  have hP := mid_at hP hD 4 39 (b := wT g ad ((xNow σ), (xTaken σ), (xTrial σ))) rfl (AD_at rfl) hk hP1 rfl
  generalize H1 = H at hP hS ⊢
  have hP : va_P (gD g) vwCl (wX g ad ((xNow σ), ((xNow σ)), (xTrial σ), (xScr σ), (xRow σ), (xRefus σ), (xKept σ), (xRowLen σ), (xIsTaken σ))) H := hP
  have hD : va_D (AD ad 0 45) (wX g ad ((xNow σ), ((xNow σ)), (xTrial σ), (xScr σ), (xRow σ), (xRefus σ), (xKept σ), (xRowLen σ), (xIsTaken σ))) := hD.addr (by rfl)
  refine lv_aload_n hx hb dX2_image_11 rfl (lv_at hl 0 rfl) ?_
  refine lv_iconst (v := 1) hx hb dX2_image_12 (by decide) ?_
  refine va_put (D := gD g) (ci := 2) (v := .int 1) (ty := .boolean) (C := RX2) (T := TX2) (N := 9) hx hb hts hi2 tyX2 tyX2_ok nmX2 hown hK hP hD hS 0 rfl rfl 8 (by decide) k2 (fun _ h9 => h9) rfl (by decide +kernel) rfl rfl (Nat.le_of_ble_eq_true rfl) dX2_image_13 (fun H locs hP hD hS => ?_)
  have hP : va_P (gD g) vwCl (wX g ad ((xNow σ), ((xNow σ)), (xTrial σ), (xScr σ), (xRow σ), (xRefus σ), (xKept σ), (xRowLen σ), 1)) H := hP
  have hD : va_D (AD ad 0 45) (wX g ad ((xNow σ), ((xNow σ)), (xTrial σ), (xScr σ), (xRow σ), (xRefus σ), (xKept σ), (xRowLen σ), 1)) := hD
  refine lv_aload_n hx hb dX2_image_16 rfl (lv_at hl 0 rfl) ?_
  refine va_get (D := gD g) (ci := 2) (v := .ref (ad 4)) (C := RX2) (T := TX2) (N := 9) hx hb hts hi2 hown hK hP 0 rfl rfl 0 (by decide) k1 (fun _ h9 => h9) rfl dX2_image_17 ?_
  refine va_get (D := gD g) (ci := 0) (v := .int (sAsked (cS (xNow σ)))) (C := RX0) (T := TX0) (N := 17) hx hb hts hi0 hown hK hP 4 rfl rfl 1 (by decide) k3 (fun _ h9 => h9) rfl dX2_image_20 ?_
  exact W.iret (v := (sAsked (cS (xNow σ)))) hx hb hr (fun t ht hW => ⟨⟨(sAsked (cS (xNow σ))), ((xNow σ), ((xNow σ)), (xTrial σ), (xScr σ), (xRow σ), (xRefus σ), (xKept σ), (xRowLen σ), 1), rfl, hv, P_at ht hP⟩, hS.F ht⟩) hS.2.2 dX2_image_23

set_option maxHeartbeats 4000000 in
set_option maxRecDepth 100000 in
theorem m_X2_on (l : Launch) (h_X0_becomes_4_17 : C_X0_becomes_4_17 l) (h_X2_refused : C_X2_refused l) (g : CX) (ad : Nat → Nat) (σ : KX)  (Post : Int32 → KX → Prop) (hv : vc_X2_on σ Post) : Met l yX2_on wsX2_on { frames := 2, cells := 0, slots := 0, locals := 81 } (va_Pc [.ref (ad 0)] (RW g (AD ad 0 45) (wX g ad σ))) (va_Qi (fun (r : Int32) (u : KX) => Post r u) (fun u t => va_P (gD g) vwCl (wX g ad u) t.heap) (AD ad 0 45)) 0 0 (AD ad 0 45) := by
  unfold vc_X2_on at hv
  refine Met.ofW (cc := cX2_on) (maxL := 1) (ret := (some .int)) (by decide) rfl ?_
  intro p e s m args below meth c s₁ B hml hv0
  obtain ⟨rfl, hP, hK, hE, hD⟩ := hv0
  have hx := B.exec
  have hb := B.bytes
  have hr := B.returns
  have hts := atoms_spec (ws := wsX2_on) B.pre
  have hown : s.vm.findClass RX2 = some m.cls := findClass_of_methodNamed B.named
  have hlocks := B.notSynchronized
  have hi0 : ∀ w ∈ wsX00, w ∈ wsX2_on := by decide +kernel
  have hi2 : ∀ w ∈ wsX20, w ∈ wsX2_on := by decide +kernel
  have k0 := hts (.fieldLink RX2 221 "JuryHearsAnswers" "isTaken" "Z") (by decide +kernel)
  have k1 := hts (.fieldLink RX2 10 "JuryHearsAnswers" "now" "LJuryHearsAnswers$Court;") (by decide +kernel)
  have k2 := hts (.fieldLink RX2 16 "JuryHearsAnswers" "taken" "LJuryHearsAnswers$Court;") (by decide +kernel)
  have k3 := hts (.fieldLink RX2 90 "JuryHearsAnswers$Court" "asked" "I") (by decide +kernel)
  have hS : va_S (AD ad 0 45) s.heap s.heap [] := va_S.rf
  have hP : va_P (gD g) vwCl (wX g ad σ) s.heap := hP
  have hl := lv_entry ([.ref (ad 0)]) (n := 1) (Nat.le_of_ble_eq_true rfl)
  rw [lg_entry_eq]
  generalize (lg_sl ([.ref (ad 0)]) ++ List.replicate (1 - (lg_sl ([.ref (ad 0)])).length) Slot.unset).toArray = ls at hl ⊢
  have hl : lv_has ls 1 [(0, .ref (ad 0))] := hl
  obtain ⟨H, hH⟩ : ∃ z, z = s.heap := ⟨_, rfl⟩
  obtain ⟨locs, hL⟩ : ∃ z : List Loc, z = [] := ⟨_, rfl⟩
  rw [← hL] at hS ⊢
  have hS : va_S (AD ad 0 45) s.heap H locs := by rw [hH]; exact hS
  rw [← hH] at hP ⊢
  clear hH hL
  refine lv_aload_n hx hb dX2_on_0 rfl (lv_at hl 0 rfl) ?_
  refine va_get (D := gD g) (ci := 2) (v := .int (xIsTaken σ)) (C := RX2) (T := TX2) (N := 9) hx hb hts hi2 hown hK hP 0 rfl rfl 8 (by decide) k0 (fun _ h9 => h9) rfl dX2_on_1 ?_
  refine lv_if_ne (tgt := 14) hx hb dX2_on_4 (by decide) (fun c4 => ?_) (fun c4 => ?_)
  · have hv := hv.1 c4
    refine lv_aload_n hx hb dX2_on_14 rfl (lv_at hl 0 rfl) ?_
    refine va_get (D := gD g) (ci := 2) (v := .ref (ad 4)) (C := RX2) (T := TX2) (N := 9) hx hb hts hi2 hown hK hP 0 rfl rfl 0 (by decide) k1 (fun _ h9 => h9) rfl dX2_on_15 ?_
    refine lv_aload_n hx hb dX2_on_18 rfl (lv_at hl 0 rfl) ?_
    refine va_get (D := gD g) (ci := 2) (v := .ref (ad 17)) (C := RX2) (T := TX2) (N := 9) hx hb hts hi2 hown hK hP 0 rfl rfl 1 (by decide) k2 (fun _ h9 => h9) rfl dX2_on_19 ?_
    have h8 := hv.1
    have hv := hv.2
    have hPc : va_P (gD g) vwCl (wT g ad ((xNow σ), (xTaken σ), (xTrial σ))) H := hP.sub [4, 5, 6, 7, 8, 9, 10, 11, 12, 13, 14, 15, 16, 17, 18, 19, 20, 21, 22, 23, 24, 25, 26, 27, 28, 29, 30, 31, 32, 33, 34, 35, 36, 37, 38, 39, 40, 41, 42] rfl
    have hDc : va_D (AD ad 4 39) (wT g ad ((xNow σ), (xTaken σ), (xTrial σ))) := ⟨(hD.sub [4, 5, 6, 7, 8, 9, 10, 11, 12, 13, 14, 15, 16, 17, 18, 19, 20, 21, 22, 23, 24, 25, 26, 27, 28, 29, 30, 31, 32, 33, 34, 35, 36, 37, 38, 39, 40, 41, 42] (by decide) rfl).1, AD_of rfl⟩
    have hAc : ∀ q, (AD ad 4 39) q → (AD ad 0 45) q := AD_sub (by decide) (by decide)
    refine rw_void (va_runV (As := [.ref (ad 17)]) (rest := []) ⟨hx, hb, hml, hown, hts⟩ (h_X0_becomes_4_17 g ad ((xNow σ), (xTaken σ), (xTrial σ)) h8) (cwV 1 hts gX2_on_X0_becomes rfl rfl rfl (by decide +kernel) ⟨Nat.le_of_ble_eq_true rfl, Nat.le_of_ble_eq_true rfl⟩) ⟨RW_blind, va_recv hK hP (ci := 0) (q0 := 4) rfl rfl, fun U hU hW => ⟨rfl, by rw [hU]; exact hPc, va_K.moved hW.alike hK, hE.call hW hU hS hAc, hDc⟩⟩ rfl rfl hl.1 rfl (lv_room (Nat.le_of_ble_eq_true rfl)) dX2_on_22 ⟨Nat.le_of_ble_eq_true rfl, Nat.le_of_ble_eq_true rfl⟩) hS hAc (fun u H1 locs hw hP1 hk hS => ?_)
    subst u
    have hP := mid_at hP hD 4 39 (b := wT g ad ((xNow σ), (xTaken σ), (xTrial σ))) rfl (AD_at rfl) hk hP1 rfl
    generalize H1 = H at hP hS ⊢
    have hP : va_P (gD g) vwCl (wX g ad (((xTaken σ)), (xTaken σ), (xTrial σ), (xScr σ), (xRow σ), (xRefus σ), (xKept σ), (xRowLen σ), (xIsTaken σ))) H := hP
    have hD : va_D (AD ad 0 45) (wX g ad (((xTaken σ)), (xTaken σ), (xTrial σ), (xScr σ), (xRow σ), (xRefus σ), (xKept σ), (xRowLen σ), (xIsTaken σ))) := hD.addr (by rfl)
    refine lv_aload_n hx hb dX2_on_25 rfl (lv_at hl 0 rfl) ?_
    refine va_get (D := gD g) (ci := 2) (v := .ref (ad 4)) (C := RX2) (T := TX2) (N := 9) hx hb hts hi2 hown hK hP 0 rfl rfl 0 (by decide) k1 (fun _ h9 => h9) rfl dX2_on_26 ?_
    refine va_get (D := gD g) (ci := 0) (v := .int (sAsked (cS ((xTaken σ))))) (C := RX0) (T := TX0) (N := 17) hx hb hts hi0 hown hK hP 4 rfl rfl 1 (by decide) k3 (fun _ h9 => h9) rfl dX2_on_29 ?_
    exact W.iret (v := (sAsked (cS ((xTaken σ))))) hx hb hr (fun t ht hW => ⟨⟨(sAsked (cS ((xTaken σ)))), (((xTaken σ)), (xTaken σ), (xTrial σ), (xScr σ), (xRow σ), (xRefus σ), (xKept σ), (xRowLen σ), (xIsTaken σ)), rfl, hv, P_at ht hP⟩, hS.F ht⟩) hS.2.2 dX2_on_32
  · have hv := hv.2 c4
    refine lv_aload_n hx hb dX2_on_7 rfl (lv_at hl 0 rfl) ?_
    refine lv_bipush (v := (-3)) hx hb dX2_on_8 (by decide) ?_
    have h8 := hv.1
    have hv := hv.2
    have hPc := hP
    have hDc := hD
    refine rw_int (va_runV (As := [.int (-3)]) (rest := []) ⟨hx, hb, hml, hown, hts⟩ (h_X2_refused g ad σ (-3) h8) (cwV 1 hts gX2_on_X2_refused rfl rfl rfl (by decide +kernel) ⟨Nat.le_of_ble_eq_true rfl, Nat.le_of_ble_eq_true rfl⟩) ⟨RW_blind, va_recv hK hP (ci := 2) (q0 := 0) rfl rfl, fun U hU hW => ⟨rfl, by rw [hU]; exact hPc, va_K.moved hW.alike hK, hE.call hW hU hS (fun _ h => h), hDc⟩⟩ rfl rfl hl.1 rfl (lv_room (Nat.le_of_ble_eq_true rfl)) dX2_on_10 ⟨Nat.le_of_ble_eq_true rfl, Nat.le_of_ble_eq_true rfl⟩) hS (fun _ h => h) (fun r u H1 locs hw hP1 hk hS => ?_)
    obtain ⟨hw1, hw⟩ := hw; subst r; subst u
    have hP := hP1
    generalize H1 = H at hP hS ⊢
    have hP : va_P (gD g) vwCl (wX g ad ((xNow σ), (xTaken σ), (xTrial σ), (xScr σ), (xRow σ), (refuX (xRefus σ) ((-3) : Int32)), (xKept σ), (xRowLen σ), (xIsTaken σ))) H := hP
    have hD : va_D (AD ad 0 45) (wX g ad ((xNow σ), (xTaken σ), (xTrial σ), (xScr σ), (xRow σ), (refuX (xRefus σ) ((-3) : Int32)), (xKept σ), (xRowLen σ), (xIsTaken σ))) := hD.addr (by rfl)
    exact W.iret (v := (((-3) : Int32))) hx hb hr (fun t ht hW => ⟨⟨(((-3) : Int32)), ((xNow σ), (xTaken σ), (xTrial σ), (xScr σ), (xRow σ), (refuX (xRefus σ) ((-3) : Int32)), (xKept σ), (xRowLen σ), (xIsTaken σ)), rfl, hv, P_at ht hP⟩, hS.F ht⟩) hS.2.2 dX2_on_13

set_option maxHeartbeats 4000000 in
set_option maxRecDepth 100000 in
theorem m_X2_count (l : Launch) (h_X0_questionsSo : C_X0_questionsSo l) (g : CX) (ad : Nat → Nat) (σ : KX) (p0 : Int32) (Post : Int32 → Prop) (hv : vc_X2_count σ p0 Post) : Met l yX2_count wsX2_count { frames := 4, cells := 0, slots := 0, locals := 85 } (va_Pc [.ref (ad 0), .int p0] (RO g (wX g ad σ))) (va_Qi (fun r (_ : Unit) => Post r) (fun _ _ => True) A0) 0 0 A0 := by
  unfold vc_X2_count at hv
  refine Met.ofW (cc := cX2_count) (maxL := 2) (ret := (some .int)) (by decide) rfl ?_
  intro p e s m args below meth c s₁ B hml hv0
  obtain ⟨rfl, hP, hK, hE⟩ := hv0
  have hx := B.exec
  have hb := B.bytes
  have hr := B.returns
  have hts := atoms_spec (ws := wsX2_count) B.pre
  have hown : s.vm.findClass RX2 = some m.cls := findClass_of_methodNamed B.named
  have hlocks := B.notSynchronized
  have hi0 : ∀ w ∈ wsX00, w ∈ wsX2_count := by decide +kernel
  have hi1 : ∀ w ∈ wsX10, w ∈ wsX2_count := by decide +kernel
  have hi2 : ∀ w ∈ wsX20, w ∈ wsX2_count := by decide +kernel
  have k0 := hts (.fieldLink RX2 10 "JuryHearsAnswers" "now" "LJuryHearsAnswers$Court;") (by decide +kernel)
  have k1 := hts (.fieldLink RX2 179 "JuryHearsAnswers$Court" "questions" "I") (by decide +kernel)
  have k2 := hts (.fieldLink RX2 152 "JuryHearsAnswers$Court" "witnesses" "I") (by decide +kernel)
  have k3 := hts (.fieldLink RX2 60 "JuryHearsAnswers$Court" "caseNow" "I") (by decide +kernel)
  have k4 := hts (.fieldLink RX2 112 "JuryHearsAnswers$Court" "heardLength" "I") (by decide +kernel)
  have k5 := hts (.fieldLink RX2 90 "JuryHearsAnswers$Court" "asked" "I") (by decide +kernel)
  have k6 := hts (.fieldLink RX2 202 "JuryHearsAnswers" "rowLength" "I") (by decide +kernel)
  have k7 := hts (.fieldLink RX2 25 "JuryHearsAnswers" "script" "LJuryHearsAnswers$Script;") (by decide +kernel)
  have k8 := hts (.fieldLink RX2 44 "JuryHearsAnswers$Script" "length" "I") (by decide +kernel)
  have k9 := hts (.fieldLink RX2 33 "JuryHearsAnswers" "refusals" "[I") (by decide +kernel)
  have hS : va_S A0 s.heap s.heap [] := va_S.rf
  have hP : va_P (gD g) vwCl (wX g ad σ) s.heap := hP
  have hl := lv_entry ([.ref (ad 0), .int p0]) (n := 2) (Nat.le_of_ble_eq_true rfl)
  rw [lg_entry_eq]
  generalize (lg_sl ([.ref (ad 0), .int p0]) ++ List.replicate (2 - (lg_sl ([.ref (ad 0), .int p0])).length) Slot.unset).toArray = ls at hl ⊢
  have hl : lv_has ls 2 [(0, .ref (ad 0)), (1, .int p0)] := hl
  obtain ⟨H, hH⟩ : ∃ z, z = s.heap := ⟨_, rfl⟩
  obtain ⟨locs, hL⟩ : ∃ z : List Loc, z = [] := ⟨_, rfl⟩
  rw [← hL] at hS ⊢
  have hS : va_S A0 s.heap H locs := by rw [hH]; exact hS
  rw [← hH] at hP ⊢
  clear hH hL
  refine lv_iload_n hx hb dX2_count_0 rfl (lv_at hl 1 rfl) ?_
  refine lv_bipush (v := 11) hx hb dX2_count_1 (by decide) ?_
  refine lv_icmp_lt (tgt := 22) hx hb dX2_count_3 (by decide) (fun c3 => ?_) (fun c3 => ?_)
  · have hv := hv.1 c3
    refine lv_iload_n hx hb dX2_count_22 rfl (lv_at hl 1 rfl) ?_
    by_cases d23_0 : p0 = 0
    · have hv := hv.1 d23_0
      refine lv_tableIn (off := 45) (tgt := 68) hx hb dX2_count_23 (by rw [d23_0]; decide) (by rw [d23_0]; decide) (by rw [d23_0]; rfl) (by decide) ?_
      refine lv_aload_n hx hb dX2_count_68 rfl (lv_at hl 0 rfl) ?_
      refine va_get (D := gD g) (ci := 2) (v := .ref (ad 4)) (C := RX2) (T := TX2) (N := 9) hx hb hts hi2 hown hK hP 0 rfl rfl 0 (by decide) k0 (fun _ h9 => h9) rfl dX2_count_69 ?_
      refine va_get (D := gD g) (ci := 0) (v := .int (sNq (cS (xNow σ)))) (C := RX0) (T := TX0) (N := 17) hx hb hts hi0 hown hK hP 4 rfl rfl 2 (by decide) k1 (fun _ h9 => h9) rfl dX2_count_72 ?_
      exact W.iret (v := (sNq (cS (xNow σ)))) hx hb hr (fun t ht hW => ⟨⟨(sNq (cS (xNow σ))), (), rfl, hv, trivial⟩, hS.F ht⟩) hS.2.2 dX2_count_75
    · have hv := hv.2 d23_0
      by_cases d23_1 : p0 = 1
      · have hv := hv.1 d23_1
        refine lv_tableIn (off := 53) (tgt := 76) hx hb dX2_count_23 (by rw [d23_1]; decide) (by rw [d23_1]; decide) (by rw [d23_1]; rfl) (by decide) ?_
        refine lv_aload_n hx hb dX2_count_76 rfl (lv_at hl 0 rfl) ?_
        refine va_get (D := gD g) (ci := 2) (v := .ref (ad 4)) (C := RX2) (T := TX2) (N := 9) hx hb hts hi2 hown hK hP 0 rfl rfl 0 (by decide) k0 (fun _ h9 => h9) rfl dX2_count_77 ?_
        refine va_get (D := gD g) (ci := 0) (v := .int (sNw (cS (xNow σ)))) (C := RX0) (T := TX0) (N := 17) hx hb hts hi0 hown hK hP 4 rfl rfl 3 (by decide) k2 (fun _ h9 => h9) rfl dX2_count_80 ?_
        exact W.iret (v := (sNw (cS (xNow σ)))) hx hb hr (fun t ht hW => ⟨⟨(sNw (cS (xNow σ))), (), rfl, hv, trivial⟩, hS.F ht⟩) hS.2.2 dX2_count_83
      · have hv := hv.2 d23_1
        by_cases d23_2 : p0 = 2
        · have hv := hv.1 d23_2
          refine lv_tableIn (off := 61) (tgt := 84) hx hb dX2_count_23 (by rw [d23_2]; decide) (by rw [d23_2]; decide) (by rw [d23_2]; rfl) (by decide) ?_
          refine lv_aload_n hx hb dX2_count_84 rfl (lv_at hl 0 rfl) ?_
          refine va_get (D := gD g) (ci := 2) (v := .ref (ad 4)) (C := RX2) (T := TX2) (N := 9) hx hb hts hi2 hown hK hP 0 rfl rfl 0 (by decide) k0 (fun _ h9 => h9) rfl dX2_count_85 ?_
          refine va_get (D := gD g) (ci := 0) (v := .int (sCase (cS (xNow σ)))) (C := RX0) (T := TX0) (N := 17) hx hb hts hi0 hown hK hP 4 rfl rfl 0 (by decide) k3 (fun _ h9 => h9) rfl dX2_count_88 ?_
          exact W.iret (v := (sCase (cS (xNow σ)))) hx hb hr (fun t ht hW => ⟨⟨(sCase (cS (xNow σ))), (), rfl, hv, trivial⟩, hS.F ht⟩) hS.2.2 dX2_count_91
        · have hv := hv.2 d23_2
          by_cases d23_3 : p0 = 3
          · have hv := hv.1 d23_3
            refine lv_tableIn (off := 69) (tgt := 92) hx hb dX2_count_23 (by rw [d23_3]; decide) (by rw [d23_3]; decide) (by rw [d23_3]; rfl) (by decide) ?_
            refine lv_aload_n hx hb dX2_count_92 rfl (lv_at hl 0 rfl) ?_
            refine va_get (D := gD g) (ci := 2) (v := .ref (ad 4)) (C := RX2) (T := TX2) (N := 9) hx hb hts hi2 hown hK hP 0 rfl rfl 0 (by decide) k0 (fun _ h9 => h9) rfl dX2_count_93 ?_
            refine va_get (D := gD g) (ci := 0) (v := .int (sNh (cS (xNow σ)))) (C := RX0) (T := TX0) (N := 17) hx hb hts hi0 hown hK hP 4 rfl rfl 4 (by decide) k4 (fun _ h9 => h9) rfl dX2_count_96 ?_
            exact W.iret (v := (sNh (cS (xNow σ)))) hx hb hr (fun t ht hW => ⟨⟨(sNh (cS (xNow σ))), (), rfl, hv, trivial⟩, hS.F ht⟩) hS.2.2 dX2_count_99
          · have hv := hv.2 d23_3
            by_cases d23_4 : p0 = 4
            · have hv := hv.1 d23_4
              refine lv_tableIn (off := 77) (tgt := 100) hx hb dX2_count_23 (by rw [d23_4]; decide) (by rw [d23_4]; decide) (by rw [d23_4]; rfl) (by decide) ?_
              refine lv_aload_n hx hb dX2_count_100 rfl (lv_at hl 0 rfl) ?_
              refine va_get (D := gD g) (ci := 2) (v := .ref (ad 4)) (C := RX2) (T := TX2) (N := 9) hx hb hts hi2 hown hK hP 0 rfl rfl 0 (by decide) k0 (fun _ h9 => h9) rfl dX2_count_101 ?_
              refine va_get (D := gD g) (ci := 0) (v := .int (sAsked (cS (xNow σ)))) (C := RX0) (T := TX0) (N := 17) hx hb hts hi0 hown hK hP 4 rfl rfl 1 (by decide) k5 (fun _ h9 => h9) rfl dX2_count_104 ?_
              exact W.iret (v := (sAsked (cS (xNow σ)))) hx hb hr (fun t ht hW => ⟨⟨(sAsked (cS (xNow σ))), (), rfl, hv, trivial⟩, hS.F ht⟩) hS.2.2 dX2_count_107
            · have hv := hv.2 d23_4
              by_cases d23_5 : p0 = 5
              · have hv := hv.1 d23_5
                refine lv_tableIn (off := 85) (tgt := 108) hx hb dX2_count_23 (by rw [d23_5]; decide) (by rw [d23_5]; decide) (by rw [d23_5]; rfl) (by decide) ?_
                refine lv_aload_n hx hb dX2_count_108 rfl (lv_at hl 0 rfl) ?_
                refine va_get (D := gD g) (ci := 2) (v := .ref (ad 4)) (C := RX2) (T := TX2) (N := 9) hx hb hts hi2 hown hK hP 0 rfl rfl 0 (by decide) k0 (fun _ h9 => h9) rfl dX2_count_109 ?_
                have h8 := hv.1
                have hv := hv.2
                have hPc : va_P (gD g) vwCl (wC g ad 4 (xNow σ)) H := hP.sub [4, 5, 6, 7, 8, 9, 10, 11, 12, 13, 14, 15, 16] rfl
                refine ro_int (va_runV (As := []) (rest := []) ⟨hx, hb, hml, hown, hts⟩ (h_X0_questionsSo g ad 4 (xNow σ) h8) (cwV 0 hts gX2_count_X0_questionsSo rfl rfl rfl (by decide +kernel) ⟨Nat.le_of_ble_eq_true rfl, Nat.le_of_ble_eq_true rfl⟩) ⟨RO_blind, va_recv hK hP (ci := 0) (q0 := 4) rfl rfl, fun U hU hW => ⟨rfl, by rw [hU]; exact hPc, va_K.moved hW.alike hK, hE.call hW hU hS (fun _ h => h.elim)⟩⟩ rfl rfl hl.1 rfl (lv_room (Nat.le_of_ble_eq_true rfl)) dX2_count_112 ⟨Nat.le_of_ble_eq_true rfl, Nat.le_of_ble_eq_true rfl⟩) hS hP (fun r H locs hw hP hS => ?_)
                subst r
                exact W.iret (v := (questionsSoI (xNow σ))) hx hb hr (fun t ht hW => ⟨⟨(questionsSoI (xNow σ)), (), rfl, hv, trivial⟩, hS.F ht⟩) hS.2.2 dX2_count_115
              · have hv := hv.2 d23_5
                by_cases d23_6 : p0 = 6
                · have hv := hv.1 d23_6
                  refine lv_tableIn (off := 93) (tgt := 116) hx hb dX2_count_23 (by rw [d23_6]; decide) (by rw [d23_6]; decide) (by rw [d23_6]; rfl) (by decide) ?_
                  refine lv_aload_n hx hb dX2_count_116 rfl (lv_at hl 0 rfl) ?_
                  refine va_get (D := gD g) (ci := 2) (v := .int (xRowLen σ)) (C := RX2) (T := TX2) (N := 9) hx hb hts hi2 hown hK hP 0 rfl rfl 7 (by decide) k6 (fun _ h9 => h9) rfl dX2_count_117 ?_
                  exact W.iret (v := (xRowLen σ)) hx hb hr (fun t ht hW => ⟨⟨(xRowLen σ), (), rfl, hv, trivial⟩, hS.F ht⟩) hS.2.2 dX2_count_120
                · have hv := hv.2 d23_6
                  by_cases d23_7 : p0 = 7
                  · have hv := hv.1 d23_7
                    refine lv_tableIn (off := 98) (tgt := 121) hx hb dX2_count_23 (by rw [d23_7]; decide) (by rw [d23_7]; decide) (by rw [d23_7]; rfl) (by decide) ?_
                    refine lv_aload_n hx hb dX2_count_121 rfl (lv_at hl 0 rfl) ?_
                    refine va_get (D := gD g) (ci := 2) (v := .ref (ad 43)) (C := RX2) (T := TX2) (N := 9) hx hb hts hi2 hown hK hP 0 rfl rfl 3 (by decide) k7 (fun _ h9 => h9) rfl dX2_count_122 ?_
                    refine va_get (D := gD g) (ci := 1) (v := .int (zLen (xScr σ))) (C := RX1) (T := TX1) (N := 2) hx hb hts hi1 hown hK hP 43 rfl rfl 0 (by decide) k8 (fun _ h9 => h9) rfl dX2_count_125 ?_
                    exact W.iret (v := (zLen (xScr σ))) hx hb hr (fun t ht hW => ⟨⟨(zLen (xScr σ)), (), rfl, hv, trivial⟩, hS.F ht⟩) hS.2.2 dX2_count_128
                  · have hv := hv.2 d23_7
                    refine lv_tableOut (tgt := 129) hx hb dX2_count_23 (by have n0 := lv_neT (a := 0) d23_0 (by decide); have n1 := lv_neT (a := 1) d23_1 (by decide); have n2 := lv_neT (a := 2) d23_2 (by decide); have n3 := lv_neT (a := 3) d23_3 (by decide); have n4 := lv_neT (a := 4) d23_4 (by decide); have n5 := lv_neT (a := 5) d23_5 (by decide); have n6 := lv_neT (a := 6) d23_6 (by decide); have n7 := lv_neT (a := 7) d23_7 (by decide); omega) (by decide) ?_
                    refine lv_bipush (v := (-9)) hx hb dX2_count_129 (by decide) ?_
                    exact W.iret (v := (-9)) hx hb hr (fun t ht hW => ⟨⟨(-9), (), rfl, hv, trivial⟩, hS.F ht⟩) hS.2.2 dX2_count_131
  · have hv := hv.2 c3
    refine lv_iload_n hx hb dX2_count_6 rfl (lv_at hl 1 rfl) ?_
    refine lv_bipush (v := 16) hx hb dX2_count_7 (by decide) ?_
    refine lv_icmp_gt (tgt := 22) hx hb dX2_count_9 (by decide) (fun c9 => ?_) (fun c9 => ?_)
    · have hv := hv.1 c9
      refine lv_iload_n hx hb dX2_count_22 rfl (lv_at hl 1 rfl) ?_
      by_cases d23_0 : p0 = 0
      · have hv := hv.1 d23_0
        refine lv_tableIn (off := 45) (tgt := 68) hx hb dX2_count_23 (by rw [d23_0]; decide) (by rw [d23_0]; decide) (by rw [d23_0]; rfl) (by decide) ?_
        refine lv_aload_n hx hb dX2_count_68 rfl (lv_at hl 0 rfl) ?_
        refine va_get (D := gD g) (ci := 2) (v := .ref (ad 4)) (C := RX2) (T := TX2) (N := 9) hx hb hts hi2 hown hK hP 0 rfl rfl 0 (by decide) k0 (fun _ h9 => h9) rfl dX2_count_69 ?_
        refine va_get (D := gD g) (ci := 0) (v := .int (sNq (cS (xNow σ)))) (C := RX0) (T := TX0) (N := 17) hx hb hts hi0 hown hK hP 4 rfl rfl 2 (by decide) k1 (fun _ h9 => h9) rfl dX2_count_72 ?_
        exact W.iret (v := (sNq (cS (xNow σ)))) hx hb hr (fun t ht hW => ⟨⟨(sNq (cS (xNow σ))), (), rfl, hv, trivial⟩, hS.F ht⟩) hS.2.2 dX2_count_75
      · have hv := hv.2 d23_0
        by_cases d23_1 : p0 = 1
        · have hv := hv.1 d23_1
          refine lv_tableIn (off := 53) (tgt := 76) hx hb dX2_count_23 (by rw [d23_1]; decide) (by rw [d23_1]; decide) (by rw [d23_1]; rfl) (by decide) ?_
          refine lv_aload_n hx hb dX2_count_76 rfl (lv_at hl 0 rfl) ?_
          refine va_get (D := gD g) (ci := 2) (v := .ref (ad 4)) (C := RX2) (T := TX2) (N := 9) hx hb hts hi2 hown hK hP 0 rfl rfl 0 (by decide) k0 (fun _ h9 => h9) rfl dX2_count_77 ?_
          refine va_get (D := gD g) (ci := 0) (v := .int (sNw (cS (xNow σ)))) (C := RX0) (T := TX0) (N := 17) hx hb hts hi0 hown hK hP 4 rfl rfl 3 (by decide) k2 (fun _ h9 => h9) rfl dX2_count_80 ?_
          exact W.iret (v := (sNw (cS (xNow σ)))) hx hb hr (fun t ht hW => ⟨⟨(sNw (cS (xNow σ))), (), rfl, hv, trivial⟩, hS.F ht⟩) hS.2.2 dX2_count_83
        · have hv := hv.2 d23_1
          by_cases d23_2 : p0 = 2
          · have hv := hv.1 d23_2
            refine lv_tableIn (off := 61) (tgt := 84) hx hb dX2_count_23 (by rw [d23_2]; decide) (by rw [d23_2]; decide) (by rw [d23_2]; rfl) (by decide) ?_
            refine lv_aload_n hx hb dX2_count_84 rfl (lv_at hl 0 rfl) ?_
            refine va_get (D := gD g) (ci := 2) (v := .ref (ad 4)) (C := RX2) (T := TX2) (N := 9) hx hb hts hi2 hown hK hP 0 rfl rfl 0 (by decide) k0 (fun _ h9 => h9) rfl dX2_count_85 ?_
            refine va_get (D := gD g) (ci := 0) (v := .int (sCase (cS (xNow σ)))) (C := RX0) (T := TX0) (N := 17) hx hb hts hi0 hown hK hP 4 rfl rfl 0 (by decide) k3 (fun _ h9 => h9) rfl dX2_count_88 ?_
            exact W.iret (v := (sCase (cS (xNow σ)))) hx hb hr (fun t ht hW => ⟨⟨(sCase (cS (xNow σ))), (), rfl, hv, trivial⟩, hS.F ht⟩) hS.2.2 dX2_count_91
          · have hv := hv.2 d23_2
            by_cases d23_3 : p0 = 3
            · have hv := hv.1 d23_3
              refine lv_tableIn (off := 69) (tgt := 92) hx hb dX2_count_23 (by rw [d23_3]; decide) (by rw [d23_3]; decide) (by rw [d23_3]; rfl) (by decide) ?_
              refine lv_aload_n hx hb dX2_count_92 rfl (lv_at hl 0 rfl) ?_
              refine va_get (D := gD g) (ci := 2) (v := .ref (ad 4)) (C := RX2) (T := TX2) (N := 9) hx hb hts hi2 hown hK hP 0 rfl rfl 0 (by decide) k0 (fun _ h9 => h9) rfl dX2_count_93 ?_
              refine va_get (D := gD g) (ci := 0) (v := .int (sNh (cS (xNow σ)))) (C := RX0) (T := TX0) (N := 17) hx hb hts hi0 hown hK hP 4 rfl rfl 4 (by decide) k4 (fun _ h9 => h9) rfl dX2_count_96 ?_
              exact W.iret (v := (sNh (cS (xNow σ)))) hx hb hr (fun t ht hW => ⟨⟨(sNh (cS (xNow σ))), (), rfl, hv, trivial⟩, hS.F ht⟩) hS.2.2 dX2_count_99
            · have hv := hv.2 d23_3
              by_cases d23_4 : p0 = 4
              · have hv := hv.1 d23_4
                refine lv_tableIn (off := 77) (tgt := 100) hx hb dX2_count_23 (by rw [d23_4]; decide) (by rw [d23_4]; decide) (by rw [d23_4]; rfl) (by decide) ?_
                refine lv_aload_n hx hb dX2_count_100 rfl (lv_at hl 0 rfl) ?_
                refine va_get (D := gD g) (ci := 2) (v := .ref (ad 4)) (C := RX2) (T := TX2) (N := 9) hx hb hts hi2 hown hK hP 0 rfl rfl 0 (by decide) k0 (fun _ h9 => h9) rfl dX2_count_101 ?_
                refine va_get (D := gD g) (ci := 0) (v := .int (sAsked (cS (xNow σ)))) (C := RX0) (T := TX0) (N := 17) hx hb hts hi0 hown hK hP 4 rfl rfl 1 (by decide) k5 (fun _ h9 => h9) rfl dX2_count_104 ?_
                exact W.iret (v := (sAsked (cS (xNow σ)))) hx hb hr (fun t ht hW => ⟨⟨(sAsked (cS (xNow σ))), (), rfl, hv, trivial⟩, hS.F ht⟩) hS.2.2 dX2_count_107
              · have hv := hv.2 d23_4
                by_cases d23_5 : p0 = 5
                · have hv := hv.1 d23_5
                  refine lv_tableIn (off := 85) (tgt := 108) hx hb dX2_count_23 (by rw [d23_5]; decide) (by rw [d23_5]; decide) (by rw [d23_5]; rfl) (by decide) ?_
                  refine lv_aload_n hx hb dX2_count_108 rfl (lv_at hl 0 rfl) ?_
                  refine va_get (D := gD g) (ci := 2) (v := .ref (ad 4)) (C := RX2) (T := TX2) (N := 9) hx hb hts hi2 hown hK hP 0 rfl rfl 0 (by decide) k0 (fun _ h9 => h9) rfl dX2_count_109 ?_
                  have h8 := hv.1
                  have hv := hv.2
                  have hPc : va_P (gD g) vwCl (wC g ad 4 (xNow σ)) H := hP.sub [4, 5, 6, 7, 8, 9, 10, 11, 12, 13, 14, 15, 16] rfl
                  refine ro_int (va_runV (As := []) (rest := []) ⟨hx, hb, hml, hown, hts⟩ (h_X0_questionsSo g ad 4 (xNow σ) h8) (cwV 0 hts gX2_count_X0_questionsSo rfl rfl rfl (by decide +kernel) ⟨Nat.le_of_ble_eq_true rfl, Nat.le_of_ble_eq_true rfl⟩) ⟨RO_blind, va_recv hK hP (ci := 0) (q0 := 4) rfl rfl, fun U hU hW => ⟨rfl, by rw [hU]; exact hPc, va_K.moved hW.alike hK, hE.call hW hU hS (fun _ h => h.elim)⟩⟩ rfl rfl hl.1 rfl (lv_room (Nat.le_of_ble_eq_true rfl)) dX2_count_112 ⟨Nat.le_of_ble_eq_true rfl, Nat.le_of_ble_eq_true rfl⟩) hS hP (fun r H locs hw hP hS => ?_)
                  subst r
                  exact W.iret (v := (questionsSoI (xNow σ))) hx hb hr (fun t ht hW => ⟨⟨(questionsSoI (xNow σ)), (), rfl, hv, trivial⟩, hS.F ht⟩) hS.2.2 dX2_count_115
                · have hv := hv.2 d23_5
                  by_cases d23_6 : p0 = 6
                  · have hv := hv.1 d23_6
                    refine lv_tableIn (off := 93) (tgt := 116) hx hb dX2_count_23 (by rw [d23_6]; decide) (by rw [d23_6]; decide) (by rw [d23_6]; rfl) (by decide) ?_
                    refine lv_aload_n hx hb dX2_count_116 rfl (lv_at hl 0 rfl) ?_
                    refine va_get (D := gD g) (ci := 2) (v := .int (xRowLen σ)) (C := RX2) (T := TX2) (N := 9) hx hb hts hi2 hown hK hP 0 rfl rfl 7 (by decide) k6 (fun _ h9 => h9) rfl dX2_count_117 ?_
                    exact W.iret (v := (xRowLen σ)) hx hb hr (fun t ht hW => ⟨⟨(xRowLen σ), (), rfl, hv, trivial⟩, hS.F ht⟩) hS.2.2 dX2_count_120
                  · have hv := hv.2 d23_6
                    by_cases d23_7 : p0 = 7
                    · have hv := hv.1 d23_7
                      refine lv_tableIn (off := 98) (tgt := 121) hx hb dX2_count_23 (by rw [d23_7]; decide) (by rw [d23_7]; decide) (by rw [d23_7]; rfl) (by decide) ?_
                      refine lv_aload_n hx hb dX2_count_121 rfl (lv_at hl 0 rfl) ?_
                      refine va_get (D := gD g) (ci := 2) (v := .ref (ad 43)) (C := RX2) (T := TX2) (N := 9) hx hb hts hi2 hown hK hP 0 rfl rfl 3 (by decide) k7 (fun _ h9 => h9) rfl dX2_count_122 ?_
                      refine va_get (D := gD g) (ci := 1) (v := .int (zLen (xScr σ))) (C := RX1) (T := TX1) (N := 2) hx hb hts hi1 hown hK hP 43 rfl rfl 0 (by decide) k8 (fun _ h9 => h9) rfl dX2_count_125 ?_
                      exact W.iret (v := (zLen (xScr σ))) hx hb hr (fun t ht hW => ⟨⟨(zLen (xScr σ)), (), rfl, hv, trivial⟩, hS.F ht⟩) hS.2.2 dX2_count_128
                    · have hv := hv.2 d23_7
                      refine lv_tableOut (tgt := 129) hx hb dX2_count_23 (by have n0 := lv_neT (a := 0) d23_0 (by decide); have n1 := lv_neT (a := 1) d23_1 (by decide); have n2 := lv_neT (a := 2) d23_2 (by decide); have n3 := lv_neT (a := 3) d23_3 (by decide); have n4 := lv_neT (a := 4) d23_4 (by decide); have n5 := lv_neT (a := 5) d23_5 (by decide); have n6 := lv_neT (a := 6) d23_6 (by decide); have n7 := lv_neT (a := 7) d23_7 (by decide); omega) (by decide) ?_
                      refine lv_bipush (v := (-9)) hx hb dX2_count_129 (by decide) ?_
                      exact W.iret (v := (-9)) hx hb hr (fun t ht hW => ⟨⟨(-9), (), rfl, hv, trivial⟩, hS.F ht⟩) hS.2.2 dX2_count_131
    · have hv := hv.2 c9
      refine lv_aload_n hx hb dX2_count_12 rfl (lv_at hl 0 rfl) ?_
      refine va_get (D := gD g) (ci := 2) (v := .ref (ad 2)) (C := RX2) (T := TX2) (N := 9) hx hb hts hi2 hown hK hP 0 rfl rfl 5 (by decide) k9 (fun _ h9 => h9) rfl dX2_count_13 ?_
      refine lv_iload_n hx hb dX2_count_16 rfl (lv_at hl 1 rfl) ?_
      refine lv_bipush (v := 10) hx hb dX2_count_17 (by decide) ?_
      refine lv_isub hx hb dX2_count_19 ?_
      have h9 := hv.1
      have hv := hv.2
      refine va_iald (f := (xRefus σ)) (n := 7) hx hb hK hP 2 0 rfl rfl h9 dX2_count_20 ?_
      exact W.iret (v := ((xRefus σ) ((p0 - 10)).toNatClampNeg)) hx hb hr (fun t ht hW => ⟨⟨((xRefus σ) ((p0 - 10)).toNatClampNeg), (), rfl, hv, trivial⟩, hS.F ht⟩) hS.2.2 dX2_count_21

