set_option maxHeartbeats 4000000 in
set_option maxRecDepth 100000 in
theorem m_X2_asks (l : Launch) (h_X0_ask : C_X0_ask l) (h_X0_hasQuestion : C_X0_hasQuestion l) (h_X0_hasWitness : C_X0_hasWitness l) (h_X2_refused : C_X2_refused l) (g : CX) (ad : Nat → Nat) (σ : KX) (p0 : Int32) (p1 : Int32) (Post : Int32 → KX → Prop) (hv : vc_X2_asks σ p0 p1 Post) : Met l yX2_asks wsX2_asks { frames := 4, cells := 0, slots := 0, locals := 103 } (va_Pc [.ref (ad 0), .int p0, .int p1] (RW g (AD ad 0 45) (wX g ad σ))) (va_Qi (fun (r : Int32) (u : KX) => Post r u) (fun u t => va_P (gD g) vwCl (wX g ad u) t.heap) (AD ad 0 45)) 0 0 (AD ad 0 45) := by
  unfold vc_X2_asks at hv
  refine Met.ofW (cc := cX2_asks) (maxL := 3) (ret := (some .int)) (by decide) rfl ?_
  intro p e s m args below meth c s₁ B hml hv0
  obtain ⟨rfl, hP, hK, hE, hD⟩ := hv0
  have hx := B.exec
  have hb := B.bytes
  have hr := B.returns
  have hts := atoms_spec (ws := wsX2_asks) B.pre
  have hown : s.vm.findClass RX2 = some m.cls := findClass_of_methodNamed B.named
  have hlocks := B.notSynchronized
  have hi0 : ∀ w ∈ wsX00, w ∈ wsX2_asks := by decide +kernel
  have hi2 : ∀ w ∈ wsX20, w ∈ wsX2_asks := by decide +kernel
  have k0 := hts (.fieldLink RX2 10 "JuryHearsAnswers" "now" "LJuryHearsAnswers$Court;") (by decide +kernel)
  have k1 := hts (.fieldLink RX2 90 "JuryHearsAnswers$Court" "asked" "I") (by decide +kernel)
  have hS : va_S (AD ad 0 45) s.heap s.heap [] := va_S.rf
  have hP : va_P (gD g) vwCl (wX g ad σ) s.heap := hP
  have hl := lv_entry ([.ref (ad 0), .int p0, .int p1]) (n := 3) (Nat.le_of_ble_eq_true rfl)
  rw [lg_entry_eq]
  generalize (lg_sl ([.ref (ad 0), .int p0, .int p1]) ++ List.replicate (3 - (lg_sl ([.ref (ad 0), .int p0, .int p1])).length) Slot.unset).toArray = ls at hl ⊢
  have hl : lv_has ls 3 [(0, .ref (ad 0)), (1, .int p0), (2, .int p1)] := hl
  obtain ⟨H, hH⟩ : ∃ z, z = s.heap := ⟨_, rfl⟩
  obtain ⟨locs, hL⟩ : ∃ z : List Loc, z = [] := ⟨_, rfl⟩
  rw [← hL] at hS ⊢
  have hS : va_S (AD ad 0 45) s.heap H locs := by rw [hH]; exact hS
  rw [← hH] at hP ⊢
  clear hH hL
  refine lv_aload_n hx hb dX2_asks_0 rfl (lv_at hl 0 rfl) ?_
  refine va_get (D := gD g) (ci := 2) (v := .ref (ad 4)) (C := RX2) (T := TX2) (N := 9) hx hb hts hi2 hown hK hP 0 rfl rfl 0 (by decide) k0 (fun _ h9 => h9) rfl dX2_asks_1 ?_
  refine lv_iload_n hx hb dX2_asks_4 rfl (lv_at hl 1 rfl) ?_
  have hPc : va_P (gD g) vwCl (wC g ad 4 (xNow σ)) H := hP.sub [4, 5, 6, 7, 8, 9, 10, 11, 12, 13, 14, 15, 16] rfl
  refine ro_int (va_runV (As := [.int p0]) (rest := []) ⟨hx, hb, hml, hown, hts⟩ (h_X0_hasWitness g ad 4 (xNow σ) p0) (cwV 1 hts gX2_asks_X0_hasWitness rfl rfl rfl (by decide +kernel) ⟨Nat.le_of_ble_eq_true rfl, Nat.le_of_ble_eq_true rfl⟩) ⟨RO_blind, va_recv hK hP (ci := 0) (q0 := 4) rfl rfl, fun U hU hW => ⟨rfl, by rw [hU]; exact hPc, va_K.moved hW.alike hK, hE.call hW hU hS (fun _ h => h.elim)⟩⟩ rfl rfl hl.1 rfl (lv_room (Nat.le_of_ble_eq_true rfl)) dX2_asks_5 ⟨Nat.le_of_ble_eq_true rfl, Nat.le_of_ble_eq_true rfl⟩) hS hP (fun r H locs hw hP hS => ?_)
  subst r
  refine lv_if_eq (tgt := 22) hx hb dX2_asks_8 (by decide) (fun c8 => ?_) (fun c8 => ?_)
  · have hv := hv.1 c8
    refine lv_aload_n hx hb dX2_asks_22 rfl (lv_at hl 0 rfl) ?_
    refine lv_iconst (v := (-1)) hx hb dX2_asks_23 (by decide) ?_
    have h8 := hv.1
    have hv := hv.2
    have hPc := hP
    have hDc := hD
    refine rw_int (va_runV (As := [.int (-1)]) (rest := []) ⟨hx, hb, hml, hown, hts⟩ (h_X2_refused g ad σ (-1) h8) (cwV 1 hts gX2_asks_X2_refused rfl rfl rfl (by decide +kernel) ⟨Nat.le_of_ble_eq_true rfl, Nat.le_of_ble_eq_true rfl⟩) ⟨RW_blind, va_recv hK hP (ci := 2) (q0 := 0) rfl rfl, fun U hU hW => ⟨rfl, by rw [hU]; exact hPc, va_K.moved hW.alike hK, hE.call hW hU hS (fun _ h => h), hDc⟩⟩ rfl rfl hl.1 rfl (lv_room (Nat.le_of_ble_eq_true rfl)) dX2_asks_24 ⟨Nat.le_of_ble_eq_true rfl, Nat.le_of_ble_eq_true rfl⟩) hS (fun _ h => h) (fun r u H1 locs hw hP1 hk hS => ?_)
    obtain ⟨hw1, hw⟩ := hw; subst r; subst u
    have hP := hP1
    generalize H1 = H at hP hS ⊢
    have hP : va_P (gD g) vwCl (wX g ad ((xNow σ), (xTaken σ), (xTrial σ), (xScr σ), (xRow σ), (refuX (xRefus σ) ((-1) : Int32)), (xKept σ), (xRowLen σ), (xIsTaken σ))) H := hP
    have hD : va_D (AD ad 0 45) (wX g ad ((xNow σ), (xTaken σ), (xTrial σ), (xScr σ), (xRow σ), (refuX (xRefus σ) ((-1) : Int32)), (xKept σ), (xRowLen σ), (xIsTaken σ))) := hD.addr (by rfl)
    exact W.iret (v := (((-1) : Int32))) hx hb hr (fun t ht hW => ⟨⟨(((-1) : Int32)), ((xNow σ), (xTaken σ), (xTrial σ), (xScr σ), (xRow σ), (refuX (xRefus σ) ((-1) : Int32)), (xKept σ), (xRowLen σ), (xIsTaken σ)), rfl, hv, P_at ht hP⟩, hS.F ht⟩) hS.2.2 dX2_asks_27
  · have hv := hv.2 c8
    refine lv_aload_n hx hb dX2_asks_11 rfl (lv_at hl 0 rfl) ?_
    refine va_get (D := gD g) (ci := 2) (v := .ref (ad 4)) (C := RX2) (T := TX2) (N := 9) hx hb hts hi2 hown hK hP 0 rfl rfl 0 (by decide) k0 (fun _ h9 => h9) rfl dX2_asks_12 ?_
    refine lv_iload_n hx hb dX2_asks_15 rfl (lv_at hl 2 rfl) ?_
    have hPc : va_P (gD g) vwCl (wC g ad 4 (xNow σ)) H := hP.sub [4, 5, 6, 7, 8, 9, 10, 11, 12, 13, 14, 15, 16] rfl
    refine ro_int (va_runV (As := [.int p1]) (rest := []) ⟨hx, hb, hml, hown, hts⟩ (h_X0_hasQuestion g ad 4 (xNow σ) p1) (cwV 1 hts gX2_asks_X0_hasQuestion rfl rfl rfl (by decide +kernel) ⟨Nat.le_of_ble_eq_true rfl, Nat.le_of_ble_eq_true rfl⟩) ⟨RO_blind, va_recv hK hP (ci := 0) (q0 := 4) rfl rfl, fun U hU hW => ⟨rfl, by rw [hU]; exact hPc, va_K.moved hW.alike hK, hE.call hW hU hS (fun _ h => h.elim)⟩⟩ rfl rfl hl.1 rfl (lv_room (Nat.le_of_ble_eq_true rfl)) dX2_asks_16 ⟨Nat.le_of_ble_eq_true rfl, Nat.le_of_ble_eq_true rfl⟩) hS hP (fun r H locs hw hP hS => ?_)
    subst r
    refine lv_if_ne (tgt := 28) hx hb dX2_asks_19 (by decide) (fun c19 => ?_) (fun c19 => ?_)
    · have hv := hv.1 c19
      refine lv_aload_n hx hb dX2_asks_28 rfl (lv_at hl 0 rfl) ?_
      refine va_get (D := gD g) (ci := 2) (v := .ref (ad 4)) (C := RX2) (T := TX2) (N := 9) hx hb hts hi2 hown hK hP 0 rfl rfl 0 (by decide) k0 (fun _ h9 => h9) rfl dX2_asks_29 ?_
      refine va_get (D := gD g) (ci := 0) (v := .int (sAsked (cS (xNow σ)))) (C := RX0) (T := TX0) (N := 17) hx hb hts hi0 hown hK hP 4 rfl rfl 1 (by decide) k1 (fun _ h9 => h9) rfl dX2_asks_32 ?_
      refine lv_sipush (v := 999) hx hb dX2_asks_35 (by decide) ?_
      refine lv_icmp_lt (tgt := 48) hx hb dX2_asks_38 (by decide) (fun c38 => ?_) (fun c38 => ?_)
      · have hv := hv.1 c38
        refine lv_aload_n hx hb dX2_asks_48 rfl (lv_at hl 0 rfl) ?_
        refine va_get (D := gD g) (ci := 2) (v := .ref (ad 4)) (C := RX2) (T := TX2) (N := 9) hx hb hts hi2 hown hK hP 0 rfl rfl 0 (by decide) k0 (fun _ h9 => h9) rfl dX2_asks_49 ?_
        refine lv_iload_n hx hb dX2_asks_52 rfl (lv_at hl 1 rfl) ?_
        refine lv_iload_n hx hb dX2_asks_53 rfl (lv_at hl 2 rfl) ?_
        have h8 := hv.1
        have hv := hv.2
        have hPc : va_P (gD g) vwCl (wC g ad 4 (xNow σ)) H := hP.sub [4, 5, 6, 7, 8, 9, 10, 11, 12, 13, 14, 15, 16] rfl
        have hDc : va_D (AD ad 4 13) (wC g ad 4 (xNow σ)) := ⟨(hD.sub [4, 5, 6, 7, 8, 9, 10, 11, 12, 13, 14, 15, 16] (by decide) rfl).1, AD_of rfl⟩
        have hAc : ∀ q, (AD ad 4 13) q → (AD ad 0 45) q := AD_sub (by decide) (by decide)
        refine rw_int (va_runV (As := [.int p0, .int p1]) (rest := []) ⟨hx, hb, hml, hown, hts⟩ (h_X0_ask g ad 4 (xNow σ) p0 p1 h8) (cwV 2 hts gX2_asks_X0_ask rfl rfl rfl (by decide +kernel) ⟨Nat.le_of_ble_eq_true rfl, Nat.le_of_ble_eq_true rfl⟩) ⟨RW_blind, va_recv hK hP (ci := 0) (q0 := 4) rfl rfl, fun U hU hW => ⟨rfl, by rw [hU]; exact hPc, va_K.moved hW.alike hK, hE.call hW hU hS hAc, hDc⟩⟩ rfl rfl hl.1 rfl (lv_room (Nat.le_of_ble_eq_true rfl)) dX2_asks_54 ⟨Nat.le_of_ble_eq_true rfl, Nat.le_of_ble_eq_true rfl⟩) hS hAc (fun r u H1 locs hw hP1 hk hS => ?_)
        obtain ⟨hw1, hw⟩ := hw; subst r; subst u
        have hP := mid_at hP hD 4 13 (b := wC g ad 4 (xNow σ)) rfl (AD_at rfl) hk hP1 rfl
        generalize H1 = H at hP hS ⊢
        have hP : va_P (gD g) vwCl (wX g ad (((askS (cS (xNow σ)) p0 p1), (cNeeded (xNow σ)), (cTruth (xNow σ))), (xTaken σ), (xTrial σ), (xScr σ), (xRow σ), (xRefus σ), (xKept σ), (xRowLen σ), (xIsTaken σ))) H := hP
        have hD : va_D (AD ad 0 45) (wX g ad (((askS (cS (xNow σ)) p0 p1), (cNeeded (xNow σ)), (cTruth (xNow σ))), (xTaken σ), (xTrial σ), (xScr σ), (xRow σ), (xRefus σ), (xKept σ), (xRowLen σ), (xIsTaken σ))) := hD.addr (by rfl)
        exact W.iret (v := (askV (cS (xNow σ)) p0 p1)) hx hb hr (fun t ht hW => ⟨⟨(askV (cS (xNow σ)) p0 p1), (((askS (cS (xNow σ)) p0 p1), (cNeeded (xNow σ)), (cTruth (xNow σ))), (xTaken σ), (xTrial σ), (xScr σ), (xRow σ), (xRefus σ), (xKept σ), (xRowLen σ), (xIsTaken σ)), rfl, hv, P_at ht hP⟩, hS.F ht⟩) hS.2.2 dX2_asks_57
      · have hv := hv.2 c38
        refine lv_aload_n hx hb dX2_asks_41 rfl (lv_at hl 0 rfl) ?_
        refine lv_bipush (v := (-6)) hx hb dX2_asks_42 (by decide) ?_
        have h8 := hv.1
        have hv := hv.2
        have hPc := hP
        have hDc := hD
        refine rw_int (va_runV (As := [.int (-6)]) (rest := []) ⟨hx, hb, hml, hown, hts⟩ (h_X2_refused g ad σ (-6) h8) (cwV 1 hts gX2_asks_X2_refused rfl rfl rfl (by decide +kernel) ⟨Nat.le_of_ble_eq_true rfl, Nat.le_of_ble_eq_true rfl⟩) ⟨RW_blind, va_recv hK hP (ci := 2) (q0 := 0) rfl rfl, fun U hU hW => ⟨rfl, by rw [hU]; exact hPc, va_K.moved hW.alike hK, hE.call hW hU hS (fun _ h => h), hDc⟩⟩ rfl rfl hl.1 rfl (lv_room (Nat.le_of_ble_eq_true rfl)) dX2_asks_44 ⟨Nat.le_of_ble_eq_true rfl, Nat.le_of_ble_eq_true rfl⟩) hS (fun _ h => h) (fun r u H1 locs hw hP1 hk hS => ?_)
        obtain ⟨hw1, hw⟩ := hw; subst r; subst u
        have hP := hP1
        generalize H1 = H at hP hS ⊢
        have hP : va_P (gD g) vwCl (wX g ad ((xNow σ), (xTaken σ), (xTrial σ), (xScr σ), (xRow σ), (refuX (xRefus σ) ((-6) : Int32)), (xKept σ), (xRowLen σ), (xIsTaken σ))) H := hP
        have hD : va_D (AD ad 0 45) (wX g ad ((xNow σ), (xTaken σ), (xTrial σ), (xScr σ), (xRow σ), (refuX (xRefus σ) ((-6) : Int32)), (xKept σ), (xRowLen σ), (xIsTaken σ))) := hD.addr (by rfl)
        exact W.iret (v := (((-6) : Int32))) hx hb hr (fun t ht hW => ⟨⟨(((-6) : Int32)), ((xNow σ), (xTaken σ), (xTrial σ), (xScr σ), (xRow σ), (refuX (xRefus σ) ((-6) : Int32)), (xKept σ), (xRowLen σ), (xIsTaken σ)), rfl, hv, P_at ht hP⟩, hS.F ht⟩) hS.2.2 dX2_asks_47
    · have hv := hv.2 c19
      refine lv_aload_n hx hb dX2_asks_22 rfl (lv_at hl 0 rfl) ?_
      refine lv_iconst (v := (-1)) hx hb dX2_asks_23 (by decide) ?_
      have h8 := hv.1
      have hv := hv.2
      have hPc := hP
      have hDc := hD
      refine rw_int (va_runV (As := [.int (-1)]) (rest := []) ⟨hx, hb, hml, hown, hts⟩ (h_X2_refused g ad σ (-1) h8) (cwV 1 hts gX2_asks_X2_refused rfl rfl rfl (by decide +kernel) ⟨Nat.le_of_ble_eq_true rfl, Nat.le_of_ble_eq_true rfl⟩) ⟨RW_blind, va_recv hK hP (ci := 2) (q0 := 0) rfl rfl, fun U hU hW => ⟨rfl, by rw [hU]; exact hPc, va_K.moved hW.alike hK, hE.call hW hU hS (fun _ h => h), hDc⟩⟩ rfl rfl hl.1 rfl (lv_room (Nat.le_of_ble_eq_true rfl)) dX2_asks_24 ⟨Nat.le_of_ble_eq_true rfl, Nat.le_of_ble_eq_true rfl⟩) hS (fun _ h => h) (fun r u H1 locs hw hP1 hk hS => ?_)
      obtain ⟨hw1, hw⟩ := hw; subst r; subst u
      have hP := hP1
      generalize H1 = H at hP hS ⊢
      have hP : va_P (gD g) vwCl (wX g ad ((xNow σ), (xTaken σ), (xTrial σ), (xScr σ), (xRow σ), (refuX (xRefus σ) ((-1) : Int32)), (xKept σ), (xRowLen σ), (xIsTaken σ))) H := hP
      have hD : va_D (AD ad 0 45) (wX g ad ((xNow σ), (xTaken σ), (xTrial σ), (xScr σ), (xRow σ), (refuX (xRefus σ) ((-1) : Int32)), (xKept σ), (xRowLen σ), (xIsTaken σ))) := hD.addr (by rfl)
      exact W.iret (v := (((-1) : Int32))) hx hb hr (fun t ht hW => ⟨⟨(((-1) : Int32)), ((xNow σ), (xTaken σ), (xTrial σ), (xScr σ), (xRow σ), (refuX (xRefus σ) ((-1) : Int32)), (xKept σ), (xRowLen σ), (xIsTaken σ)), rfl, hv, P_at ht hP⟩, hS.F ht⟩) hS.2.2 dX2_asks_27

set_option maxHeartbeats 4000000 in
set_option maxRecDepth 100000 in
theorem m_X2_heard (l : Launch) (h_X0_hasPlace : C_X0_hasPlace l) (h_X2_refused : C_X2_refused l) (g : CX) (ad : Nat → Nat) (σ : KX) (p0 : Int32) (p1 : Int32) (Post : Int32 → KX → Prop) (hv : vc_X2_heard σ p0 p1 Post) : Met l yX2_heard wsX2_heard { frames := 1, cells := 0, slots := 0, locals := 21 } (va_Pc [.ref (ad 0), .int p0, .int p1] (RW g (AD ad 0 45) (wX g ad σ))) (va_Qi (fun (r : Int32) (u : KX) => Post r u) (fun u t => va_P (gD g) vwCl (wX g ad u) t.heap) (AD ad 0 45)) 0 0 (AD ad 0 45) := by
  unfold vc_X2_heard at hv
  refine Met.ofW (cc := cX2_heard) (maxL := 3) (ret := (some .int)) (by decide) rfl ?_
  intro p e s m args below meth c s₁ B hml hv0
  obtain ⟨rfl, hP, hK, hE, hD⟩ := hv0
  have hx := B.exec
  have hb := B.bytes
  have hr := B.returns
  have hts := atoms_spec (ws := wsX2_heard) B.pre
  have hown : s.vm.findClass RX2 = some m.cls := findClass_of_methodNamed B.named
  have hlocks := B.notSynchronized
  have hi0 : ∀ w ∈ wsX00, w ∈ wsX2_heard := by decide +kernel
  have hi2 : ∀ w ∈ wsX20, w ∈ wsX2_heard := by decide +kernel
  have k0 := hts (.fieldLink RX2 10 "JuryHearsAnswers" "now" "LJuryHearsAnswers$Court;") (by decide +kernel)
  have k1 := hts (.fieldLink RX2 100 "JuryHearsAnswers$Court" "heardWitness" "[I") (by decide +kernel)
  have k2 := hts (.fieldLink RX2 103 "JuryHearsAnswers$Court" "heardQuestion" "[I") (by decide +kernel)
  have k3 := hts (.fieldLink RX2 106 "JuryHearsAnswers$Court" "heardAnswer" "[I") (by decide +kernel)
  have k4 := hts (.fieldLink RX2 109 "JuryHearsAnswers$Court" "heardAsked" "[I") (by decide +kernel)
  have hS : va_S (AD ad 0 45) s.heap s.heap [] := va_S.rf
  have hP : va_P (gD g) vwCl (wX g ad σ) s.heap := hP
  have hl := lv_entry ([.ref (ad 0), .int p0, .int p1]) (n := 3) (Nat.le_of_ble_eq_true rfl)
  rw [lg_entry_eq]
  generalize (lg_sl ([.ref (ad 0), .int p0, .int p1]) ++ List.replicate (3 - (lg_sl ([.ref (ad 0), .int p0, .int p1])).length) Slot.unset).toArray = ls at hl ⊢
  have hl : lv_has ls 3 [(0, .ref (ad 0)), (1, .int p0), (2, .int p1)] := hl
  obtain ⟨H, hH⟩ : ∃ z, z = s.heap := ⟨_, rfl⟩
  obtain ⟨locs, hL⟩ : ∃ z : List Loc, z = [] := ⟨_, rfl⟩
  rw [← hL] at hS ⊢
  have hS : va_S (AD ad 0 45) s.heap H locs := by rw [hH]; exact hS
  rw [← hH] at hP ⊢
  clear hH hL
  refine lv_aload_n hx hb dX2_heard_0 rfl (lv_at hl 0 rfl) ?_
  refine va_get (D := gD g) (ci := 2) (v := .ref (ad 4)) (C := RX2) (T := TX2) (N := 9) hx hb hts hi2 hown hK hP 0 rfl rfl 0 (by decide) k0 (fun _ h9 => h9) rfl dX2_heard_1 ?_
  refine lv_iload_n hx hb dX2_heard_4 rfl (lv_at hl 1 rfl) ?_
  have hPc : va_P (gD g) vwCl (wC g ad 4 (xNow σ)) H := hP.sub [4, 5, 6, 7, 8, 9, 10, 11, 12, 13, 14, 15, 16] rfl
  refine ro_int (va_runV (As := [.int p0]) (rest := []) ⟨hx, hb, hml, hown, hts⟩ (h_X0_hasPlace g ad 4 (xNow σ) p0) (cwV 1 hts gX2_heard_X0_hasPlace rfl rfl rfl (by decide +kernel) ⟨Nat.le_of_ble_eq_true rfl, Nat.le_of_ble_eq_true rfl⟩) ⟨RO_blind, va_recv hK hP (ci := 0) (q0 := 4) rfl rfl, fun U hU hW => ⟨rfl, by rw [hU]; exact hPc, va_K.moved hW.alike hK, hE.call hW hU hS (fun _ h => h.elim)⟩⟩ rfl rfl hl.1 rfl (lv_room (Nat.le_of_ble_eq_true rfl)) dX2_heard_5 ⟨Nat.le_of_ble_eq_true rfl, Nat.le_of_ble_eq_true rfl⟩) hS hP (fun r H locs hw hP hS => ?_)
  subst r
  refine lv_if_ne (tgt := 17) hx hb dX2_heard_8 (by decide) (fun c8 => ?_) (fun c8 => ?_)
  · have hv := hv.1 c8
    refine lv_iload_n hx hb dX2_heard_17 rfl (lv_at hl 2 rfl) ?_
    by_cases d18_0 : p1 = 0
    · have hv := hv.1 d18_0
      refine lv_tableIn (off := 30) (tgt := 48) hx hb dX2_heard_18 (by rw [d18_0]; decide) (by rw [d18_0]; decide) (by rw [d18_0]; rfl) (by decide) ?_
      refine lv_aload_n hx hb dX2_heard_48 rfl (lv_at hl 0 rfl) ?_
      refine va_get (D := gD g) (ci := 2) (v := .ref (ad 4)) (C := RX2) (T := TX2) (N := 9) hx hb hts hi2 hown hK hP 0 rfl rfl 0 (by decide) k0 (fun _ h9 => h9) rfl dX2_heard_49 ?_
      refine va_get (D := gD g) (ci := 0) (v := .ref (ad 13)) (C := RX0) (T := TX0) (N := 17) hx hb hts hi0 hown hK hP 4 rfl rfl 13 (by decide) k1 (fun _ h9 => h9) rfl dX2_heard_52 ?_
      refine lv_iload_n hx hb dX2_heard_55 rfl (lv_at hl 1 rfl) ?_
      have h9 := hv.1
      have hv := hv.2
      refine va_iald (f := (sWhom (cS (xNow σ)))) (n := 12) hx hb hK hP 13 0 rfl rfl h9 dX2_heard_56 ?_
      exact W.iret (v := ((sWhom (cS (xNow σ))) (p0).toNatClampNeg)) hx hb hr (fun t ht hW => ⟨⟨((sWhom (cS (xNow σ))) (p0).toNatClampNeg), σ, rfl, hv, P_at ht hP⟩, hS.F ht⟩) hS.2.2 dX2_heard_57
    · have hv := hv.2 d18_0
      by_cases d18_1 : p1 = 1
      · have hv := hv.1 d18_1
        refine lv_tableIn (off := 40) (tgt := 58) hx hb dX2_heard_18 (by rw [d18_1]; decide) (by rw [d18_1]; decide) (by rw [d18_1]; rfl) (by decide) ?_
        refine lv_aload_n hx hb dX2_heard_58 rfl (lv_at hl 0 rfl) ?_
        refine va_get (D := gD g) (ci := 2) (v := .ref (ad 4)) (C := RX2) (T := TX2) (N := 9) hx hb hts hi2 hown hK hP 0 rfl rfl 0 (by decide) k0 (fun _ h9 => h9) rfl dX2_heard_59 ?_
        refine va_get (D := gD g) (ci := 0) (v := .ref (ad 14)) (C := RX0) (T := TX0) (N := 17) hx hb hts hi0 hown hK hP 4 rfl rfl 14 (by decide) k2 (fun _ h9 => h9) rfl dX2_heard_62 ?_
        refine lv_iload_n hx hb dX2_heard_65 rfl (lv_at hl 1 rfl) ?_
        have h9 := hv.1
        have hv := hv.2
        refine va_iald (f := (sWhat (cS (xNow σ)))) (n := 12) hx hb hK hP 14 0 rfl rfl h9 dX2_heard_66 ?_
        exact W.iret (v := ((sWhat (cS (xNow σ))) (p0).toNatClampNeg)) hx hb hr (fun t ht hW => ⟨⟨((sWhat (cS (xNow σ))) (p0).toNatClampNeg), σ, rfl, hv, P_at ht hP⟩, hS.F ht⟩) hS.2.2 dX2_heard_67
      · have hv := hv.2 d18_1
        by_cases d18_2 : p1 = 2
        · have hv := hv.1 d18_2
          refine lv_tableIn (off := 50) (tgt := 68) hx hb dX2_heard_18 (by rw [d18_2]; decide) (by rw [d18_2]; decide) (by rw [d18_2]; rfl) (by decide) ?_
          refine lv_aload_n hx hb dX2_heard_68 rfl (lv_at hl 0 rfl) ?_
          refine va_get (D := gD g) (ci := 2) (v := .ref (ad 4)) (C := RX2) (T := TX2) (N := 9) hx hb hts hi2 hown hK hP 0 rfl rfl 0 (by decide) k0 (fun _ h9 => h9) rfl dX2_heard_69 ?_
          refine va_get (D := gD g) (ci := 0) (v := .ref (ad 15)) (C := RX0) (T := TX0) (N := 17) hx hb hts hi0 hown hK hP 4 rfl rfl 15 (by decide) k3 (fun _ h9 => h9) rfl dX2_heard_72 ?_
          refine lv_iload_n hx hb dX2_heard_75 rfl (lv_at hl 1 rfl) ?_
          have h9 := hv.1
          have hv := hv.2
          refine va_iald (f := (sSaid (cS (xNow σ)))) (n := 12) hx hb hK hP 15 0 rfl rfl h9 dX2_heard_76 ?_
          exact W.iret (v := ((sSaid (cS (xNow σ))) (p0).toNatClampNeg)) hx hb hr (fun t ht hW => ⟨⟨((sSaid (cS (xNow σ))) (p0).toNatClampNeg), σ, rfl, hv, P_at ht hP⟩, hS.F ht⟩) hS.2.2 dX2_heard_77
        · have hv := hv.2 d18_2
          by_cases d18_3 : p1 = 3
          · have hv := hv.1 d18_3
            refine lv_tableIn (off := 60) (tgt := 78) hx hb dX2_heard_18 (by rw [d18_3]; decide) (by rw [d18_3]; decide) (by rw [d18_3]; rfl) (by decide) ?_
            refine lv_aload_n hx hb dX2_heard_78 rfl (lv_at hl 0 rfl) ?_
            refine va_get (D := gD g) (ci := 2) (v := .ref (ad 4)) (C := RX2) (T := TX2) (N := 9) hx hb hts hi2 hown hK hP 0 rfl rfl 0 (by decide) k0 (fun _ h9 => h9) rfl dX2_heard_79 ?_
            refine va_get (D := gD g) (ci := 0) (v := .ref (ad 16)) (C := RX0) (T := TX0) (N := 17) hx hb hts hi0 hown hK hP 4 rfl rfl 16 (by decide) k4 (fun _ h9 => h9) rfl dX2_heard_82 ?_
            refine lv_iload_n hx hb dX2_heard_85 rfl (lv_at hl 1 rfl) ?_
            have h9 := hv.1
            have hv := hv.2
            refine va_iald (f := (sWhen (cS (xNow σ)))) (n := 12) hx hb hK hP 16 0 rfl rfl h9 dX2_heard_86 ?_
            exact W.iret (v := ((sWhen (cS (xNow σ))) (p0).toNatClampNeg)) hx hb hr (fun t ht hW => ⟨⟨((sWhen (cS (xNow σ))) (p0).toNatClampNeg), σ, rfl, hv, P_at ht hP⟩, hS.F ht⟩) hS.2.2 dX2_heard_87
          · have hv := hv.2 d18_3
            refine lv_tableOut (tgt := 88) hx hb dX2_heard_18 (by have n0 := lv_neT (a := 0) d18_0 (by decide); have n1 := lv_neT (a := 1) d18_1 (by decide); have n2 := lv_neT (a := 2) d18_2 (by decide); have n3 := lv_neT (a := 3) d18_3 (by decide); omega) (by decide) ?_
            refine lv_aload_n hx hb dX2_heard_88 rfl (lv_at hl 0 rfl) ?_
            refine lv_bipush (v := (-2)) hx hb dX2_heard_89 (by decide) ?_
            have h8 := hv.1
            have hv := hv.2
            have hPc := hP
            have hDc := hD
            refine rw_int (va_runV (As := [.int (-2)]) (rest := []) ⟨hx, hb, hml, hown, hts⟩ (h_X2_refused g ad σ (-2) h8) (cwV 1 hts gX2_heard_X2_refused rfl rfl rfl (by decide +kernel) ⟨Nat.le_of_ble_eq_true rfl, Nat.le_of_ble_eq_true rfl⟩) ⟨RW_blind, va_recv hK hP (ci := 2) (q0 := 0) rfl rfl, fun U hU hW => ⟨rfl, by rw [hU]; exact hPc, va_K.moved hW.alike hK, hE.call hW hU hS (fun _ h => h), hDc⟩⟩ rfl rfl hl.1 rfl (lv_room (Nat.le_of_ble_eq_true rfl)) dX2_heard_91 ⟨Nat.le_of_ble_eq_true rfl, Nat.le_of_ble_eq_true rfl⟩) hS (fun _ h => h) (fun r u H1 locs hw hP1 hk hS => ?_)
            obtain ⟨hw1, hw⟩ := hw; subst r; subst u
            have hP := hP1
            generalize H1 = H at hP hS ⊢
            have hP : va_P (gD g) vwCl (wX g ad ((xNow σ), (xTaken σ), (xTrial σ), (xScr σ), (xRow σ), (refuX (xRefus σ) ((-2) : Int32)), (xKept σ), (xRowLen σ), (xIsTaken σ))) H := hP
            have hD : va_D (AD ad 0 45) (wX g ad ((xNow σ), (xTaken σ), (xTrial σ), (xScr σ), (xRow σ), (refuX (xRefus σ) ((-2) : Int32)), (xKept σ), (xRowLen σ), (xIsTaken σ))) := hD.addr (by rfl)
            exact W.iret (v := (((-2) : Int32))) hx hb hr (fun t ht hW => ⟨⟨(((-2) : Int32)), ((xNow σ), (xTaken σ), (xTrial σ), (xScr σ), (xRow σ), (refuX (xRefus σ) ((-2) : Int32)), (xKept σ), (xRowLen σ), (xIsTaken σ)), rfl, hv, P_at ht hP⟩, hS.F ht⟩) hS.2.2 dX2_heard_94
  · have hv := hv.2 c8
    refine lv_aload_n hx hb dX2_heard_11 rfl (lv_at hl 0 rfl) ?_
    refine lv_iconst (v := (-1)) hx hb dX2_heard_12 (by decide) ?_
    have h8 := hv.1
    have hv := hv.2
    have hPc := hP
    have hDc := hD
    refine rw_int (va_runV (As := [.int (-1)]) (rest := []) ⟨hx, hb, hml, hown, hts⟩ (h_X2_refused g ad σ (-1) h8) (cwV 1 hts gX2_heard_X2_refused rfl rfl rfl (by decide +kernel) ⟨Nat.le_of_ble_eq_true rfl, Nat.le_of_ble_eq_true rfl⟩) ⟨RW_blind, va_recv hK hP (ci := 2) (q0 := 0) rfl rfl, fun U hU hW => ⟨rfl, by rw [hU]; exact hPc, va_K.moved hW.alike hK, hE.call hW hU hS (fun _ h => h), hDc⟩⟩ rfl rfl hl.1 rfl (lv_room (Nat.le_of_ble_eq_true rfl)) dX2_heard_13 ⟨Nat.le_of_ble_eq_true rfl, Nat.le_of_ble_eq_true rfl⟩) hS (fun _ h => h) (fun r u H1 locs hw hP1 hk hS => ?_)
    obtain ⟨hw1, hw⟩ := hw; subst r; subst u
    have hP := hP1
    generalize H1 = H at hP hS ⊢
    have hP : va_P (gD g) vwCl (wX g ad ((xNow σ), (xTaken σ), (xTrial σ), (xScr σ), (xRow σ), (refuX (xRefus σ) ((-1) : Int32)), (xKept σ), (xRowLen σ), (xIsTaken σ))) H := hP
    have hD : va_D (AD ad 0 45) (wX g ad ((xNow σ), (xTaken σ), (xTrial σ), (xScr σ), (xRow σ), (refuX (xRefus σ) ((-1) : Int32)), (xKept σ), (xRowLen σ), (xIsTaken σ))) := hD.addr (by rfl)
    exact W.iret (v := (((-1) : Int32))) hx hb hr (fun t ht hW => ⟨⟨(((-1) : Int32)), ((xNow σ), (xTaken σ), (xTrial σ), (xScr σ), (xRow σ), (refuX (xRefus σ) ((-1) : Int32)), (xKept σ), (xRowLen σ), (xIsTaken σ)), rfl, hv, P_at ht hP⟩, hS.F ht⟩) hS.2.2 dX2_heard_16

set_option maxHeartbeats 4000000 in
set_option maxRecDepth 100000 in
theorem m_X2_sets (l : Launch) (h_X2_refused : C_X2_refused l) (g : CX) (ad : Nat → Nat) (σ : KX) (p0 : Int32) (Post : Int32 → KX → Prop) (hv : vc_X2_sets σ p0 Post) : Met l yX2_sets wsX2_sets { frames := 1, cells := 0, slots := 0, locals := 21 } (va_Pc [.ref (ad 0), .int p0] (RW g (AD ad 0 45) (wX g ad σ))) (va_Qi (fun (r : Int32) (u : KX) => Post r u) (fun u t => va_P (gD g) vwCl (wX g ad u) t.heap) (AD ad 0 45)) 0 0 (AD ad 0 45) := by
  unfold vc_X2_sets at hv
  refine Met.ofW (cc := cX2_sets) (maxL := 3) (ret := (some .int)) (by decide) rfl ?_
  intro p e s m args below meth c s₁ B hml hv0
  obtain ⟨rfl, hP, hK, hE, hD⟩ := hv0
  have hx := B.exec
  have hb := B.bytes
  have hr := B.returns
  have hts := atoms_spec (ws := wsX2_sets) B.pre
  have hown : s.vm.findClass RX2 = some m.cls := findClass_of_methodNamed B.named
  have hlocks := B.notSynchronized
  have hi0 : ∀ w ∈ wsX00, w ∈ wsX2_sets := by decide +kernel
  have hi2 : ∀ w ∈ wsX20, w ∈ wsX2_sets := by decide +kernel
  have k0 := hts (.fieldLink RX2 10 "JuryHearsAnswers" "now" "LJuryHearsAnswers$Court;") (by decide +kernel)
  have k1 := hts (.fieldLink RX2 60 "JuryHearsAnswers$Court" "caseNow" "I") (by decide +kernel)
  have hS : va_S (AD ad 0 45) s.heap s.heap [] := va_S.rf
  have hP : va_P (gD g) vwCl (wX g ad σ) s.heap := hP
  have hl := lv_entry ([.ref (ad 0), .int p0]) (n := 3) (Nat.le_of_ble_eq_true rfl)
  rw [lg_entry_eq]
  generalize (lg_sl ([.ref (ad 0), .int p0]) ++ List.replicate (3 - (lg_sl ([.ref (ad 0), .int p0])).length) Slot.unset).toArray = ls at hl ⊢
  have hl : lv_has ls 3 [(0, .ref (ad 0)), (1, .int p0)] := hl
  obtain ⟨H, hH⟩ : ∃ z, z = s.heap := ⟨_, rfl⟩
  obtain ⟨locs, hL⟩ : ∃ z : List Loc, z = [] := ⟨_, rfl⟩
  rw [← hL] at hS ⊢
  have hS : va_S (AD ad 0 45) s.heap H locs := by rw [hH]; exact hS
  rw [← hH] at hP ⊢
  clear hH hL
  refine lv_iload_n hx hb dX2_sets_0 rfl (lv_at hl 1 rfl) ?_
  refine lv_if_ge (tgt := 11) hx hb dX2_sets_1 (by decide) (fun c1 => ?_) (fun c1 => ?_)
  · have hv := hv.1 c1
    refine lv_iload_n hx hb dX2_sets_11 rfl (lv_at hl 1 rfl) ?_
    refine lv_bipush (v := 63) hx hb dX2_sets_12 (by decide) ?_
    refine lv_icmp_le (tgt := 24) hx hb dX2_sets_14 (by decide) (fun c14 => ?_) (fun c14 => ?_)
    · have hv := hv.1 c14
      refine lv_aload_n hx hb dX2_sets_24 rfl (lv_at hl 0 rfl) ?_
      refine va_get (D := gD g) (ci := 2) (v := .ref (ad 4)) (C := RX2) (T := TX2) (N := 9) hx hb hts hi2 hown hK hP 0 rfl rfl 0 (by decide) k0 (fun _ h9 => h9) rfl dX2_sets_25 ?_
      refine va_get (D := gD g) (ci := 0) (v := .int (sCase (cS (xNow σ)))) (C := RX0) (T := TX0) (N := 17) hx hb hts hi0 hown hK hP 4 rfl rfl 0 (by decide) k1 (fun _ h9 => h9) rfl dX2_sets_28 ?_
      refine lv_istore_n (lv' := [(2, .int (sCase (cS (xNow σ)))), (0, .ref (ad 0)), (1, .int p0)]) hx hb dX2_sets_31 rfl hl (by decide) rfl (fun ls hl => ?_)
      refine lv_aload_n hx hb dX2_sets_32 rfl (lv_at hl 1 rfl) ?_
      refine va_get (D := gD g) (ci := 2) (v := .ref (ad 4)) (C := RX2) (T := TX2) (N := 9) hx hb hts hi2 hown hK hP 0 rfl rfl 0 (by decide) k0 (fun _ h9 => h9) rfl dX2_sets_33 ?_
      refine lv_iload_n hx hb dX2_sets_36 rfl (lv_at hl 2 rfl) ?_
      refine va_put (D := gD g) (ci := 0) (v := .int p0) (ty := .int) (C := RX0) (T := TX0) (N := 17) hx hb hts hi0 tyX0 tyX0_ok nmX0 hown hK hP hD hS 4 rfl rfl 0 (by decide) k1 (fun _ h9 => h9) rfl (by decide +kernel) rfl rfl (Nat.le_of_ble_eq_true rfl) dX2_sets_37 (fun H locs hP hD hS => ?_)
      have hP : va_P (gD g) vwCl (wX g ad (((p0, (sAsked (cS (xNow σ))), (sNq (cS (xNow σ))), (sNw (cS (xNow σ))), (sNh (cS (xNow σ))), (sForm (cS (xNow σ))), (sFirst (cS (xNow σ))), (sSecond (cS (xNow σ))), (sKind (cS (xNow σ))), (sFigure (cS (xNow σ))), (sKnows (cS (xNow σ))), (sWhom (cS (xNow σ))), (sWhat (cS (xNow σ))), (sSaid (cS (xNow σ))), (sWhen (cS (xNow σ)))), (cNeeded (xNow σ)), (cTruth (xNow σ))), (xTaken σ), (xTrial σ), (xScr σ), (xRow σ), (xRefus σ), (xKept σ), (xRowLen σ), (xIsTaken σ))) H := hP
      have hD : va_D (AD ad 0 45) (wX g ad (((p0, (sAsked (cS (xNow σ))), (sNq (cS (xNow σ))), (sNw (cS (xNow σ))), (sNh (cS (xNow σ))), (sForm (cS (xNow σ))), (sFirst (cS (xNow σ))), (sSecond (cS (xNow σ))), (sKind (cS (xNow σ))), (sFigure (cS (xNow σ))), (sKnows (cS (xNow σ))), (sWhom (cS (xNow σ))), (sWhat (cS (xNow σ))), (sSaid (cS (xNow σ))), (sWhen (cS (xNow σ)))), (cNeeded (xNow σ)), (cTruth (xNow σ))), (xTaken σ), (xTrial σ), (xScr σ), (xRow σ), (xRefus σ), (xKept σ), (xRowLen σ), (xIsTaken σ))) := hD
      refine lv_iload_n hx hb dX2_sets_40 rfl (lv_at hl 0 rfl) ?_
      exact W.iret (v := (sCase (cS (xNow σ)))) hx hb hr (fun t ht hW => ⟨⟨(sCase (cS (xNow σ))), (((p0, (sAsked (cS (xNow σ))), (sNq (cS (xNow σ))), (sNw (cS (xNow σ))), (sNh (cS (xNow σ))), (sForm (cS (xNow σ))), (sFirst (cS (xNow σ))), (sSecond (cS (xNow σ))), (sKind (cS (xNow σ))), (sFigure (cS (xNow σ))), (sKnows (cS (xNow σ))), (sWhom (cS (xNow σ))), (sWhat (cS (xNow σ))), (sSaid (cS (xNow σ))), (sWhen (cS (xNow σ)))), (cNeeded (xNow σ)), (cTruth (xNow σ))), (xTaken σ), (xTrial σ), (xScr σ), (xRow σ), (xRefus σ), (xKept σ), (xRowLen σ), (xIsTaken σ)), rfl, hv, P_at ht hP⟩, hS.F ht⟩) hS.2.2 dX2_sets_41
    · have hv := hv.2 c14
      refine lv_aload_n hx hb dX2_sets_17 rfl (lv_at hl 0 rfl) ?_
      refine lv_bipush (v := (-6)) hx hb dX2_sets_18 (by decide) ?_
      have h8 := hv.1
      have hv := hv.2
      have hPc := hP
      have hDc := hD
      refine rw_int (va_runV (As := [.int (-6)]) (rest := []) ⟨hx, hb, hml, hown, hts⟩ (h_X2_refused g ad σ (-6) h8) (cwV 1 hts gX2_sets_X2_refused rfl rfl rfl (by decide +kernel) ⟨Nat.le_of_ble_eq_true rfl, Nat.le_of_ble_eq_true rfl⟩) ⟨RW_blind, va_recv hK hP (ci := 2) (q0 := 0) rfl rfl, fun U hU hW => ⟨rfl, by rw [hU]; exact hPc, va_K.moved hW.alike hK, hE.call hW hU hS (fun _ h => h), hDc⟩⟩ rfl rfl hl.1 rfl (lv_room (Nat.le_of_ble_eq_true rfl)) dX2_sets_20 ⟨Nat.le_of_ble_eq_true rfl, Nat.le_of_ble_eq_true rfl⟩) hS (fun _ h => h) (fun r u H1 locs hw hP1 hk hS => ?_)
      obtain ⟨hw1, hw⟩ := hw; subst r; subst u
      have hP := hP1
      generalize H1 = H at hP hS ⊢
      have hP : va_P (gD g) vwCl (wX g ad ((xNow σ), (xTaken σ), (xTrial σ), (xScr σ), (xRow σ), (refuX (xRefus σ) ((-6) : Int32)), (xKept σ), (xRowLen σ), (xIsTaken σ))) H := hP
      have hD : va_D (AD ad 0 45) (wX g ad ((xNow σ), (xTaken σ), (xTrial σ), (xScr σ), (xRow σ), (refuX (xRefus σ) ((-6) : Int32)), (xKept σ), (xRowLen σ), (xIsTaken σ))) := hD.addr (by rfl)
      exact W.iret (v := (((-6) : Int32))) hx hb hr (fun t ht hW => ⟨⟨(((-6) : Int32)), ((xNow σ), (xTaken σ), (xTrial σ), (xScr σ), (xRow σ), (refuX (xRefus σ) ((-6) : Int32)), (xKept σ), (xRowLen σ), (xIsTaken σ)), rfl, hv, P_at ht hP⟩, hS.F ht⟩) hS.2.2 dX2_sets_23
  · have hv := hv.2 c1
    refine lv_aload_n hx hb dX2_sets_4 rfl (lv_at hl 0 rfl) ?_
    refine lv_bipush (v := (-4)) hx hb dX2_sets_5 (by decide) ?_
    have h8 := hv.1
    have hv := hv.2
    have hPc := hP
    have hDc := hD
    refine rw_int (va_runV (As := [.int (-4)]) (rest := []) ⟨hx, hb, hml, hown, hts⟩ (h_X2_refused g ad σ (-4) h8) (cwV 1 hts gX2_sets_X2_refused rfl rfl rfl (by decide +kernel) ⟨Nat.le_of_ble_eq_true rfl, Nat.le_of_ble_eq_true rfl⟩) ⟨RW_blind, va_recv hK hP (ci := 2) (q0 := 0) rfl rfl, fun U hU hW => ⟨rfl, by rw [hU]; exact hPc, va_K.moved hW.alike hK, hE.call hW hU hS (fun _ h => h), hDc⟩⟩ rfl rfl hl.1 rfl (lv_room (Nat.le_of_ble_eq_true rfl)) dX2_sets_7 ⟨Nat.le_of_ble_eq_true rfl, Nat.le_of_ble_eq_true rfl⟩) hS (fun _ h => h) (fun r u H1 locs hw hP1 hk hS => ?_)
    obtain ⟨hw1, hw⟩ := hw; subst r; subst u
    have hP := hP1
    generalize H1 = H at hP hS ⊢
    have hP : va_P (gD g) vwCl (wX g ad ((xNow σ), (xTaken σ), (xTrial σ), (xScr σ), (xRow σ), (refuX (xRefus σ) ((-4) : Int32)), (xKept σ), (xRowLen σ), (xIsTaken σ))) H := hP
    have hD : va_D (AD ad 0 45) (wX g ad ((xNow σ), (xTaken σ), (xTrial σ), (xScr σ), (xRow σ), (refuX (xRefus σ) ((-4) : Int32)), (xKept σ), (xRowLen σ), (xIsTaken σ))) := hD.addr (by rfl)
    exact W.iret (v := (((-4) : Int32))) hx hb hr (fun t ht hW => ⟨⟨(((-4) : Int32)), ((xNow σ), (xTaken σ), (xTrial σ), (xScr σ), (xRow σ), (refuX (xRefus σ) ((-4) : Int32)), (xKept σ), (xRowLen σ), (xIsTaken σ)), rfl, hv, P_at ht hP⟩, hS.F ht⟩) hS.2.2 dX2_sets_10

set_option maxHeartbeats 4000000 in
set_option maxRecDepth 100000 in
theorem m_X2_knows (l : Launch) (h_X0_hasWitness : C_X0_hasWitness l) (h_X2_refused : C_X2_refused l) (g : CX) (ad : Nat → Nat) (σ : KX) (p0 : Int32) (p1 : Int32) (Post : Int32 → KX → Prop) (hv : vc_X2_knows σ p0 p1 Post) : Met l yX2_knows wsX2_knows { frames := 1, cells := 0, slots := 0, locals := 21 } (va_Pc [.ref (ad 0), .int p0, .int p1] (RW g (AD ad 0 45) (wX g ad σ))) (va_Qi (fun (r : Int32) (u : KX) => Post r u) (fun u t => va_P (gD g) vwCl (wX g ad u) t.heap) (AD ad 0 45)) 0 0 (AD ad 0 45) := by
  unfold vc_X2_knows at hv
  refine Met.ofW (cc := cX2_knows) (maxL := 4) (ret := (some .int)) (by decide) rfl ?_
  intro p e s m args below meth c s₁ B hml hv0
  obtain ⟨rfl, hP, hK, hE, hD⟩ := hv0
  have hx := B.exec
  have hb := B.bytes
  have hr := B.returns
  have hts := atoms_spec (ws := wsX2_knows) B.pre
  have hown : s.vm.findClass RX2 = some m.cls := findClass_of_methodNamed B.named
  have hlocks := B.notSynchronized
  have hi0 : ∀ w ∈ wsX00, w ∈ wsX2_knows := by decide +kernel
  have hi2 : ∀ w ∈ wsX20, w ∈ wsX2_knows := by decide +kernel
  have k0 := hts (.fieldLink RX2 10 "JuryHearsAnswers" "now" "LJuryHearsAnswers$Court;") (by decide +kernel)
  have k1 := hts (.fieldLink RX2 87 "JuryHearsAnswers$Court" "known" "[I") (by decide +kernel)
  have hS : va_S (AD ad 0 45) s.heap s.heap [] := va_S.rf
  have hP : va_P (gD g) vwCl (wX g ad σ) s.heap := hP
  have hl := lv_entry ([.ref (ad 0), .int p0, .int p1]) (n := 4) (Nat.le_of_ble_eq_true rfl)
  rw [lg_entry_eq]
  generalize (lg_sl ([.ref (ad 0), .int p0, .int p1]) ++ List.replicate (4 - (lg_sl ([.ref (ad 0), .int p0, .int p1])).length) Slot.unset).toArray = ls at hl ⊢
  have hl : lv_has ls 4 [(0, .ref (ad 0)), (1, .int p0), (2, .int p1)] := hl
  obtain ⟨H, hH⟩ : ∃ z, z = s.heap := ⟨_, rfl⟩
  obtain ⟨locs, hL⟩ : ∃ z : List Loc, z = [] := ⟨_, rfl⟩
  rw [← hL] at hS ⊢
  have hS : va_S (AD ad 0 45) s.heap H locs := by rw [hH]; exact hS
  rw [← hH] at hP ⊢
  clear hH hL
  refine lv_aload_n hx hb dX2_knows_0 rfl (lv_at hl 0 rfl) ?_
  refine va_get (D := gD g) (ci := 2) (v := .ref (ad 4)) (C := RX2) (T := TX2) (N := 9) hx hb hts hi2 hown hK hP 0 rfl rfl 0 (by decide) k0 (fun _ h9 => h9) rfl dX2_knows_1 ?_
  refine lv_iload_n hx hb dX2_knows_4 rfl (lv_at hl 1 rfl) ?_
  have hPc : va_P (gD g) vwCl (wC g ad 4 (xNow σ)) H := hP.sub [4, 5, 6, 7, 8, 9, 10, 11, 12, 13, 14, 15, 16] rfl
  refine ro_int (va_runV (As := [.int p0]) (rest := []) ⟨hx, hb, hml, hown, hts⟩ (h_X0_hasWitness g ad 4 (xNow σ) p0) (cwV 1 hts gX2_knows_X0_hasWitness rfl rfl rfl (by decide +kernel) ⟨Nat.le_of_ble_eq_true rfl, Nat.le_of_ble_eq_true rfl⟩) ⟨RO_blind, va_recv hK hP (ci := 0) (q0 := 4) rfl rfl, fun U hU hW => ⟨rfl, by rw [hU]; exact hPc, va_K.moved hW.alike hK, hE.call hW hU hS (fun _ h => h.elim)⟩⟩ rfl rfl hl.1 rfl (lv_room (Nat.le_of_ble_eq_true rfl)) dX2_knows_5 ⟨Nat.le_of_ble_eq_true rfl, Nat.le_of_ble_eq_true rfl⟩) hS hP (fun r H locs hw hP hS => ?_)
  subst r
  refine lv_if_ne (tgt := 17) hx hb dX2_knows_8 (by decide) (fun c8 => ?_) (fun c8 => ?_)
  · have hv := hv.1 c8
    refine lv_iload_n hx hb dX2_knows_17 rfl (lv_at hl 2 rfl) ?_
    refine lv_if_ge (tgt := 28) hx hb dX2_knows_18 (by decide) (fun c18 => ?_) (fun c18 => ?_)
    · have hv := hv.1 c18
      refine lv_iload_n hx hb dX2_knows_28 rfl (lv_at hl 2 rfl) ?_
      refine lv_bipush (v := 63) hx hb dX2_knows_29 (by decide) ?_
      refine lv_icmp_le (tgt := 41) hx hb dX2_knows_31 (by decide) (fun c31 => ?_) (fun c31 => ?_)
      · have hv := hv.1 c31
        refine lv_aload_n hx hb dX2_knows_41 rfl (lv_at hl 0 rfl) ?_
        refine va_get (D := gD g) (ci := 2) (v := .ref (ad 4)) (C := RX2) (T := TX2) (N := 9) hx hb hts hi2 hown hK hP 0 rfl rfl 0 (by decide) k0 (fun _ h9 => h9) rfl dX2_knows_42 ?_
        refine va_get (D := gD g) (ci := 0) (v := .ref (ad 12)) (C := RX0) (T := TX0) (N := 17) hx hb hts hi0 hown hK hP 4 rfl rfl 12 (by decide) k1 (fun _ h9 => h9) rfl dX2_knows_45 ?_
        refine lv_iload_n hx hb dX2_knows_48 rfl (lv_at hl 1 rfl) ?_
        have h9 := hv.1
        have hv := hv.2
        refine va_iald (f := (sKnows (cS (xNow σ)))) (n := 5) hx hb hK hP 12 0 rfl rfl h9 dX2_knows_49 ?_
        refine lv_istore_n (lv' := [(3, .int ((sKnows (cS (xNow σ))) (p0).toNatClampNeg)), (0, .ref (ad 0)), (1, .int p0), (2, .int p1)]) hx hb dX2_knows_50 rfl hl (by decide) rfl (fun ls hl => ?_)
        refine lv_aload_n hx hb dX2_knows_51 rfl (lv_at hl 1 rfl) ?_
        refine va_get (D := gD g) (ci := 2) (v := .ref (ad 4)) (C := RX2) (T := TX2) (N := 9) hx hb hts hi2 hown hK hP 0 rfl rfl 0 (by decide) k0 (fun _ h9 => h9) rfl dX2_knows_52 ?_
        refine va_get (D := gD g) (ci := 0) (v := .ref (ad 12)) (C := RX0) (T := TX0) (N := 17) hx hb hts hi0 hown hK hP 4 rfl rfl 12 (by decide) k1 (fun _ h9 => h9) rfl dX2_knows_55 ?_
        refine lv_iload_n hx hb dX2_knows_58 rfl (lv_at hl 2 rfl) ?_
        refine lv_iload_n hx hb dX2_knows_59 rfl (lv_at hl 3 rfl) ?_
        have h9 := hv.1
        have hv := hv.2
        refine va_iast (f := (sKnows (cS (xNow σ)))) (n := 5) hx hb hK hP hD hS 12 0 rfl rfl h9 dX2_knows_60 (fun H locs hP hD hS => ?_)
        have hP : va_P (gD g) vwCl (wX g ad ((((sCase (cS (xNow σ))), (sAsked (cS (xNow σ))), (sNq (cS (xNow σ))), (sNw (cS (xNow σ))), (sNh (cS (xNow σ))), (sForm (cS (xNow σ))), (sFirst (cS (xNow σ))), (sSecond (cS (xNow σ))), (sKind (cS (xNow σ))), (sFigure (cS (xNow σ))), (upd (sKnows (cS (xNow σ))) (p0).toNatClampNeg p1), (sWhom (cS (xNow σ))), (sWhat (cS (xNow σ))), (sSaid (cS (xNow σ))), (sWhen (cS (xNow σ)))), (cNeeded (xNow σ)), (cTruth (xNow σ))), (xTaken σ), (xTrial σ), (xScr σ), (xRow σ), (xRefus σ), (xKept σ), (xRowLen σ), (xIsTaken σ))) H := hP
        have hD : va_D (AD ad 0 45) (wX g ad ((((sCase (cS (xNow σ))), (sAsked (cS (xNow σ))), (sNq (cS (xNow σ))), (sNw (cS (xNow σ))), (sNh (cS (xNow σ))), (sForm (cS (xNow σ))), (sFirst (cS (xNow σ))), (sSecond (cS (xNow σ))), (sKind (cS (xNow σ))), (sFigure (cS (xNow σ))), (upd (sKnows (cS (xNow σ))) (p0).toNatClampNeg p1), (sWhom (cS (xNow σ))), (sWhat (cS (xNow σ))), (sSaid (cS (xNow σ))), (sWhen (cS (xNow σ)))), (cNeeded (xNow σ)), (cTruth (xNow σ))), (xTaken σ), (xTrial σ), (xScr σ), (xRow σ), (xRefus σ), (xKept σ), (xRowLen σ), (xIsTaken σ))) := hD
        refine lv_iload_n hx hb dX2_knows_61 rfl (lv_at hl 0 rfl) ?_
        exact W.iret (v := ((sKnows (cS (xNow σ))) (p0).toNatClampNeg)) hx hb hr (fun t ht hW => ⟨⟨((sKnows (cS (xNow σ))) (p0).toNatClampNeg), ((((sCase (cS (xNow σ))), (sAsked (cS (xNow σ))), (sNq (cS (xNow σ))), (sNw (cS (xNow σ))), (sNh (cS (xNow σ))), (sForm (cS (xNow σ))), (sFirst (cS (xNow σ))), (sSecond (cS (xNow σ))), (sKind (cS (xNow σ))), (sFigure (cS (xNow σ))), (upd (sKnows (cS (xNow σ))) (p0).toNatClampNeg p1), (sWhom (cS (xNow σ))), (sWhat (cS (xNow σ))), (sSaid (cS (xNow σ))), (sWhen (cS (xNow σ)))), (cNeeded (xNow σ)), (cTruth (xNow σ))), (xTaken σ), (xTrial σ), (xScr σ), (xRow σ), (xRefus σ), (xKept σ), (xRowLen σ), (xIsTaken σ)), rfl, hv, P_at ht hP⟩, hS.F ht⟩) hS.2.2 dX2_knows_62
      · have hv := hv.2 c31
        refine lv_aload_n hx hb dX2_knows_34 rfl (lv_at hl 0 rfl) ?_
        refine lv_bipush (v := (-6)) hx hb dX2_knows_35 (by decide) ?_
        have h8 := hv.1
        have hv := hv.2
        have hPc := hP
        have hDc := hD
        refine rw_int (va_runV (As := [.int (-6)]) (rest := []) ⟨hx, hb, hml, hown, hts⟩ (h_X2_refused g ad σ (-6) h8) (cwV 1 hts gX2_knows_X2_refused rfl rfl rfl (by decide +kernel) ⟨Nat.le_of_ble_eq_true rfl, Nat.le_of_ble_eq_true rfl⟩) ⟨RW_blind, va_recv hK hP (ci := 2) (q0 := 0) rfl rfl, fun U hU hW => ⟨rfl, by rw [hU]; exact hPc, va_K.moved hW.alike hK, hE.call hW hU hS (fun _ h => h), hDc⟩⟩ rfl rfl hl.1 rfl (lv_room (Nat.le_of_ble_eq_true rfl)) dX2_knows_37 ⟨Nat.le_of_ble_eq_true rfl, Nat.le_of_ble_eq_true rfl⟩) hS (fun _ h => h) (fun r u H1 locs hw hP1 hk hS => ?_)
        obtain ⟨hw1, hw⟩ := hw; subst r; subst u
        have hP := hP1
        generalize H1 = H at hP hS ⊢
        have hP : va_P (gD g) vwCl (wX g ad ((xNow σ), (xTaken σ), (xTrial σ), (xScr σ), (xRow σ), (refuX (xRefus σ) ((-6) : Int32)), (xKept σ), (xRowLen σ), (xIsTaken σ))) H := hP
        have hD : va_D (AD ad 0 45) (wX g ad ((xNow σ), (xTaken σ), (xTrial σ), (xScr σ), (xRow σ), (refuX (xRefus σ) ((-6) : Int32)), (xKept σ), (xRowLen σ), (xIsTaken σ))) := hD.addr (by rfl)
        exact W.iret (v := (((-6) : Int32))) hx hb hr (fun t ht hW => ⟨⟨(((-6) : Int32)), ((xNow σ), (xTaken σ), (xTrial σ), (xScr σ), (xRow σ), (refuX (xRefus σ) ((-6) : Int32)), (xKept σ), (xRowLen σ), (xIsTaken σ)), rfl, hv, P_at ht hP⟩, hS.F ht⟩) hS.2.2 dX2_knows_40
    · have hv := hv.2 c18
      refine lv_aload_n hx hb dX2_knows_21 rfl (lv_at hl 0 rfl) ?_
      refine lv_bipush (v := (-4)) hx hb dX2_knows_22 (by decide) ?_
      have h8 := hv.1
      have hv := hv.2
      have hPc := hP
      have hDc := hD
      refine rw_int (va_runV (As := [.int (-4)]) (rest := []) ⟨hx, hb, hml, hown, hts⟩ (h_X2_refused g ad σ (-4) h8) (cwV 1 hts gX2_knows_X2_refused rfl rfl rfl (by decide +kernel) ⟨Nat.le_of_ble_eq_true rfl, Nat.le_of_ble_eq_true rfl⟩) ⟨RW_blind, va_recv hK hP (ci := 2) (q0 := 0) rfl rfl, fun U hU hW => ⟨rfl, by rw [hU]; exact hPc, va_K.moved hW.alike hK, hE.call hW hU hS (fun _ h => h), hDc⟩⟩ rfl rfl hl.1 rfl (lv_room (Nat.le_of_ble_eq_true rfl)) dX2_knows_24 ⟨Nat.le_of_ble_eq_true rfl, Nat.le_of_ble_eq_true rfl⟩) hS (fun _ h => h) (fun r u H1 locs hw hP1 hk hS => ?_)
      obtain ⟨hw1, hw⟩ := hw; subst r; subst u
      have hP := hP1
      generalize H1 = H at hP hS ⊢
      have hP : va_P (gD g) vwCl (wX g ad ((xNow σ), (xTaken σ), (xTrial σ), (xScr σ), (xRow σ), (refuX (xRefus σ) ((-4) : Int32)), (xKept σ), (xRowLen σ), (xIsTaken σ))) H := hP
      have hD : va_D (AD ad 0 45) (wX g ad ((xNow σ), (xTaken σ), (xTrial σ), (xScr σ), (xRow σ), (refuX (xRefus σ) ((-4) : Int32)), (xKept σ), (xRowLen σ), (xIsTaken σ))) := hD.addr (by rfl)
      exact W.iret (v := (((-4) : Int32))) hx hb hr (fun t ht hW => ⟨⟨(((-4) : Int32)), ((xNow σ), (xTaken σ), (xTrial σ), (xScr σ), (xRow σ), (refuX (xRefus σ) ((-4) : Int32)), (xKept σ), (xRowLen σ), (xIsTaken σ)), rfl, hv, P_at ht hP⟩, hS.F ht⟩) hS.2.2 dX2_knows_27
  · have hv := hv.2 c8
    refine lv_aload_n hx hb dX2_knows_11 rfl (lv_at hl 0 rfl) ?_
    refine lv_iconst (v := (-1)) hx hb dX2_knows_12 (by decide) ?_
    have h8 := hv.1
    have hv := hv.2
    have hPc := hP
    have hDc := hD
    refine rw_int (va_runV (As := [.int (-1)]) (rest := []) ⟨hx, hb, hml, hown, hts⟩ (h_X2_refused g ad σ (-1) h8) (cwV 1 hts gX2_knows_X2_refused rfl rfl rfl (by decide +kernel) ⟨Nat.le_of_ble_eq_true rfl, Nat.le_of_ble_eq_true rfl⟩) ⟨RW_blind, va_recv hK hP (ci := 2) (q0 := 0) rfl rfl, fun U hU hW => ⟨rfl, by rw [hU]; exact hPc, va_K.moved hW.alike hK, hE.call hW hU hS (fun _ h => h), hDc⟩⟩ rfl rfl hl.1 rfl (lv_room (Nat.le_of_ble_eq_true rfl)) dX2_knows_13 ⟨Nat.le_of_ble_eq_true rfl, Nat.le_of_ble_eq_true rfl⟩) hS (fun _ h => h) (fun r u H1 locs hw hP1 hk hS => ?_)
    obtain ⟨hw1, hw⟩ := hw; subst r; subst u
    have hP := hP1
    generalize H1 = H at hP hS ⊢
    have hP : va_P (gD g) vwCl (wX g ad ((xNow σ), (xTaken σ), (xTrial σ), (xScr σ), (xRow σ), (refuX (xRefus σ) ((-1) : Int32)), (xKept σ), (xRowLen σ), (xIsTaken σ))) H := hP
    have hD : va_D (AD ad 0 45) (wX g ad ((xNow σ), (xTaken σ), (xTrial σ), (xScr σ), (xRow σ), (refuX (xRefus σ) ((-1) : Int32)), (xKept σ), (xRowLen σ), (xIsTaken σ))) := hD.addr (by rfl)
    exact W.iret (v := (((-1) : Int32))) hx hb hr (fun t ht hW => ⟨⟨(((-1) : Int32)), ((xNow σ), (xTaken σ), (xTrial σ), (xScr σ), (xRow σ), (refuX (xRefus σ) ((-1) : Int32)), (xKept σ), (xRowLen σ), (xIsTaken σ)), rfl, hv, P_at ht hP⟩, hS.F ht⟩) hS.2.2 dX2_knows_16

set_option maxHeartbeats 4000000 in
set_option maxRecDepth 100000 in
theorem m_X2_turn (l : Launch) (h_X0_hasWitness : C_X0_hasWitness l) (h_X2_refused : C_X2_refused l) (g : CX) (ad : Nat → Nat) (σ : KX) (p0 : Int32) (p1 : Int32) (p2 : Int32) (Post : Int32 → KX → Prop) (hv : vc_X2_turn σ p0 p1 p2 Post) : Met l yX2_turn wsX2_turn { frames := 1, cells := 0, slots := 0, locals := 21 } (va_Pc [.ref (ad 0), .int p0, .int p1, .int p2] (RW g (AD ad 0 45) (wX g ad σ))) (va_Qi (fun (r : Int32) (u : KX) => Post r u) (fun u t => va_P (gD g) vwCl (wX g ad u) t.heap) (AD ad 0 45)) 0 0 (AD ad 0 45) := by
  unfold vc_X2_turn at hv
  refine Met.ofW (cc := cX2_turn) (maxL := 5) (ret := (some .int)) (by decide) rfl ?_
  intro p e s m args below meth c s₁ B hml hv0
  obtain ⟨rfl, hP, hK, hE, hD⟩ := hv0
  have hx := B.exec
  have hb := B.bytes
  have hr := B.returns
  have hts := atoms_spec (ws := wsX2_turn) B.pre
  have hown : s.vm.findClass RX2 = some m.cls := findClass_of_methodNamed B.named
  have hlocks := B.notSynchronized
  have hi0 : ∀ w ∈ wsX00, w ∈ wsX2_turn := by decide +kernel
  have hi2 : ∀ w ∈ wsX20, w ∈ wsX2_turn := by decide +kernel
  have k0 := hts (.fieldLink RX2 10 "JuryHearsAnswers" "now" "LJuryHearsAnswers$Court;") (by decide +kernel)
  have k1 := hts (.fieldLink RX2 81 "JuryHearsAnswers$Court" "kind" "[I") (by decide +kernel)
  have k2 := hts (.fieldLink RX2 84 "JuryHearsAnswers$Court" "figure" "[I") (by decide +kernel)
  have hS : va_S (AD ad 0 45) s.heap s.heap [] := va_S.rf
  have hP : va_P (gD g) vwCl (wX g ad σ) s.heap := hP
  have hl := lv_entry ([.ref (ad 0), .int p0, .int p1, .int p2]) (n := 5) (Nat.le_of_ble_eq_true rfl)
  rw [lg_entry_eq]
  generalize (lg_sl ([.ref (ad 0), .int p0, .int p1, .int p2]) ++ List.replicate (5 - (lg_sl ([.ref (ad 0), .int p0, .int p1, .int p2])).length) Slot.unset).toArray = ls at hl ⊢
  have hl : lv_has ls 5 [(0, .ref (ad 0)), (1, .int p0), (2, .int p1), (3, .int p2)] := hl
  obtain ⟨H, hH⟩ : ∃ z, z = s.heap := ⟨_, rfl⟩
  obtain ⟨locs, hL⟩ : ∃ z : List Loc, z = [] := ⟨_, rfl⟩
  rw [← hL] at hS ⊢
  have hS : va_S (AD ad 0 45) s.heap H locs := by rw [hH]; exact hS
  rw [← hH] at hP ⊢
  clear hH hL
  refine lv_aload_n hx hb dX2_turn_0 rfl (lv_at hl 0 rfl) ?_
  refine va_get (D := gD g) (ci := 2) (v := .ref (ad 4)) (C := RX2) (T := TX2) (N := 9) hx hb hts hi2 hown hK hP 0 rfl rfl 0 (by decide) k0 (fun _ h9 => h9) rfl dX2_turn_1 ?_
  refine lv_iload_n hx hb dX2_turn_4 rfl (lv_at hl 1 rfl) ?_
  have hPc : va_P (gD g) vwCl (wC g ad 4 (xNow σ)) H := hP.sub [4, 5, 6, 7, 8, 9, 10, 11, 12, 13, 14, 15, 16] rfl
  refine ro_int (va_runV (As := [.int p0]) (rest := []) ⟨hx, hb, hml, hown, hts⟩ (h_X0_hasWitness g ad 4 (xNow σ) p0) (cwV 1 hts gX2_turn_X0_hasWitness rfl rfl rfl (by decide +kernel) ⟨Nat.le_of_ble_eq_true rfl, Nat.le_of_ble_eq_true rfl⟩) ⟨RO_blind, va_recv hK hP (ci := 0) (q0 := 4) rfl rfl, fun U hU hW => ⟨rfl, by rw [hU]; exact hPc, va_K.moved hW.alike hK, hE.call hW hU hS (fun _ h => h.elim)⟩⟩ rfl rfl hl.1 rfl (lv_room (Nat.le_of_ble_eq_true rfl)) dX2_turn_5 ⟨Nat.le_of_ble_eq_true rfl, Nat.le_of_ble_eq_true rfl⟩) hS hP (fun r H locs hw hP hS => ?_)
  subst r
  refine lv_if_ne (tgt := 17) hx hb dX2_turn_8 (by decide) (fun c8 => ?_) (fun c8 => ?_)
  · have hv := hv.1 c8
    refine lv_iload_n hx hb dX2_turn_17 rfl (lv_at hl 2 rfl) ?_
    refine lv_if_lt (tgt := 27) hx hb dX2_turn_18 (by decide) (fun c18 => ?_) (fun c18 => ?_)
    · have hv := hv.1 c18
      refine lv_aload_n hx hb dX2_turn_27 rfl (lv_at hl 0 rfl) ?_
      refine lv_bipush (v := (-2)) hx hb dX2_turn_28 (by decide) ?_
      have h8 := hv.1
      have hv := hv.2
      have hPc := hP
      have hDc := hD
      refine rw_int (va_runV (As := [.int (-2)]) (rest := []) ⟨hx, hb, hml, hown, hts⟩ (h_X2_refused g ad σ (-2) h8) (cwV 1 hts gX2_turn_X2_refused rfl rfl rfl (by decide +kernel) ⟨Nat.le_of_ble_eq_true rfl, Nat.le_of_ble_eq_true rfl⟩) ⟨RW_blind, va_recv hK hP (ci := 2) (q0 := 0) rfl rfl, fun U hU hW => ⟨rfl, by rw [hU]; exact hPc, va_K.moved hW.alike hK, hE.call hW hU hS (fun _ h => h), hDc⟩⟩ rfl rfl hl.1 rfl (lv_room (Nat.le_of_ble_eq_true rfl)) dX2_turn_30 ⟨Nat.le_of_ble_eq_true rfl, Nat.le_of_ble_eq_true rfl⟩) hS (fun _ h => h) (fun r u H1 locs hw hP1 hk hS => ?_)
      obtain ⟨hw1, hw⟩ := hw; subst r; subst u
      have hP := hP1
      generalize H1 = H at hP hS ⊢
      have hP : va_P (gD g) vwCl (wX g ad ((xNow σ), (xTaken σ), (xTrial σ), (xScr σ), (xRow σ), (refuX (xRefus σ) ((-2) : Int32)), (xKept σ), (xRowLen σ), (xIsTaken σ))) H := hP
      have hD : va_D (AD ad 0 45) (wX g ad ((xNow σ), (xTaken σ), (xTrial σ), (xScr σ), (xRow σ), (refuX (xRefus σ) ((-2) : Int32)), (xKept σ), (xRowLen σ), (xIsTaken σ))) := hD.addr (by rfl)
      exact W.iret (v := (((-2) : Int32))) hx hb hr (fun t ht hW => ⟨⟨(((-2) : Int32)), ((xNow σ), (xTaken σ), (xTrial σ), (xScr σ), (xRow σ), (refuX (xRefus σ) ((-2) : Int32)), (xKept σ), (xRowLen σ), (xIsTaken σ)), rfl, hv, P_at ht hP⟩, hS.F ht⟩) hS.2.2 dX2_turn_33
    · have hv := hv.2 c18
      refine lv_iload_n hx hb dX2_turn_21 rfl (lv_at hl 2 rfl) ?_
      refine lv_bipush (v := 6) hx hb dX2_turn_22 (by decide) ?_
      refine lv_icmp_lt (tgt := 34) hx hb dX2_turn_24 (by decide) (fun c24 => ?_) (fun c24 => ?_)
      · have hv := hv.1 c24
        refine lv_iload_n hx hb dX2_turn_34 rfl (lv_at hl 3 rfl) ?_
        refine lv_if_ge (tgt := 45) hx hb dX2_turn_35 (by decide) (fun c35 => ?_) (fun c35 => ?_)
        · have hv := hv.1 c35
          refine lv_iload_n hx hb dX2_turn_45 rfl (lv_at hl 3 rfl) ?_
          refine lv_bipush (v := 9) hx hb dX2_turn_46 (by decide) ?_
          refine lv_icmp_le (tgt := 58) hx hb dX2_turn_48 (by decide) (fun c48 => ?_) (fun c48 => ?_)
          · have hv := hv.1 c48
            refine lv_bipush (v := 10) hx hb dX2_turn_58 (by decide) ?_
            refine lv_aload_n hx hb dX2_turn_60 rfl (lv_at hl 0 rfl) ?_
            refine va_get (D := gD g) (ci := 2) (v := .ref (ad 4)) (C := RX2) (T := TX2) (N := 9) hx hb hts hi2 hown hK hP 0 rfl rfl 0 (by decide) k0 (fun _ h9 => h9) rfl dX2_turn_61 ?_
            refine va_get (D := gD g) (ci := 0) (v := .ref (ad 10)) (C := RX0) (T := TX0) (N := 17) hx hb hts hi0 hown hK hP 4 rfl rfl 10 (by decide) k1 (fun _ h9 => h9) rfl dX2_turn_64 ?_
            refine lv_iload_n hx hb dX2_turn_67 rfl (lv_at hl 1 rfl) ?_
            have h9 := hv.1
            have hv := hv.2
            refine va_iald (f := (sKind (cS (xNow σ)))) (n := 5) hx hb hK hP 10 0 rfl rfl h9 dX2_turn_68 ?_
            refine lv_imul hx hb dX2_turn_69 ?_
            refine lv_aload_n hx hb dX2_turn_70 rfl (lv_at hl 0 rfl) ?_
            refine va_get (D := gD g) (ci := 2) (v := .ref (ad 4)) (C := RX2) (T := TX2) (N := 9) hx hb hts hi2 hown hK hP 0 rfl rfl 0 (by decide) k0 (fun _ h9 => h9) rfl dX2_turn_71 ?_
            refine va_get (D := gD g) (ci := 0) (v := .ref (ad 11)) (C := RX0) (T := TX0) (N := 17) hx hb hts hi0 hown hK hP 4 rfl rfl 11 (by decide) k2 (fun _ h9 => h9) rfl dX2_turn_74 ?_
            refine lv_iload_n hx hb dX2_turn_77 rfl (lv_at hl 1 rfl) ?_
            have h9 := hv.1
            have hv := hv.2
            refine va_iald (f := (sFigure (cS (xNow σ)))) (n := 5) hx hb hK hP 11 0 rfl rfl h9 dX2_turn_78 ?_
            refine lv_iadd hx hb dX2_turn_79 ?_
            refine lv_istore (lv' := [(4, .int ((10 * ((sKind (cS (xNow σ))) (p0).toNatClampNeg)) + ((sFigure (cS (xNow σ))) (p0).toNatClampNeg))), (0, .ref (ad 0)), (1, .int p0), (2, .int p1), (3, .int p2)]) hx hb dX2_turn_80 hl (by decide) rfl (fun ls hl => ?_)
            refine lv_aload_n hx hb dX2_turn_82 rfl (lv_at hl 1 rfl) ?_
            refine va_get (D := gD g) (ci := 2) (v := .ref (ad 4)) (C := RX2) (T := TX2) (N := 9) hx hb hts hi2 hown hK hP 0 rfl rfl 0 (by decide) k0 (fun _ h9 => h9) rfl dX2_turn_83 ?_
            refine va_get (D := gD g) (ci := 0) (v := .ref (ad 10)) (C := RX0) (T := TX0) (N := 17) hx hb hts hi0 hown hK hP 4 rfl rfl 10 (by decide) k1 (fun _ h9 => h9) rfl dX2_turn_86 ?_
            refine lv_iload_n hx hb dX2_turn_89 rfl (lv_at hl 2 rfl) ?_
            refine lv_iload_n hx hb dX2_turn_90 rfl (lv_at hl 3 rfl) ?_
            have h9 := hv.1
            have hv := hv.2
            refine va_iast (f := (sKind (cS (xNow σ)))) (n := 5) hx hb hK hP hD hS 10 0 rfl rfl h9 dX2_turn_91 (fun H locs hP hD hS => ?_)
            have hP : va_P (gD g) vwCl (wX g ad ((((sCase (cS (xNow σ))), (sAsked (cS (xNow σ))), (sNq (cS (xNow σ))), (sNw (cS (xNow σ))), (sNh (cS (xNow σ))), (sForm (cS (xNow σ))), (sFirst (cS (xNow σ))), (sSecond (cS (xNow σ))), (upd (sKind (cS (xNow σ))) (p0).toNatClampNeg p1), (sFigure (cS (xNow σ))), (sKnows (cS (xNow σ))), (sWhom (cS (xNow σ))), (sWhat (cS (xNow σ))), (sSaid (cS (xNow σ))), (sWhen (cS (xNow σ)))), (cNeeded (xNow σ)), (cTruth (xNow σ))), (xTaken σ), (xTrial σ), (xScr σ), (xRow σ), (xRefus σ), (xKept σ), (xRowLen σ), (xIsTaken σ))) H := hP
            have hD : va_D (AD ad 0 45) (wX g ad ((((sCase (cS (xNow σ))), (sAsked (cS (xNow σ))), (sNq (cS (xNow σ))), (sNw (cS (xNow σ))), (sNh (cS (xNow σ))), (sForm (cS (xNow σ))), (sFirst (cS (xNow σ))), (sSecond (cS (xNow σ))), (upd (sKind (cS (xNow σ))) (p0).toNatClampNeg p1), (sFigure (cS (xNow σ))), (sKnows (cS (xNow σ))), (sWhom (cS (xNow σ))), (sWhat (cS (xNow σ))), (sSaid (cS (xNow σ))), (sWhen (cS (xNow σ)))), (cNeeded (xNow σ)), (cTruth (xNow σ))), (xTaken σ), (xTrial σ), (xScr σ), (xRow σ), (xRefus σ), (xKept σ), (xRowLen σ), (xIsTaken σ))) := hD
            refine lv_aload_n hx hb dX2_turn_92 rfl (lv_at hl 1 rfl) ?_
            refine va_get (D := gD g) (ci := 2) (v := .ref (ad 4)) (C := RX2) (T := TX2) (N := 9) hx hb hts hi2 hown hK hP 0 rfl rfl 0 (by decide) k0 (fun _ h9 => h9) rfl dX2_turn_93 ?_
            refine va_get (D := gD g) (ci := 0) (v := .ref (ad 11)) (C := RX0) (T := TX0) (N := 17) hx hb hts hi0 hown hK hP 4 rfl rfl 11 (by decide) k2 (fun _ h9 => h9) rfl dX2_turn_96 ?_
            refine lv_iload_n hx hb dX2_turn_99 rfl (lv_at hl 2 rfl) ?_
            refine lv_iload_n hx hb dX2_turn_100 rfl (lv_at hl 4 rfl) ?_
            have h9 := hv.1
            have hv := hv.2
            refine va_iast (f := (sFigure (cS (xNow σ)))) (n := 5) hx hb hK hP hD hS 11 0 rfl rfl h9 dX2_turn_101 (fun H locs hP hD hS => ?_)
            have hP : va_P (gD g) vwCl (wX g ad ((((sCase (cS (xNow σ))), (sAsked (cS (xNow σ))), (sNq (cS (xNow σ))), (sNw (cS (xNow σ))), (sNh (cS (xNow σ))), (sForm (cS (xNow σ))), (sFirst (cS (xNow σ))), (sSecond (cS (xNow σ))), (upd (sKind (cS (xNow σ))) (p0).toNatClampNeg p1), (upd (sFigure (cS (xNow σ))) (p0).toNatClampNeg p2), (sKnows (cS (xNow σ))), (sWhom (cS (xNow σ))), (sWhat (cS (xNow σ))), (sSaid (cS (xNow σ))), (sWhen (cS (xNow σ)))), (cNeeded (xNow σ)), (cTruth (xNow σ))), (xTaken σ), (xTrial σ), (xScr σ), (xRow σ), (xRefus σ), (xKept σ), (xRowLen σ), (xIsTaken σ))) H := hP
            have hD : va_D (AD ad 0 45) (wX g ad ((((sCase (cS (xNow σ))), (sAsked (cS (xNow σ))), (sNq (cS (xNow σ))), (sNw (cS (xNow σ))), (sNh (cS (xNow σ))), (sForm (cS (xNow σ))), (sFirst (cS (xNow σ))), (sSecond (cS (xNow σ))), (upd (sKind (cS (xNow σ))) (p0).toNatClampNeg p1), (upd (sFigure (cS (xNow σ))) (p0).toNatClampNeg p2), (sKnows (cS (xNow σ))), (sWhom (cS (xNow σ))), (sWhat (cS (xNow σ))), (sSaid (cS (xNow σ))), (sWhen (cS (xNow σ)))), (cNeeded (xNow σ)), (cTruth (xNow σ))), (xTaken σ), (xTrial σ), (xScr σ), (xRow σ), (xRefus σ), (xKept σ), (xRowLen σ), (xIsTaken σ))) := hD
            refine lv_iload hx hb dX2_turn_102 (lv_at hl 0 rfl) ?_
            exact W.iret (v := ((10 * ((sKind (cS (xNow σ))) (p0).toNatClampNeg)) + ((sFigure (cS (xNow σ))) (p0).toNatClampNeg))) hx hb hr (fun t ht hW => ⟨⟨((10 * ((sKind (cS (xNow σ))) (p0).toNatClampNeg)) + ((sFigure (cS (xNow σ))) (p0).toNatClampNeg)), ((((sCase (cS (xNow σ))), (sAsked (cS (xNow σ))), (sNq (cS (xNow σ))), (sNw (cS (xNow σ))), (sNh (cS (xNow σ))), (sForm (cS (xNow σ))), (sFirst (cS (xNow σ))), (sSecond (cS (xNow σ))), (upd (sKind (cS (xNow σ))) (p0).toNatClampNeg p1), (upd (sFigure (cS (xNow σ))) (p0).toNatClampNeg p2), (sKnows (cS (xNow σ))), (sWhom (cS (xNow σ))), (sWhat (cS (xNow σ))), (sSaid (cS (xNow σ))), (sWhen (cS (xNow σ)))), (cNeeded (xNow σ)), (cTruth (xNow σ))), (xTaken σ), (xTrial σ), (xScr σ), (xRow σ), (xRefus σ), (xKept σ), (xRowLen σ), (xIsTaken σ)), rfl, hv, P_at ht hP⟩, hS.F ht⟩) hS.2.2 dX2_turn_104
          · have hv := hv.2 c48
            refine lv_aload_n hx hb dX2_turn_51 rfl (lv_at hl 0 rfl) ?_
            refine lv_bipush (v := (-6)) hx hb dX2_turn_52 (by decide) ?_
            have h8 := hv.1
            have hv := hv.2
            have hPc := hP
            have hDc := hD
            refine rw_int (va_runV (As := [.int (-6)]) (rest := []) ⟨hx, hb, hml, hown, hts⟩ (h_X2_refused g ad σ (-6) h8) (cwV 1 hts gX2_turn_X2_refused rfl rfl rfl (by decide +kernel) ⟨Nat.le_of_ble_eq_true rfl, Nat.le_of_ble_eq_true rfl⟩) ⟨RW_blind, va_recv hK hP (ci := 2) (q0 := 0) rfl rfl, fun U hU hW => ⟨rfl, by rw [hU]; exact hPc, va_K.moved hW.alike hK, hE.call hW hU hS (fun _ h => h), hDc⟩⟩ rfl rfl hl.1 rfl (lv_room (Nat.le_of_ble_eq_true rfl)) dX2_turn_54 ⟨Nat.le_of_ble_eq_true rfl, Nat.le_of_ble_eq_true rfl⟩) hS (fun _ h => h) (fun r u H1 locs hw hP1 hk hS => ?_)
            obtain ⟨hw1, hw⟩ := hw; subst r; subst u
            have hP := hP1
            generalize H1 = H at hP hS ⊢
            have hP : va_P (gD g) vwCl (wX g ad ((xNow σ), (xTaken σ), (xTrial σ), (xScr σ), (xRow σ), (refuX (xRefus σ) ((-6) : Int32)), (xKept σ), (xRowLen σ), (xIsTaken σ))) H := hP
            have hD : va_D (AD ad 0 45) (wX g ad ((xNow σ), (xTaken σ), (xTrial σ), (xScr σ), (xRow σ), (refuX (xRefus σ) ((-6) : Int32)), (xKept σ), (xRowLen σ), (xIsTaken σ))) := hD.addr (by rfl)
            exact W.iret (v := (((-6) : Int32))) hx hb hr (fun t ht hW => ⟨⟨(((-6) : Int32)), ((xNow σ), (xTaken σ), (xTrial σ), (xScr σ), (xRow σ), (refuX (xRefus σ) ((-6) : Int32)), (xKept σ), (xRowLen σ), (xIsTaken σ)), rfl, hv, P_at ht hP⟩, hS.F ht⟩) hS.2.2 dX2_turn_57
        · have hv := hv.2 c35
          refine lv_aload_n hx hb dX2_turn_38 rfl (lv_at hl 0 rfl) ?_
          refine lv_bipush (v := (-4)) hx hb dX2_turn_39 (by decide) ?_
          have h8 := hv.1
          have hv := hv.2
          have hPc := hP
          have hDc := hD
          refine rw_int (va_runV (As := [.int (-4)]) (rest := []) ⟨hx, hb, hml, hown, hts⟩ (h_X2_refused g ad σ (-4) h8) (cwV 1 hts gX2_turn_X2_refused rfl rfl rfl (by decide +kernel) ⟨Nat.le_of_ble_eq_true rfl, Nat.le_of_ble_eq_true rfl⟩) ⟨RW_blind, va_recv hK hP (ci := 2) (q0 := 0) rfl rfl, fun U hU hW => ⟨rfl, by rw [hU]; exact hPc, va_K.moved hW.alike hK, hE.call hW hU hS (fun _ h => h), hDc⟩⟩ rfl rfl hl.1 rfl (lv_room (Nat.le_of_ble_eq_true rfl)) dX2_turn_41 ⟨Nat.le_of_ble_eq_true rfl, Nat.le_of_ble_eq_true rfl⟩) hS (fun _ h => h) (fun r u H1 locs hw hP1 hk hS => ?_)
          obtain ⟨hw1, hw⟩ := hw; subst r; subst u
          have hP := hP1
          generalize H1 = H at hP hS ⊢
          have hP : va_P (gD g) vwCl (wX g ad ((xNow σ), (xTaken σ), (xTrial σ), (xScr σ), (xRow σ), (refuX (xRefus σ) ((-4) : Int32)), (xKept σ), (xRowLen σ), (xIsTaken σ))) H := hP
          have hD : va_D (AD ad 0 45) (wX g ad ((xNow σ), (xTaken σ), (xTrial σ), (xScr σ), (xRow σ), (refuX (xRefus σ) ((-4) : Int32)), (xKept σ), (xRowLen σ), (xIsTaken σ))) := hD.addr (by rfl)
          exact W.iret (v := (((-4) : Int32))) hx hb hr (fun t ht hW => ⟨⟨(((-4) : Int32)), ((xNow σ), (xTaken σ), (xTrial σ), (xScr σ), (xRow σ), (refuX (xRefus σ) ((-4) : Int32)), (xKept σ), (xRowLen σ), (xIsTaken σ)), rfl, hv, P_at ht hP⟩, hS.F ht⟩) hS.2.2 dX2_turn_44
      · have hv := hv.2 c24
        refine lv_aload_n hx hb dX2_turn_27 rfl (lv_at hl 0 rfl) ?_
        refine lv_bipush (v := (-2)) hx hb dX2_turn_28 (by decide) ?_
        have h8 := hv.1
        have hv := hv.2
        have hPc := hP
        have hDc := hD
        refine rw_int (va_runV (As := [.int (-2)]) (rest := []) ⟨hx, hb, hml, hown, hts⟩ (h_X2_refused g ad σ (-2) h8) (cwV 1 hts gX2_turn_X2_refused rfl rfl rfl (by decide +kernel) ⟨Nat.le_of_ble_eq_true rfl, Nat.le_of_ble_eq_true rfl⟩) ⟨RW_blind, va_recv hK hP (ci := 2) (q0 := 0) rfl rfl, fun U hU hW => ⟨rfl, by rw [hU]; exact hPc, va_K.moved hW.alike hK, hE.call hW hU hS (fun _ h => h), hDc⟩⟩ rfl rfl hl.1 rfl (lv_room (Nat.le_of_ble_eq_true rfl)) dX2_turn_30 ⟨Nat.le_of_ble_eq_true rfl, Nat.le_of_ble_eq_true rfl⟩) hS (fun _ h => h) (fun r u H1 locs hw hP1 hk hS => ?_)
        obtain ⟨hw1, hw⟩ := hw; subst r; subst u
        have hP := hP1
        generalize H1 = H at hP hS ⊢
        have hP : va_P (gD g) vwCl (wX g ad ((xNow σ), (xTaken σ), (xTrial σ), (xScr σ), (xRow σ), (refuX (xRefus σ) ((-2) : Int32)), (xKept σ), (xRowLen σ), (xIsTaken σ))) H := hP
        have hD : va_D (AD ad 0 45) (wX g ad ((xNow σ), (xTaken σ), (xTrial σ), (xScr σ), (xRow σ), (refuX (xRefus σ) ((-2) : Int32)), (xKept σ), (xRowLen σ), (xIsTaken σ))) := hD.addr (by rfl)
        exact W.iret (v := (((-2) : Int32))) hx hb hr (fun t ht hW => ⟨⟨(((-2) : Int32)), ((xNow σ), (xTaken σ), (xTrial σ), (xScr σ), (xRow σ), (refuX (xRefus σ) ((-2) : Int32)), (xKept σ), (xRowLen σ), (xIsTaken σ)), rfl, hv, P_at ht hP⟩, hS.F ht⟩) hS.2.2 dX2_turn_33
  · have hv := hv.2 c8
    refine lv_aload_n hx hb dX2_turn_11 rfl (lv_at hl 0 rfl) ?_
    refine lv_iconst (v := (-1)) hx hb dX2_turn_12 (by decide) ?_
    have h8 := hv.1
    have hv := hv.2
    have hPc := hP
    have hDc := hD
    refine rw_int (va_runV (As := [.int (-1)]) (rest := []) ⟨hx, hb, hml, hown, hts⟩ (h_X2_refused g ad σ (-1) h8) (cwV 1 hts gX2_turn_X2_refused rfl rfl rfl (by decide +kernel) ⟨Nat.le_of_ble_eq_true rfl, Nat.le_of_ble_eq_true rfl⟩) ⟨RW_blind, va_recv hK hP (ci := 2) (q0 := 0) rfl rfl, fun U hU hW => ⟨rfl, by rw [hU]; exact hPc, va_K.moved hW.alike hK, hE.call hW hU hS (fun _ h => h), hDc⟩⟩ rfl rfl hl.1 rfl (lv_room (Nat.le_of_ble_eq_true rfl)) dX2_turn_13 ⟨Nat.le_of_ble_eq_true rfl, Nat.le_of_ble_eq_true rfl⟩) hS (fun _ h => h) (fun r u H1 locs hw hP1 hk hS => ?_)
    obtain ⟨hw1, hw⟩ := hw; subst r; subst u
    have hP := hP1
    generalize H1 = H at hP hS ⊢
    have hP : va_P (gD g) vwCl (wX g ad ((xNow σ), (xTaken σ), (xTrial σ), (xScr σ), (xRow σ), (refuX (xRefus σ) ((-1) : Int32)), (xKept σ), (xRowLen σ), (xIsTaken σ))) H := hP
    have hD : va_D (AD ad 0 45) (wX g ad ((xNow σ), (xTaken σ), (xTrial σ), (xScr σ), (xRow σ), (refuX (xRefus σ) ((-1) : Int32)), (xKept σ), (xRowLen σ), (xIsTaken σ))) := hD.addr (by rfl)
    exact W.iret (v := (((-1) : Int32))) hx hb hr (fun t ht hW => ⟨⟨(((-1) : Int32)), ((xNow σ), (xTaken σ), (xTrial σ), (xScr σ), (xRow σ), (refuX (xRefus σ) ((-1) : Int32)), (xKept σ), (xRowLen σ), (xIsTaken σ)), rfl, hv, P_at ht hP⟩, hS.F ht⟩) hS.2.2 dX2_turn_16

set_option maxHeartbeats 4000000 in
set_option maxRecDepth 100000 in
theorem m_X2_empties (l : Launch)  (g : CX) (ad : Nat → Nat) (σ : KX)  (Post : Int32 → KX → Prop) (hv : vc_X2_empties σ Post) : Met l yX2_empties wsX2_empties { frames := 0, cells := 0, slots := 0, locals := 0 } (va_Pc [.ref (ad 0)] (RW g (AD ad 0 45) (wX g ad σ))) (va_Qi (fun (r : Int32) (u : KX) => Post r u) (fun u t => va_P (gD g) vwCl (wX g ad u) t.heap) (AD ad 0 45)) 0 0 (AD ad 0 45) := by
  unfold vc_X2_empties at hv
  refine Met.ofW (cc := cX2_empties) (maxL := 2) (ret := (some .int)) (by decide) rfl ?_
  intro p e s m args below meth c s₁ B hml hv0
  obtain ⟨rfl, hP, hK, hE, hD⟩ := hv0
  have hx := B.exec
  have hb := B.bytes
  have hr := B.returns
  have hts := atoms_spec (ws := wsX2_empties) B.pre
  have hown : s.vm.findClass RX2 = some m.cls := findClass_of_methodNamed B.named
  have hlocks := B.notSynchronized
  have hi0 : ∀ w ∈ wsX00, w ∈ wsX2_empties := by decide +kernel
  have hi2 : ∀ w ∈ wsX20, w ∈ wsX2_empties := by decide +kernel
  have k0 := hts (.fieldLink RX2 10 "JuryHearsAnswers" "now" "LJuryHearsAnswers$Court;") (by decide +kernel)
  have k1 := hts (.fieldLink RX2 112 "JuryHearsAnswers$Court" "heardLength" "I") (by decide +kernel)
  have hS : va_S (AD ad 0 45) s.heap s.heap [] := va_S.rf
  have hP : va_P (gD g) vwCl (wX g ad σ) s.heap := hP
  have hl := lv_entry ([.ref (ad 0)]) (n := 2) (Nat.le_of_ble_eq_true rfl)
  rw [lg_entry_eq]
  generalize (lg_sl ([.ref (ad 0)]) ++ List.replicate (2 - (lg_sl ([.ref (ad 0)])).length) Slot.unset).toArray = ls at hl ⊢
  have hl : lv_has ls 2 [(0, .ref (ad 0))] := hl
  obtain ⟨H, hH⟩ : ∃ z, z = s.heap := ⟨_, rfl⟩
  obtain ⟨locs, hL⟩ : ∃ z : List Loc, z = [] := ⟨_, rfl⟩
  rw [← hL] at hS ⊢
  have hS : va_S (AD ad 0 45) s.heap H locs := by rw [hH]; exact hS
  rw [← hH] at hP ⊢
  clear hH hL
  refine lv_aload_n hx hb dX2_empties_0 rfl (lv_at hl 0 rfl) ?_
  refine va_get (D := gD g) (ci := 2) (v := .ref (ad 4)) (C := RX2) (T := TX2) (N := 9) hx hb hts hi2 hown hK hP 0 rfl rfl 0 (by decide) k0 (fun _ h9 => h9) rfl dX2_empties_1 ?_
  refine va_get (D := gD g) (ci := 0) (v := .int (sNh (cS (xNow σ)))) (C := RX0) (T := TX0) (N := 17) hx hb hts hi0 hown hK hP 4 rfl rfl 4 (by decide) k1 (fun _ h9 => h9) rfl dX2_empties_4 ?_
  refine lv_istore_n (lv' := [(1, .int (sNh (cS (xNow σ)))), (0, .ref (ad 0))]) hx hb dX2_empties_7 rfl hl (by decide) rfl (fun ls hl => ?_)
  refine lv_aload_n hx hb dX2_empties_8 rfl (lv_at hl 1 rfl) ?_
  refine va_get (D := gD g) (ci := 2) (v := .ref (ad 4)) (C := RX2) (T := TX2) (N := 9) hx hb hts hi2 hown hK hP 0 rfl rfl 0 (by decide) k0 (fun _ h9 => h9) rfl dX2_empties_9 ?_
  refine lv_iconst (v := 0) hx hb dX2_empties_12 (by decide) ?_
  refine va_put (D := gD g) (ci := 0) (v := .int 0) (ty := .int) (C := RX0) (T := TX0) (N := 17) hx hb hts hi0 tyX0 tyX0_ok nmX0 hown hK hP hD hS 4 rfl rfl 4 (by decide) k1 (fun _ h9 => h9) rfl (by decide +kernel) rfl rfl (Nat.le_of_ble_eq_true rfl) dX2_empties_13 (fun H locs hP hD hS => ?_)
  have hP : va_P (gD g) vwCl (wX g ad ((((sCase (cS (xNow σ))), (sAsked (cS (xNow σ))), (sNq (cS (xNow σ))), (sNw (cS (xNow σ))), 0, (sForm (cS (xNow σ))), (sFirst (cS (xNow σ))), (sSecond (cS (xNow σ))), (sKind (cS (xNow σ))), (sFigure (cS (xNow σ))), (sKnows (cS (xNow σ))), (sWhom (cS (xNow σ))), (sWhat (cS (xNow σ))), (sSaid (cS (xNow σ))), (sWhen (cS (xNow σ)))), (cNeeded (xNow σ)), (cTruth (xNow σ))), (xTaken σ), (xTrial σ), (xScr σ), (xRow σ), (xRefus σ), (xKept σ), (xRowLen σ), (xIsTaken σ))) H := hP
  have hD : va_D (AD ad 0 45) (wX g ad ((((sCase (cS (xNow σ))), (sAsked (cS (xNow σ))), (sNq (cS (xNow σ))), (sNw (cS (xNow σ))), 0, (sForm (cS (xNow σ))), (sFirst (cS (xNow σ))), (sSecond (cS (xNow σ))), (sKind (cS (xNow σ))), (sFigure (cS (xNow σ))), (sKnows (cS (xNow σ))), (sWhom (cS (xNow σ))), (sWhat (cS (xNow σ))), (sSaid (cS (xNow σ))), (sWhen (cS (xNow σ)))), (cNeeded (xNow σ)), (cTruth (xNow σ))), (xTaken σ), (xTrial σ), (xScr σ), (xRow σ), (xRefus σ), (xKept σ), (xRowLen σ), (xIsTaken σ))) := hD
  refine lv_iload_n hx hb dX2_empties_16 rfl (lv_at hl 0 rfl) ?_
  exact W.iret (v := (sNh (cS (xNow σ)))) hx hb hr (fun t ht hW => ⟨⟨(sNh (cS (xNow σ))), ((((sCase (cS (xNow σ))), (sAsked (cS (xNow σ))), (sNq (cS (xNow σ))), (sNw (cS (xNow σ))), 0, (sForm (cS (xNow σ))), (sFirst (cS (xNow σ))), (sSecond (cS (xNow σ))), (sKind (cS (xNow σ))), (sFigure (cS (xNow σ))), (sKnows (cS (xNow σ))), (sWhom (cS (xNow σ))), (sWhat (cS (xNow σ))), (sSaid (cS (xNow σ))), (sWhen (cS (xNow σ)))), (cNeeded (xNow σ)), (cTruth (xNow σ))), (xTaken σ), (xTrial σ), (xScr σ), (xRow σ), (xRefus σ), (xKept σ), (xRowLen σ), (xIsTaken σ)), rfl, hv, P_at ht hP⟩, hS.F ht⟩) hS.2.2 dX2_empties_17

set_option maxHeartbeats 4000000 in
set_option maxRecDepth 100000 in
theorem m_X2_answer (l : Launch) (h_X0_hasQuestion : C_X0_hasQuestion l) (h_X0_hasWitness : C_X0_hasWitness l) (h_X0_reply : C_X0_reply l) (h_X2_refused : C_X2_refused l) (g : CX) (ad : Nat → Nat) (σ : KX) (p0 : Int32) (p1 : Int32) (p2 : Int32) (Post : Int32 → KX → Prop) (hv : vc_X2_answer σ p0 p1 p2 Post) : Met l yX2_answer wsX2_answer { frames := 3, cells := 0, slots := 0, locals := 70 } (va_Pc [.ref (ad 0), .int p0, .int p1, .int p2] (RW g (AD ad 0 45) (wX g ad σ))) (va_Qi (fun (r : Int32) (u : KX) => Post r u) (fun u t => va_P (gD g) vwCl (wX g ad u) t.heap) (AD ad 0 45)) 0 0 (AD ad 0 45) := by
  unfold vc_X2_answer at hv
  refine Met.ofW (cc := cX2_answer) (maxL := 4) (ret := (some .int)) (by decide) rfl ?_
  intro p e s m args below meth c s₁ B hml hv0
  obtain ⟨rfl, hP, hK, hE, hD⟩ := hv0
  have hx := B.exec
  have hb := B.bytes
  have hr := B.returns
  have hts := atoms_spec (ws := wsX2_answer) B.pre
  have hown : s.vm.findClass RX2 = some m.cls := findClass_of_methodNamed B.named
  have hlocks := B.notSynchronized
  have hi0 : ∀ w ∈ wsX00, w ∈ wsX2_answer := by decide +kernel
  have hi2 : ∀ w ∈ wsX20, w ∈ wsX2_answer := by decide +kernel
  have k0 := hts (.fieldLink RX2 10 "JuryHearsAnswers" "now" "LJuryHearsAnswers$Court;") (by decide +kernel)
  have k1 := hts (.fieldLink RX2 90 "JuryHearsAnswers$Court" "asked" "I") (by decide +kernel)
  have k2 := hts (.fieldLink RX2 60 "JuryHearsAnswers$Court" "caseNow" "I") (by decide +kernel)
  have hS : va_S (AD ad 0 45) s.heap s.heap [] := va_S.rf
  have hP : va_P (gD g) vwCl (wX g ad σ) s.heap := hP
  have hl := lv_entry ([.ref (ad 0), .int p0, .int p1, .int p2]) (n := 4) (Nat.le_of_ble_eq_true rfl)
  rw [lg_entry_eq]
  generalize (lg_sl ([.ref (ad 0), .int p0, .int p1, .int p2]) ++ List.replicate (4 - (lg_sl ([.ref (ad 0), .int p0, .int p1, .int p2])).length) Slot.unset).toArray = ls at hl ⊢
  have hl : lv_has ls 4 [(0, .ref (ad 0)), (1, .int p0), (2, .int p1), (3, .int p2)] := hl
  obtain ⟨H, hH⟩ : ∃ z, z = s.heap := ⟨_, rfl⟩
  obtain ⟨locs, hL⟩ : ∃ z : List Loc, z = [] := ⟨_, rfl⟩
  rw [← hL] at hS ⊢
  have hS : va_S (AD ad 0 45) s.heap H locs := by rw [hH]; exact hS
  rw [← hH] at hP ⊢
  clear hH hL
  refine lv_aload_n hx hb dX2_answer_0 rfl (lv_at hl 0 rfl) ?_
  refine va_get (D := gD g) (ci := 2) (v := .ref (ad 4)) (C := RX2) (T := TX2) (N := 9) hx hb hts hi2 hown hK hP 0 rfl rfl 0 (by decide) k0 (fun _ h9 => h9) rfl dX2_answer_1 ?_
  refine lv_iload_n hx hb dX2_answer_4 rfl (lv_at hl 1 rfl) ?_
  have hPc : va_P (gD g) vwCl (wC g ad 4 (xNow σ)) H := hP.sub [4, 5, 6, 7, 8, 9, 10, 11, 12, 13, 14, 15, 16] rfl
  refine ro_int (va_runV (As := [.int p0]) (rest := []) ⟨hx, hb, hml, hown, hts⟩ (h_X0_hasWitness g ad 4 (xNow σ) p0) (cwV 1 hts gX2_answer_X0_hasWitness rfl rfl rfl (by decide +kernel) ⟨Nat.le_of_ble_eq_true rfl, Nat.le_of_ble_eq_true rfl⟩) ⟨RO_blind, va_recv hK hP (ci := 0) (q0 := 4) rfl rfl, fun U hU hW => ⟨rfl, by rw [hU]; exact hPc, va_K.moved hW.alike hK, hE.call hW hU hS (fun _ h => h.elim)⟩⟩ rfl rfl hl.1 rfl (lv_room (Nat.le_of_ble_eq_true rfl)) dX2_answer_5 ⟨Nat.le_of_ble_eq_true rfl, Nat.le_of_ble_eq_true rfl⟩) hS hP (fun r H locs hw hP hS => ?_)
  subst r
  refine lv_if_eq (tgt := 22) hx hb dX2_answer_8 (by decide) (fun c8 => ?_) (fun c8 => ?_)
  · have hv := hv.1 c8
    refine lv_aload_n hx hb dX2_answer_22 rfl (lv_at hl 0 rfl) ?_
    refine lv_iconst (v := (-1)) hx hb dX2_answer_23 (by decide) ?_
    have h8 := hv.1
    have hv := hv.2
    have hPc := hP
    have hDc := hD
    refine rw_int (va_runV (As := [.int (-1)]) (rest := []) ⟨hx, hb, hml, hown, hts⟩ (h_X2_refused g ad σ (-1) h8) (cwV 1 hts gX2_answer_X2_refused rfl rfl rfl (by decide +kernel) ⟨Nat.le_of_ble_eq_true rfl, Nat.le_of_ble_eq_true rfl⟩) ⟨RW_blind, va_recv hK hP (ci := 2) (q0 := 0) rfl rfl, fun U hU hW => ⟨rfl, by rw [hU]; exact hPc, va_K.moved hW.alike hK, hE.call hW hU hS (fun _ h => h), hDc⟩⟩ rfl rfl hl.1 rfl (lv_room (Nat.le_of_ble_eq_true rfl)) dX2_answer_24 ⟨Nat.le_of_ble_eq_true rfl, Nat.le_of_ble_eq_true rfl⟩) hS (fun _ h => h) (fun r u H1 locs hw hP1 hk hS => ?_)
    obtain ⟨hw1, hw⟩ := hw; subst r; subst u
    have hP := hP1
    generalize H1 = H at hP hS ⊢
    have hP : va_P (gD g) vwCl (wX g ad ((xNow σ), (xTaken σ), (xTrial σ), (xScr σ), (xRow σ), (refuX (xRefus σ) ((-1) : Int32)), (xKept σ), (xRowLen σ), (xIsTaken σ))) H := hP
    have hD : va_D (AD ad 0 45) (wX g ad ((xNow σ), (xTaken σ), (xTrial σ), (xScr σ), (xRow σ), (refuX (xRefus σ) ((-1) : Int32)), (xKept σ), (xRowLen σ), (xIsTaken σ))) := hD.addr (by rfl)
    exact W.iret (v := (((-1) : Int32))) hx hb hr (fun t ht hW => ⟨⟨(((-1) : Int32)), ((xNow σ), (xTaken σ), (xTrial σ), (xScr σ), (xRow σ), (refuX (xRefus σ) ((-1) : Int32)), (xKept σ), (xRowLen σ), (xIsTaken σ)), rfl, hv, P_at ht hP⟩, hS.F ht⟩) hS.2.2 dX2_answer_27
  · have hv := hv.2 c8
    refine lv_aload_n hx hb dX2_answer_11 rfl (lv_at hl 0 rfl) ?_
    refine va_get (D := gD g) (ci := 2) (v := .ref (ad 4)) (C := RX2) (T := TX2) (N := 9) hx hb hts hi2 hown hK hP 0 rfl rfl 0 (by decide) k0 (fun _ h9 => h9) rfl dX2_answer_12 ?_
    refine lv_iload_n hx hb dX2_answer_15 rfl (lv_at hl 2 rfl) ?_
    have hPc : va_P (gD g) vwCl (wC g ad 4 (xNow σ)) H := hP.sub [4, 5, 6, 7, 8, 9, 10, 11, 12, 13, 14, 15, 16] rfl
    refine ro_int (va_runV (As := [.int p1]) (rest := []) ⟨hx, hb, hml, hown, hts⟩ (h_X0_hasQuestion g ad 4 (xNow σ) p1) (cwV 1 hts gX2_answer_X0_hasQuestion rfl rfl rfl (by decide +kernel) ⟨Nat.le_of_ble_eq_true rfl, Nat.le_of_ble_eq_true rfl⟩) ⟨RO_blind, va_recv hK hP (ci := 0) (q0 := 4) rfl rfl, fun U hU hW => ⟨rfl, by rw [hU]; exact hPc, va_K.moved hW.alike hK, hE.call hW hU hS (fun _ h => h.elim)⟩⟩ rfl rfl hl.1 rfl (lv_room (Nat.le_of_ble_eq_true rfl)) dX2_answer_16 ⟨Nat.le_of_ble_eq_true rfl, Nat.le_of_ble_eq_true rfl⟩) hS hP (fun r H locs hw hP hS => ?_)
    subst r
    refine lv_if_ne (tgt := 28) hx hb dX2_answer_19 (by decide) (fun c19 => ?_) (fun c19 => ?_)
    · have hv := hv.1 c19
      refine lv_iload_n hx hb dX2_answer_28 rfl (lv_at hl 3 rfl) ?_
      refine lv_iconst (v := (-1)) hx hb dX2_answer_29 (by decide) ?_
      refine lv_icmp_ge (tgt := 40) hx hb dX2_answer_30 (by decide) (fun c30 => ?_) (fun c30 => ?_)
      · have hv := hv.1 c30
        refine lv_iload_n hx hb dX2_answer_40 rfl (lv_at hl 3 rfl) ?_
        refine lv_bipush (v := 63) hx hb dX2_answer_41 (by decide) ?_
        refine lv_icmp_le (tgt := 53) hx hb dX2_answer_43 (by decide) (fun c43 => ?_) (fun c43 => ?_)
        · have hv := hv.1 c43
          refine lv_aload_n hx hb dX2_answer_53 rfl (lv_at hl 0 rfl) ?_
          refine va_get (D := gD g) (ci := 2) (v := .ref (ad 4)) (C := RX2) (T := TX2) (N := 9) hx hb hts hi2 hown hK hP 0 rfl rfl 0 (by decide) k0 (fun _ h9 => h9) rfl dX2_answer_54 ?_
          refine lv_iload_n hx hb dX2_answer_57 rfl (lv_at hl 1 rfl) ?_
          refine lv_iload_n hx hb dX2_answer_58 rfl (lv_at hl 2 rfl) ?_
          refine lv_aload_n hx hb dX2_answer_59 rfl (lv_at hl 0 rfl) ?_
          refine va_get (D := gD g) (ci := 2) (v := .ref (ad 4)) (C := RX2) (T := TX2) (N := 9) hx hb hts hi2 hown hK hP 0 rfl rfl 0 (by decide) k0 (fun _ h9 => h9) rfl dX2_answer_60 ?_
          refine va_get (D := gD g) (ci := 0) (v := .int (sAsked (cS (xNow σ)))) (C := RX0) (T := TX0) (N := 17) hx hb hts hi0 hown hK hP 4 rfl rfl 1 (by decide) k1 (fun _ h9 => h9) rfl dX2_answer_63 ?_
          refine lv_iconst (v := 1) hx hb dX2_answer_66 (by decide) ?_
          refine lv_iadd hx hb dX2_answer_67 ?_
          refine lv_iload_n hx hb dX2_answer_68 rfl (lv_at hl 3 rfl) ?_
          refine lv_if_ge (tgt := 82) hx hb dX2_answer_69 (by decide) (fun c69 => ?_) (fun c69 => ?_)
          · have hv := hv.1 c69
            refine lv_iload_n hx hb dX2_answer_82 rfl (lv_at hl 3 rfl) ?_
            have h8 := hv.1
            have hv := hv.2
            have hPc : va_P (gD g) vwCl (wC g ad 4 (xNow σ)) H := hP.sub [4, 5, 6, 7, 8, 9, 10, 11, 12, 13, 14, 15, 16] rfl
            refine ro_int (va_runV (As := [.int p0, .int p1, .int ((sAsked (cS (xNow σ))) + 1), .int p2]) (rest := []) ⟨hx, hb, hml, hown, hts⟩ (h_X0_reply g ad 4 (xNow σ) p0 p1 ((sAsked (cS (xNow σ))) + 1) p2 h8) (cwV 4 hts gX2_answer_X0_reply rfl rfl rfl (by decide +kernel) ⟨Nat.le_of_ble_eq_true rfl, Nat.le_of_ble_eq_true rfl⟩) ⟨RO_blind, va_recv hK hP (ci := 0) (q0 := 4) rfl rfl, fun U hU hW => ⟨rfl, by rw [hU]; exact hPc, va_K.moved hW.alike hK, hE.call hW hU hS (fun _ h => h.elim)⟩⟩ rfl rfl hl.1 rfl (lv_room (Nat.le_of_ble_eq_true rfl)) dX2_answer_83 ⟨Nat.le_of_ble_eq_true rfl, Nat.le_of_ble_eq_true rfl⟩) hS hP (fun r H locs hw hP hS => ?_)
            subst r
            exact W.iret (v := (replyI (xNow σ) p0 p1 ((sAsked (cS (xNow σ))) + 1) p2)) hx hb hr (fun t ht hW => ⟨⟨(replyI (xNow σ) p0 p1 ((sAsked (cS (xNow σ))) + 1) p2), σ, rfl, hv, P_at ht hP⟩, hS.F ht⟩) hS.2.2 dX2_answer_86
          · have hv := hv.2 c69
            refine lv_aload_n hx hb dX2_answer_72 rfl (lv_at hl 0 rfl) ?_
            refine va_get (D := gD g) (ci := 2) (v := .ref (ad 4)) (C := RX2) (T := TX2) (N := 9) hx hb hts hi2 hown hK hP 0 rfl rfl 0 (by decide) k0 (fun _ h9 => h9) rfl dX2_answer_73 ?_
            refine va_get (D := gD g) (ci := 0) (v := .int (sCase (cS (xNow σ)))) (C := RX0) (T := TX0) (N := 17) hx hb hts hi0 hown hK hP 4 rfl rfl 0 (by decide) k2 (fun _ h9 => h9) rfl dX2_answer_76 ?_
            refine lv_goto (tgt := 83) hx hb dX2_answer_79 (by decide) ?_
            have h8 := hv.1
            have hv := hv.2
            have hPc : va_P (gD g) vwCl (wC g ad 4 (xNow σ)) H := hP.sub [4, 5, 6, 7, 8, 9, 10, 11, 12, 13, 14, 15, 16] rfl
            refine ro_int (va_runV (As := [.int p0, .int p1, .int ((sAsked (cS (xNow σ))) + 1), .int (sCase (cS (xNow σ)))]) (rest := []) ⟨hx, hb, hml, hown, hts⟩ (h_X0_reply g ad 4 (xNow σ) p0 p1 ((sAsked (cS (xNow σ))) + 1) (sCase (cS (xNow σ))) h8) (cwV 4 hts gX2_answer_X0_reply rfl rfl rfl (by decide +kernel) ⟨Nat.le_of_ble_eq_true rfl, Nat.le_of_ble_eq_true rfl⟩) ⟨RO_blind, va_recv hK hP (ci := 0) (q0 := 4) rfl rfl, fun U hU hW => ⟨rfl, by rw [hU]; exact hPc, va_K.moved hW.alike hK, hE.call hW hU hS (fun _ h => h.elim)⟩⟩ rfl rfl hl.1 rfl (lv_room (Nat.le_of_ble_eq_true rfl)) dX2_answer_83 ⟨Nat.le_of_ble_eq_true rfl, Nat.le_of_ble_eq_true rfl⟩) hS hP (fun r H locs hw hP hS => ?_)
            subst r
            exact W.iret (v := (replyI (xNow σ) p0 p1 ((sAsked (cS (xNow σ))) + 1) (sCase (cS (xNow σ))))) hx hb hr (fun t ht hW => ⟨⟨(replyI (xNow σ) p0 p1 ((sAsked (cS (xNow σ))) + 1) (sCase (cS (xNow σ)))), σ, rfl, hv, P_at ht hP⟩, hS.F ht⟩) hS.2.2 dX2_answer_86
        · have hv := hv.2 c43
          refine lv_aload_n hx hb dX2_answer_46 rfl (lv_at hl 0 rfl) ?_
          refine lv_bipush (v := (-6)) hx hb dX2_answer_47 (by decide) ?_
          have h8 := hv.1
          have hv := hv.2
          have hPc := hP
          have hDc := hD
          refine rw_int (va_runV (As := [.int (-6)]) (rest := []) ⟨hx, hb, hml, hown, hts⟩ (h_X2_refused g ad σ (-6) h8) (cwV 1 hts gX2_answer_X2_refused rfl rfl rfl (by decide +kernel) ⟨Nat.le_of_ble_eq_true rfl, Nat.le_of_ble_eq_true rfl⟩) ⟨RW_blind, va_recv hK hP (ci := 2) (q0 := 0) rfl rfl, fun U hU hW => ⟨rfl, by rw [hU]; exact hPc, va_K.moved hW.alike hK, hE.call hW hU hS (fun _ h => h), hDc⟩⟩ rfl rfl hl.1 rfl (lv_room (Nat.le_of_ble_eq_true rfl)) dX2_answer_49 ⟨Nat.le_of_ble_eq_true rfl, Nat.le_of_ble_eq_true rfl⟩) hS (fun _ h => h) (fun r u H1 locs hw hP1 hk hS => ?_)
          obtain ⟨hw1, hw⟩ := hw; subst r; subst u
          have hP := hP1
          generalize H1 = H at hP hS ⊢
          have hP : va_P (gD g) vwCl (wX g ad ((xNow σ), (xTaken σ), (xTrial σ), (xScr σ), (xRow σ), (refuX (xRefus σ) ((-6) : Int32)), (xKept σ), (xRowLen σ), (xIsTaken σ))) H := hP
          have hD : va_D (AD ad 0 45) (wX g ad ((xNow σ), (xTaken σ), (xTrial σ), (xScr σ), (xRow σ), (refuX (xRefus σ) ((-6) : Int32)), (xKept σ), (xRowLen σ), (xIsTaken σ))) := hD.addr (by rfl)
          exact W.iret (v := (((-6) : Int32))) hx hb hr (fun t ht hW => ⟨⟨(((-6) : Int32)), ((xNow σ), (xTaken σ), (xTrial σ), (xScr σ), (xRow σ), (refuX (xRefus σ) ((-6) : Int32)), (xKept σ), (xRowLen σ), (xIsTaken σ)), rfl, hv, P_at ht hP⟩, hS.F ht⟩) hS.2.2 dX2_answer_52
      · have hv := hv.2 c30
        refine lv_aload_n hx hb dX2_answer_33 rfl (lv_at hl 0 rfl) ?_
        refine lv_bipush (v := (-4)) hx hb dX2_answer_34 (by decide) ?_
        have h8 := hv.1
        have hv := hv.2
        have hPc := hP
        have hDc := hD
        refine rw_int (va_runV (As := [.int (-4)]) (rest := []) ⟨hx, hb, hml, hown, hts⟩ (h_X2_refused g ad σ (-4) h8) (cwV 1 hts gX2_answer_X2_refused rfl rfl rfl (by decide +kernel) ⟨Nat.le_of_ble_eq_true rfl, Nat.le_of_ble_eq_true rfl⟩) ⟨RW_blind, va_recv hK hP (ci := 2) (q0 := 0) rfl rfl, fun U hU hW => ⟨rfl, by rw [hU]; exact hPc, va_K.moved hW.alike hK, hE.call hW hU hS (fun _ h => h), hDc⟩⟩ rfl rfl hl.1 rfl (lv_room (Nat.le_of_ble_eq_true rfl)) dX2_answer_36 ⟨Nat.le_of_ble_eq_true rfl, Nat.le_of_ble_eq_true rfl⟩) hS (fun _ h => h) (fun r u H1 locs hw hP1 hk hS => ?_)
        obtain ⟨hw1, hw⟩ := hw; subst r; subst u
        have hP := hP1
        generalize H1 = H at hP hS ⊢
        have hP : va_P (gD g) vwCl (wX g ad ((xNow σ), (xTaken σ), (xTrial σ), (xScr σ), (xRow σ), (refuX (xRefus σ) ((-4) : Int32)), (xKept σ), (xRowLen σ), (xIsTaken σ))) H := hP
        have hD : va_D (AD ad 0 45) (wX g ad ((xNow σ), (xTaken σ), (xTrial σ), (xScr σ), (xRow σ), (refuX (xRefus σ) ((-4) : Int32)), (xKept σ), (xRowLen σ), (xIsTaken σ))) := hD.addr (by rfl)
        exact W.iret (v := (((-4) : Int32))) hx hb hr (fun t ht hW => ⟨⟨(((-4) : Int32)), ((xNow σ), (xTaken σ), (xTrial σ), (xScr σ), (xRow σ), (refuX (xRefus σ) ((-4) : Int32)), (xKept σ), (xRowLen σ), (xIsTaken σ)), rfl, hv, P_at ht hP⟩, hS.F ht⟩) hS.2.2 dX2_answer_39
    · have hv := hv.2 c19
      refine lv_aload_n hx hb dX2_answer_22 rfl (lv_at hl 0 rfl) ?_
      refine lv_iconst (v := (-1)) hx hb dX2_answer_23 (by decide) ?_
      have h8 := hv.1
      have hv := hv.2
      have hPc := hP
      have hDc := hD
      refine rw_int (va_runV (As := [.int (-1)]) (rest := []) ⟨hx, hb, hml, hown, hts⟩ (h_X2_refused g ad σ (-1) h8) (cwV 1 hts gX2_answer_X2_refused rfl rfl rfl (by decide +kernel) ⟨Nat.le_of_ble_eq_true rfl, Nat.le_of_ble_eq_true rfl⟩) ⟨RW_blind, va_recv hK hP (ci := 2) (q0 := 0) rfl rfl, fun U hU hW => ⟨rfl, by rw [hU]; exact hPc, va_K.moved hW.alike hK, hE.call hW hU hS (fun _ h => h), hDc⟩⟩ rfl rfl hl.1 rfl (lv_room (Nat.le_of_ble_eq_true rfl)) dX2_answer_24 ⟨Nat.le_of_ble_eq_true rfl, Nat.le_of_ble_eq_true rfl⟩) hS (fun _ h => h) (fun r u H1 locs hw hP1 hk hS => ?_)
      obtain ⟨hw1, hw⟩ := hw; subst r; subst u
      have hP := hP1
      generalize H1 = H at hP hS ⊢
      have hP : va_P (gD g) vwCl (wX g ad ((xNow σ), (xTaken σ), (xTrial σ), (xScr σ), (xRow σ), (refuX (xRefus σ) ((-1) : Int32)), (xKept σ), (xRowLen σ), (xIsTaken σ))) H := hP
      have hD : va_D (AD ad 0 45) (wX g ad ((xNow σ), (xTaken σ), (xTrial σ), (xScr σ), (xRow σ), (refuX (xRefus σ) ((-1) : Int32)), (xKept σ), (xRowLen σ), (xIsTaken σ))) := hD.addr (by rfl)
      exact W.iret (v := (((-1) : Int32))) hx hb hr (fun t ht hW => ⟨⟨(((-1) : Int32)), ((xNow σ), (xTaken σ), (xTrial σ), (xScr σ), (xRow σ), (refuX (xRefus σ) ((-1) : Int32)), (xKept σ), (xRowLen σ), (xIsTaken σ)), rfl, hv, P_at ht hP⟩, hS.F ht⟩) hS.2.2 dX2_answer_27

set_option maxHeartbeats 4000000 in
set_option maxRecDepth 100000 in
theorem m_X2_fits (l : Launch) (h_X0_fitting : C_X0_fitting l) (h_X2_isPart : C_X2_isPart l) (h_X2_refused : C_X2_refused l) (h_X2_sizeOrLeast : C_X2_sizeOrLeast l) (g : CX) (ad : Nat → Nat) (σ : KX) (p0 : Int32) (Post : Int32 → KX → Prop) (hv : vc_X2_fits σ p0 Post) : Met l yX2_fits wsX2_fits { frames := 5, cells := 0, slots := 0, locals := 114 } (va_Pc [.ref (ad 0), .int p0] (RW g (AD ad 0 45) (wX g ad σ))) (va_Qi (fun (r : Int32) (u : KX) => Post r u) (fun u t => va_P (gD g) vwCl (wX g ad u) t.heap) (AD ad 0 45)) 0 0 (AD ad 0 45) := by
  unfold vc_X2_fits at hv
  refine Met.ofW (cc := cX2_fits) (maxL := 2) (ret := (some .int)) (by decide) rfl ?_
  intro p e s m args below meth c s₁ B hml hv0
  obtain ⟨rfl, hP, hK, hE, hD⟩ := hv0
  have hx := B.exec
  have hb := B.bytes
  have hr := B.returns
  have hts := atoms_spec (ws := wsX2_fits) B.pre
  have hown : s.vm.findClass RX2 = some m.cls := findClass_of_methodNamed B.named
  have hlocks := B.notSynchronized
  have hi2 : ∀ w ∈ wsX20, w ∈ wsX2_fits := by decide +kernel
  have k0 := hts (.fieldLink RX2 10 "JuryHearsAnswers" "now" "LJuryHearsAnswers$Court;") (by decide +kernel)
  have hS : va_S (AD ad 0 45) s.heap s.heap [] := va_S.rf
  have hP : va_P (gD g) vwCl (wX g ad σ) s.heap := hP
  have hl := lv_entry ([.ref (ad 0), .int p0]) (n := 2) (Nat.le_of_ble_eq_true rfl)
  rw [lg_entry_eq]
  generalize (lg_sl ([.ref (ad 0), .int p0]) ++ List.replicate (2 - (lg_sl ([.ref (ad 0), .int p0])).length) Slot.unset).toArray = ls at hl ⊢
  have hl : lv_has ls 2 [(0, .ref (ad 0)), (1, .int p0)] := hl
  obtain ⟨H, hH⟩ : ∃ z, z = s.heap := ⟨_, rfl⟩
  obtain ⟨locs, hL⟩ : ∃ z : List Loc, z = [] := ⟨_, rfl⟩
  rw [← hL] at hS ⊢
  have hS : va_S (AD ad 0 45) s.heap H locs := by rw [hH]; exact hS
  rw [← hH] at hP ⊢
  clear hH hL
  refine lv_iload_n hx hb dX2_fits_0 rfl (lv_at hl 1 rfl) ?_
  have hPc : va_P (gD g) vwCl [] H := fun k q h => by simp at h
  refine ro_int (va_runS (As := [.int p0]) (rest := []) ⟨hx, hb, hml, hown, hts⟩ (h_X2_isPart g p0) (va_cwS 1 hts gX2_fits_X2_isPart rfl rfl rfl (by decide +kernel) ⟨Nat.le_of_ble_eq_true rfl, Nat.le_of_ble_eq_true rfl⟩) ⟨RO_blind, fun U hU hW => ⟨rfl, by rw [hU]; exact hPc, va_K.moved hW.alike hK, hE.call hW hU hS (fun _ h => h.elim)⟩⟩ rfl rfl hl.1 rfl (lv_room (Nat.le_of_ble_eq_true rfl)) dX2_fits_1 ⟨Nat.le_of_ble_eq_true rfl, Nat.le_of_ble_eq_true rfl⟩) hS hP (fun r H locs hw hP hS => ?_)
  subst r
  refine lv_if_eq (tgt := 21) hx hb dX2_fits_4 (by decide) (fun c4 => ?_) (fun c4 => ?_)
  · have hv := hv.1 c4
    refine lv_aload_n hx hb dX2_fits_21 rfl (lv_at hl 0 rfl) ?_
    refine lv_bipush (v := (-2)) hx hb dX2_fits_22 (by decide) ?_
    have h8 := hv.1
    have hv := hv.2
    have hPc := hP
    have hDc := hD
    refine rw_int (va_runV (As := [.int (-2)]) (rest := []) ⟨hx, hb, hml, hown, hts⟩ (h_X2_refused g ad σ (-2) h8) (cwV 1 hts gX2_fits_X2_refused rfl rfl rfl (by decide +kernel) ⟨Nat.le_of_ble_eq_true rfl, Nat.le_of_ble_eq_true rfl⟩) ⟨RW_blind, va_recv hK hP (ci := 2) (q0 := 0) rfl rfl, fun U hU hW => ⟨rfl, by rw [hU]; exact hPc, va_K.moved hW.alike hK, hE.call hW hU hS (fun _ h => h), hDc⟩⟩ rfl rfl hl.1 rfl (lv_room (Nat.le_of_ble_eq_true rfl)) dX2_fits_24 ⟨Nat.le_of_ble_eq_true rfl, Nat.le_of_ble_eq_true rfl⟩) hS (fun _ h => h) (fun r u H1 locs hw hP1 hk hS => ?_)
    obtain ⟨hw1, hw⟩ := hw; subst r; subst u
    have hP := hP1
    generalize H1 = H at hP hS ⊢
    have hP : va_P (gD g) vwCl (wX g ad ((xNow σ), (xTaken σ), (xTrial σ), (xScr σ), (xRow σ), (refuX (xRefus σ) ((-2) : Int32)), (xKept σ), (xRowLen σ), (xIsTaken σ))) H := hP
    have hD : va_D (AD ad 0 45) (wX g ad ((xNow σ), (xTaken σ), (xTrial σ), (xScr σ), (xRow σ), (refuX (xRefus σ) ((-2) : Int32)), (xKept σ), (xRowLen σ), (xIsTaken σ))) := hD.addr (by rfl)
    exact W.iret (v := (((-2) : Int32))) hx hb hr (fun t ht hW => ⟨⟨(((-2) : Int32)), ((xNow σ), (xTaken σ), (xTrial σ), (xScr σ), (xRow σ), (refuX (xRefus σ) ((-2) : Int32)), (xKept σ), (xRowLen σ), (xIsTaken σ)), rfl, hv, P_at ht hP⟩, hS.F ht⟩) hS.2.2 dX2_fits_27
  · have hv := hv.2 c4
    refine lv_aload_n hx hb dX2_fits_7 rfl (lv_at hl 0 rfl) ?_
    refine va_get (D := gD g) (ci := 2) (v := .ref (ad 4)) (C := RX2) (T := TX2) (N := 9) hx hb hts hi2 hown hK hP 0 rfl rfl 0 (by decide) k0 (fun _ h9 => h9) rfl dX2_fits_8 ?_
    have h8 := hv.1
    have hv := hv.2
    have hPc : va_P (gD g) vwCl (wC g ad 4 (xNow σ)) H := hP.sub [4, 5, 6, 7, 8, 9, 10, 11, 12, 13, 14, 15, 16] rfl
    refine ro_long (va_runV (As := []) (rest := []) ⟨hx, hb, hml, hown, hts⟩ (h_X0_fitting g ad 4 (xNow σ) h8) (cwV 0 hts gX2_fits_X0_fitting rfl rfl rfl (by decide +kernel) ⟨Nat.le_of_ble_eq_true rfl, Nat.le_of_ble_eq_true rfl⟩) ⟨RO_blind, va_recv hK hP (ci := 0) (q0 := 4) rfl rfl, fun U hU hW => ⟨rfl, by rw [hU]; exact hPc, va_K.moved hW.alike hK, hE.call hW hU hS (fun _ h => h.elim)⟩⟩ rfl rfl hl.1 rfl (lv_room (Nat.le_of_ble_eq_true rfl)) dX2_fits_11 ⟨Nat.le_of_ble_eq_true rfl, Nat.le_of_ble_eq_true rfl⟩) hS hP (fun r H locs hw hP hS => ?_)
    subst r
    refine lv_iload_n hx hb dX2_fits_14 rfl (lv_at hl 1 rfl) ?_
    have hPc : va_P (gD g) vwCl [] H := fun k q h => by simp at h
    refine ro_int (va_runS (As := [.long (fittingL (xNow σ)), .int p0]) (rest := []) ⟨hx, hb, hml, hown, hts⟩ (h_X2_sizeOrLeast g (fittingL (xNow σ)) p0) (va_cwS 2 hts gX2_fits_X2_sizeOrLeast rfl rfl rfl (by decide +kernel) ⟨Nat.le_of_ble_eq_true rfl, Nat.le_of_ble_eq_true rfl⟩) ⟨RO_blind, fun U hU hW => ⟨rfl, by rw [hU]; exact hPc, va_K.moved hW.alike hK, hE.call hW hU hS (fun _ h => h.elim)⟩⟩ rfl rfl hl.1 rfl (lv_room (Nat.le_of_ble_eq_true rfl)) dX2_fits_15 ⟨Nat.le_of_ble_eq_true rfl, Nat.le_of_ble_eq_true rfl⟩) hS hP (fun r H locs hw hP hS => ?_)
    subst r
    refine lv_goto (tgt := 27) hx hb dX2_fits_18 (by decide) ?_
    exact W.iret (v := (sizeOrLeastI (fittingL (xNow σ)) p0)) hx hb hr (fun t ht hW => ⟨⟨(sizeOrLeastI (fittingL (xNow σ)) p0), σ, rfl, hv, P_at ht hP⟩, hS.F ht⟩) hS.2.2 dX2_fits_27

set_option maxHeartbeats 4000000 in
set_option maxRecDepth 100000 in
theorem m_X2_jury (l : Launch) (h_X0_juryFitting : C_X0_juryFitting l) (h_X2_isPart : C_X2_isPart l) (h_X2_refused : C_X2_refused l) (h_X2_sizeOrLeast : C_X2_sizeOrLeast l) (g : CX) (ad : Nat → Nat) (σ : KX) (p0 : Int32) (Post : Int32 → KX → Prop) (hv : vc_X2_jury σ p0 Post) : Met l yX2_jury wsX2_jury { frames := 4, cells := 0, slots := 0, locals := 96 } (va_Pc [.ref (ad 0), .int p0] (RW g (AD ad 0 45) (wX g ad σ))) (va_Qi (fun (r : Int32) (u : KX) => Post r u) (fun u t => va_P (gD g) vwCl (wX g ad u) t.heap) (AD ad 0 45)) 0 0 (AD ad 0 45) := by
  unfold vc_X2_jury at hv
  refine Met.ofW (cc := cX2_jury) (maxL := 2) (ret := (some .int)) (by decide) rfl ?_
  intro p e s m args below meth c s₁ B hml hv0
  obtain ⟨rfl, hP, hK, hE, hD⟩ := hv0
  have hx := B.exec
  have hb := B.bytes
  have hr := B.returns
  have hts := atoms_spec (ws := wsX2_jury) B.pre
  have hown : s.vm.findClass RX2 = some m.cls := findClass_of_methodNamed B.named
  have hlocks := B.notSynchronized
  have hi2 : ∀ w ∈ wsX20, w ∈ wsX2_jury := by decide +kernel
  have k0 := hts (.fieldLink RX2 10 "JuryHearsAnswers" "now" "LJuryHearsAnswers$Court;") (by decide +kernel)
  have hS : va_S (AD ad 0 45) s.heap s.heap [] := va_S.rf
  have hP : va_P (gD g) vwCl (wX g ad σ) s.heap := hP
  have hl := lv_entry ([.ref (ad 0), .int p0]) (n := 2) (Nat.le_of_ble_eq_true rfl)
  rw [lg_entry_eq]
  generalize (lg_sl ([.ref (ad 0), .int p0]) ++ List.replicate (2 - (lg_sl ([.ref (ad 0), .int p0])).length) Slot.unset).toArray = ls at hl ⊢
  have hl : lv_has ls 2 [(0, .ref (ad 0)), (1, .int p0)] := hl
  obtain ⟨H, hH⟩ : ∃ z, z = s.heap := ⟨_, rfl⟩
  obtain ⟨locs, hL⟩ : ∃ z : List Loc, z = [] := ⟨_, rfl⟩
  rw [← hL] at hS ⊢
  have hS : va_S (AD ad 0 45) s.heap H locs := by rw [hH]; exact hS
  rw [← hH] at hP ⊢
  clear hH hL
  refine lv_iload_n hx hb dX2_jury_0 rfl (lv_at hl 1 rfl) ?_
  have hPc : va_P (gD g) vwCl [] H := fun k q h => by simp at h
  refine ro_int (va_runS (As := [.int p0]) (rest := []) ⟨hx, hb, hml, hown, hts⟩ (h_X2_isPart g p0) (va_cwS 1 hts gX2_jury_X2_isPart rfl rfl rfl (by decide +kernel) ⟨Nat.le_of_ble_eq_true rfl, Nat.le_of_ble_eq_true rfl⟩) ⟨RO_blind, fun U hU hW => ⟨rfl, by rw [hU]; exact hPc, va_K.moved hW.alike hK, hE.call hW hU hS (fun _ h => h.elim)⟩⟩ rfl rfl hl.1 rfl (lv_room (Nat.le_of_ble_eq_true rfl)) dX2_jury_1 ⟨Nat.le_of_ble_eq_true rfl, Nat.le_of_ble_eq_true rfl⟩) hS hP (fun r H locs hw hP hS => ?_)
  subst r
  refine lv_if_eq (tgt := 21) hx hb dX2_jury_4 (by decide) (fun c4 => ?_) (fun c4 => ?_)
  · have hv := hv.1 c4
    refine lv_aload_n hx hb dX2_jury_21 rfl (lv_at hl 0 rfl) ?_
    refine lv_bipush (v := (-2)) hx hb dX2_jury_22 (by decide) ?_
    have h8 := hv.1
    have hv := hv.2
    have hPc := hP
    have hDc := hD
    refine rw_int (va_runV (As := [.int (-2)]) (rest := []) ⟨hx, hb, hml, hown, hts⟩ (h_X2_refused g ad σ (-2) h8) (cwV 1 hts gX2_jury_X2_refused rfl rfl rfl (by decide +kernel) ⟨Nat.le_of_ble_eq_true rfl, Nat.le_of_ble_eq_true rfl⟩) ⟨RW_blind, va_recv hK hP (ci := 2) (q0 := 0) rfl rfl, fun U hU hW => ⟨rfl, by rw [hU]; exact hPc, va_K.moved hW.alike hK, hE.call hW hU hS (fun _ h => h), hDc⟩⟩ rfl rfl hl.1 rfl (lv_room (Nat.le_of_ble_eq_true rfl)) dX2_jury_24 ⟨Nat.le_of_ble_eq_true rfl, Nat.le_of_ble_eq_true rfl⟩) hS (fun _ h => h) (fun r u H1 locs hw hP1 hk hS => ?_)
    obtain ⟨hw1, hw⟩ := hw; subst r; subst u
    have hP := hP1
    generalize H1 = H at hP hS ⊢
    have hP : va_P (gD g) vwCl (wX g ad ((xNow σ), (xTaken σ), (xTrial σ), (xScr σ), (xRow σ), (refuX (xRefus σ) ((-2) : Int32)), (xKept σ), (xRowLen σ), (xIsTaken σ))) H := hP
    have hD : va_D (AD ad 0 45) (wX g ad ((xNow σ), (xTaken σ), (xTrial σ), (xScr σ), (xRow σ), (refuX (xRefus σ) ((-2) : Int32)), (xKept σ), (xRowLen σ), (xIsTaken σ))) := hD.addr (by rfl)
    exact W.iret (v := (((-2) : Int32))) hx hb hr (fun t ht hW => ⟨⟨(((-2) : Int32)), ((xNow σ), (xTaken σ), (xTrial σ), (xScr σ), (xRow σ), (refuX (xRefus σ) ((-2) : Int32)), (xKept σ), (xRowLen σ), (xIsTaken σ)), rfl, hv, P_at ht hP⟩, hS.F ht⟩) hS.2.2 dX2_jury_27
  · have hv := hv.2 c4
    refine lv_aload_n hx hb dX2_jury_7 rfl (lv_at hl 0 rfl) ?_
    refine va_get (D := gD g) (ci := 2) (v := .ref (ad 4)) (C := RX2) (T := TX2) (N := 9) hx hb hts hi2 hown hK hP 0 rfl rfl 0 (by decide) k0 (fun _ h9 => h9) rfl dX2_jury_8 ?_
    have h8 := hv.1
    have hv := hv.2
    have hPc : va_P (gD g) vwCl (wC g ad 4 (xNow σ)) H := hP.sub [4, 5, 6, 7, 8, 9, 10, 11, 12, 13, 14, 15, 16] rfl
    refine ro_long (va_runV (As := []) (rest := []) ⟨hx, hb, hml, hown, hts⟩ (h_X0_juryFitting g ad 4 (xNow σ) h8) (cwV 0 hts gX2_jury_X0_juryFitting rfl rfl rfl (by decide +kernel) ⟨Nat.le_of_ble_eq_true rfl, Nat.le_of_ble_eq_true rfl⟩) ⟨RO_blind, va_recv hK hP (ci := 0) (q0 := 4) rfl rfl, fun U hU hW => ⟨rfl, by rw [hU]; exact hPc, va_K.moved hW.alike hK, hE.call hW hU hS (fun _ h => h.elim)⟩⟩ rfl rfl hl.1 rfl (lv_room (Nat.le_of_ble_eq_true rfl)) dX2_jury_11 ⟨Nat.le_of_ble_eq_true rfl, Nat.le_of_ble_eq_true rfl⟩) hS hP (fun r H locs hw hP hS => ?_)
    subst r
    refine lv_iload_n hx hb dX2_jury_14 rfl (lv_at hl 1 rfl) ?_
    have hPc : va_P (gD g) vwCl [] H := fun k q h => by simp at h
    refine ro_int (va_runS (As := [.long (juryFittingL (xNow σ)), .int p0]) (rest := []) ⟨hx, hb, hml, hown, hts⟩ (h_X2_sizeOrLeast g (juryFittingL (xNow σ)) p0) (va_cwS 2 hts gX2_jury_X2_sizeOrLeast rfl rfl rfl (by decide +kernel) ⟨Nat.le_of_ble_eq_true rfl, Nat.le_of_ble_eq_true rfl⟩) ⟨RO_blind, fun U hU hW => ⟨rfl, by rw [hU]; exact hPc, va_K.moved hW.alike hK, hE.call hW hU hS (fun _ h => h.elim)⟩⟩ rfl rfl hl.1 rfl (lv_room (Nat.le_of_ble_eq_true rfl)) dX2_jury_15 ⟨Nat.le_of_ble_eq_true rfl, Nat.le_of_ble_eq_true rfl⟩) hS hP (fun r H locs hw hP hS => ?_)
    subst r
    refine lv_goto (tgt := 27) hx hb dX2_jury_18 (by decide) ?_
    exact W.iret (v := (sizeOrLeastI (juryFittingL (xNow σ)) p0)) hx hb hr (fun t ht hW => ⟨⟨(sizeOrLeastI (juryFittingL (xNow σ)) p0), σ, rfl, hv, P_at ht hP⟩, hS.F ht⟩) hS.2.2 dX2_jury_27

set_option maxHeartbeats 4000000 in
set_option maxRecDepth 100000 in
theorem m_X2_sure (l : Launch) (h_X0_fitting : C_X0_fitting l) (h_X0_juryFitting : C_X0_juryFitting l) (h_X2_factCases : C_X2_factCases l) (h_X2_isPart : C_X2_isPart l) (h_X2_isSure : C_X2_isSure l) (h_X2_refused : C_X2_refused l) (g : CX) (ad : Nat → Nat) (σ : KX) (p0 : Int32) (Post : Int32 → KX → Prop) (hv : vc_X2_sure σ p0 Post) : Met l yX2_sure wsX2_sure { frames := 5, cells := 0, slots := 0, locals := 114 } (va_Pc [.ref (ad 0), .int p0] (RW g (AD ad 0 45) (wX g ad σ))) (va_Qi (fun (r : Int32) (u : KX) => Post r u) (fun u t => va_P (gD g) vwCl (wX g ad u) t.heap) (AD ad 0 45)) 0 0 (AD ad 0 45) := by
  unfold vc_X2_sure at hv
  refine Met.ofW (cc := cX2_sure) (maxL := 6) (ret := (some .int)) (by decide) rfl ?_
  intro p e s m args below meth c s₁ B hml hv0
  obtain ⟨rfl, hP, hK, hE, hD⟩ := hv0
  have hx := B.exec
  have hb := B.bytes
  have hr := B.returns
  have hts := atoms_spec (ws := wsX2_sure) B.pre
  have hown : s.vm.findClass RX2 = some m.cls := findClass_of_methodNamed B.named
  have hlocks := B.notSynchronized
  have hi2 : ∀ w ∈ wsX20, w ∈ wsX2_sure := by decide +kernel
  have k0 := hts (.fieldLink RX2 10 "JuryHearsAnswers" "now" "LJuryHearsAnswers$Court;") (by decide +kernel)
  have hS : va_S (AD ad 0 45) s.heap s.heap [] := va_S.rf
  have hP : va_P (gD g) vwCl (wX g ad σ) s.heap := hP
  have hl := lv_entry ([.ref (ad 0), .int p0]) (n := 6) (Nat.le_of_ble_eq_true rfl)
  rw [lg_entry_eq]
  generalize (lg_sl ([.ref (ad 0), .int p0]) ++ List.replicate (6 - (lg_sl ([.ref (ad 0), .int p0])).length) Slot.unset).toArray = ls at hl ⊢
  have hl : lv_has ls 6 [(0, .ref (ad 0)), (1, .int p0)] := hl
  have hv := hv (fun (x2 : Int64) (x4 : Int32) (x5 : Int32) (s_refus : FI) => ∀ (H : Heap) (locs : List Loc) (ls : Array Slot), va_P (gD g) vwCl (wX g ad ((xNow σ), (xTaken σ), (xTrial σ), (xScr σ), (xRow σ), s_refus, (xKept σ), (xRowLen σ), (xIsTaken σ))) H → va_D (AD ad 0 45) (wX g ad ((xNow σ), (xTaken σ), (xTrial σ), (xScr σ), (xRow σ), s_refus, (xKept σ), (xRowLen σ), (xIsTaken σ))) → va_S (AD ad 0 45) s.heap H locs → lv_has ls 6 [(2, .long x2), (4, .int x4), (5, .int x5)] → W p l e { frames := 5, cells := 0, slots := 0, locals := 114 } s m ([.ref (ad 0), .int p0] : List Value).toArray below meth c H locs 0 0 (MQ below (va_Qi (fun (r : Int32) (u : KX) => Post r u) (fun u t => va_P (gD g) vwCl (wX g ad u) t.heap) (AD ad 0 45)) ([.ref (ad 0), .int p0] : List Value).toArray s 0 0 (AD ad 0 45)) (F0 m 42 ls []))
  have hv := hv (by
    intro x2 x4 x5 s_refus hv H locs ls hP hD hS hl
    refine lv_iload hx hb dX2_sure_42 (lv_at hl 2 rfl) ?_
    refine lv_bipush (v := 6) hx hb dX2_sure_44 (by decide) ?_
    refine lv_icmp_ge (tgt := 76) hx hb dX2_sure_46 (by decide) (fun c46 => ?_) (fun c46 => ?_)
    · have hv := hv.1 c46
      refine lv_iload hx hb dX2_sure_76 (lv_at hl 1 rfl) ?_
      exact W.iret (v := x4) hx hb hr (fun t ht hW => ⟨⟨x4, ((xNow σ), (xTaken σ), (xTrial σ), (xScr σ), (xRow σ), s_refus, (xKept σ), (xRowLen σ), (xIsTaken σ)), rfl, hv, P_at ht hP⟩, hS.F ht⟩) hS.2.2 dX2_sure_78
    · have hv := hv.2 c46
      refine lv_lload_n hx hb dX2_sure_49 rfl (lv_at hl 0 rfl) ?_
      refine lv_iload hx hb dX2_sure_50 (lv_at hl 2 rfl) ?_
      have hPc : va_P (gD g) vwCl [] H := fun k q h => by simp at h
      refine ro_long (va_runS (As := [.int x5]) (rest := [.long x2]) ⟨hx, hb, hml, hown, hts⟩ (h_X2_factCases g x5) (va_cwS 1 hts gX2_sure_X2_factCases rfl rfl rfl (by decide +kernel) ⟨Nat.le_of_ble_eq_true rfl, Nat.le_of_ble_eq_true rfl⟩) ⟨RO_blind, fun U hU hW => ⟨rfl, by rw [hU]; exact hPc, va_K.moved hW.alike hK, hE.call hW hU hS (fun _ h => h.elim)⟩⟩ rfl rfl hl.1 rfl (lv_room (Nat.le_of_ble_eq_true rfl)) dX2_sure_52 ⟨Nat.le_of_ble_eq_true rfl, Nat.le_of_ble_eq_true rfl⟩) hS hP (fun r H locs hw hP hS => ?_)
      subst r
      have hPc : va_P (gD g) vwCl [] H := fun k q h => by simp at h
      refine ro_int (va_runS (As := [.long x2, .long (factCasesL x5)]) (rest := []) ⟨hx, hb, hml, hown, hts⟩ (h_X2_isSure g x2 (factCasesL x5)) (va_cwS 2 hts gX2_sure_X2_isSure rfl rfl rfl (by decide +kernel) ⟨Nat.le_of_ble_eq_true rfl, Nat.le_of_ble_eq_true rfl⟩) ⟨RO_blind, fun U hU hW => ⟨rfl, by rw [hU]; exact hPc, va_K.moved hW.alike hK, hE.call hW hU hS (fun _ h => h.elim)⟩⟩ rfl rfl hl.1 rfl (lv_room (Nat.le_of_ble_eq_true rfl)) dX2_sure_55 ⟨Nat.le_of_ble_eq_true rfl, Nat.le_of_ble_eq_true rfl⟩) hS hP (fun r H locs hw hP hS => ?_)
      subst r
      refine lv_if_eq (tgt := 70) hx hb dX2_sure_58 (by decide) (fun c58 => ?_) (fun c58 => ?_)
      · have hv := hv.1 c58
        refine lv_iinc (v := (x5 + 1)) (lv' := [(5, .int (x5 + 1)), (2, .long x2), (4, .int x4)]) hx hb dX2_sure_70 hl (k := 2) rfl (by first | rfl | exact congrArg _ (by decide)) (by decide) rfl (fun ls hl => ?_)
        refine lv_goto (tgt := 42) hx hb dX2_sure_73 (by decide) ?_
        exact hv H locs ls hP hD hS (lv_sub hl [1, 2, 0] rfl)
      · have hv := hv.2 c58
        refine lv_iload hx hb dX2_sure_61 (lv_at hl 1 rfl) ?_
        refine lv_iconst (v := 1) hx hb dX2_sure_63 (by decide) ?_
        refine lv_iload hx hb dX2_sure_64 (lv_at hl 2 rfl) ?_
        refine lv_ishl hx hb dX2_sure_66 ?_
        refine lv_ior hx hb dX2_sure_67 ?_
        refine lv_istore (lv' := [(4, .int (x4 ||| (1 <<< (x5 &&& 31)))), (2, .long x2), (5, .int x5)]) hx hb dX2_sure_68 hl (by decide) rfl (fun ls hl => ?_)
        refine lv_iinc (v := (x5 + 1)) (lv' := [(5, .int (x5 + 1)), (4, .int (x4 ||| (1 <<< (x5 &&& 31)))), (2, .long x2)]) hx hb dX2_sure_70 hl (k := 2) rfl (by first | rfl | exact congrArg _ (by decide)) (by decide) rfl (fun ls hl => ?_)
        refine lv_goto (tgt := 42) hx hb dX2_sure_73 (by decide) ?_
        exact hv H locs ls hP hD hS (lv_sub hl [2, 1, 0] rfl))
  obtain ⟨H, hH⟩ : ∃ z, z = s.heap := ⟨_, rfl⟩
  obtain ⟨locs, hL⟩ : ∃ z : List Loc, z = [] := ⟨_, rfl⟩
  rw [← hL] at hS ⊢
  have hS : va_S (AD ad 0 45) s.heap H locs := by rw [hH]; exact hS
  rw [← hH] at hP ⊢
  clear hH hL
  refine lv_iload_n hx hb dX2_sure_0 rfl (lv_at hl 1 rfl) ?_
  have hPc : va_P (gD g) vwCl [] H := fun k q h => by simp at h
  refine ro_int (va_runS (As := [.int p0]) (rest := []) ⟨hx, hb, hml, hown, hts⟩ (h_X2_isPart g p0) (va_cwS 1 hts gX2_sure_X2_isPart rfl rfl rfl (by decide +kernel) ⟨Nat.le_of_ble_eq_true rfl, Nat.le_of_ble_eq_true rfl⟩) ⟨RO_blind, fun U hU hW => ⟨rfl, by rw [hU]; exact hPc, va_K.moved hW.alike hK, hE.call hW hU hS (fun _ h => h.elim)⟩⟩ rfl rfl hl.1 rfl (lv_room (Nat.le_of_ble_eq_true rfl)) dX2_sure_1 ⟨Nat.le_of_ble_eq_true rfl, Nat.le_of_ble_eq_true rfl⟩) hS hP (fun r H locs hw hP hS => ?_)
  subst r
  refine lv_if_ne (tgt := 14) hx hb dX2_sure_4 (by decide) (fun c4 => ?_) (fun c4 => ?_)
  · have hv := hv.1 c4
    refine lv_iload_n hx hb dX2_sure_14 rfl (lv_at hl 1 rfl) ?_
    refine lv_if_ne (tgt := 28) hx hb dX2_sure_15 (by decide) (fun c15 => ?_) (fun c15 => ?_)
    · have hv := hv.1 c15
      refine lv_aload_n hx hb dX2_sure_28 rfl (lv_at hl 0 rfl) ?_
      refine va_get (D := gD g) (ci := 2) (v := .ref (ad 4)) (C := RX2) (T := TX2) (N := 9) hx hb hts hi2 hown hK hP 0 rfl rfl 0 (by decide) k0 (fun _ h9 => h9) rfl dX2_sure_29 ?_
      have h8 := hv.1
      have hv := hv.2
      have hPc : va_P (gD g) vwCl (wC g ad 4 (xNow σ)) H := hP.sub [4, 5, 6, 7, 8, 9, 10, 11, 12, 13, 14, 15, 16] rfl
      refine ro_long (va_runV (As := []) (rest := []) ⟨hx, hb, hml, hown, hts⟩ (h_X0_juryFitting g ad 4 (xNow σ) h8) (cwV 0 hts gX2_sure_X0_juryFitting rfl rfl rfl (by decide +kernel) ⟨Nat.le_of_ble_eq_true rfl, Nat.le_of_ble_eq_true rfl⟩) ⟨RO_blind, va_recv hK hP (ci := 0) (q0 := 4) rfl rfl, fun U hU hW => ⟨rfl, by rw [hU]; exact hPc, va_K.moved hW.alike hK, hE.call hW hU hS (fun _ h => h.elim)⟩⟩ rfl rfl hl.1 rfl (lv_room (Nat.le_of_ble_eq_true rfl)) dX2_sure_32 ⟨Nat.le_of_ble_eq_true rfl, Nat.le_of_ble_eq_true rfl⟩) hS hP (fun r H locs hw hP hS => ?_)
      subst r
      refine lv_lstore_n (lv' := [(2, .long (juryFittingL (xNow σ))), (0, .ref (ad 0)), (1, .int p0)]) hx hb dX2_sure_35 rfl hl (by decide) rfl (fun ls hl => ?_)
      refine lv_iconst (v := 0) hx hb dX2_sure_36 (by decide) ?_
      refine lv_istore (lv' := [(4, .int 0), (2, .long (juryFittingL (xNow σ))), (0, .ref (ad 0)), (1, .int p0)]) hx hb dX2_sure_37 hl (by decide) rfl (fun ls hl => ?_)
      refine lv_iconst (v := 0) hx hb dX2_sure_39 (by decide) ?_
      refine lv_istore (lv' := [(5, .int 0), (4, .int 0), (2, .long (juryFittingL (xNow σ))), (0, .ref (ad 0)), (1, .int p0)]) hx hb dX2_sure_40 hl (by decide) rfl (fun ls hl => ?_)
      exact hv H locs ls hP hD hS (lv_sub hl [2, 1, 0] rfl)
    · have hv := hv.2 c15
      refine lv_aload_n hx hb dX2_sure_18 rfl (lv_at hl 0 rfl) ?_
      refine va_get (D := gD g) (ci := 2) (v := .ref (ad 4)) (C := RX2) (T := TX2) (N := 9) hx hb hts hi2 hown hK hP 0 rfl rfl 0 (by decide) k0 (fun _ h9 => h9) rfl dX2_sure_19 ?_
      have h8 := hv.1
      have hv := hv.2
      have hPc : va_P (gD g) vwCl (wC g ad 4 (xNow σ)) H := hP.sub [4, 5, 6, 7, 8, 9, 10, 11, 12, 13, 14, 15, 16] rfl
      refine ro_long (va_runV (As := []) (rest := []) ⟨hx, hb, hml, hown, hts⟩ (h_X0_fitting g ad 4 (xNow σ) h8) (cwV 0 hts gX2_sure_X0_fitting rfl rfl rfl (by decide +kernel) ⟨Nat.le_of_ble_eq_true rfl, Nat.le_of_ble_eq_true rfl⟩) ⟨RO_blind, va_recv hK hP (ci := 0) (q0 := 4) rfl rfl, fun U hU hW => ⟨rfl, by rw [hU]; exact hPc, va_K.moved hW.alike hK, hE.call hW hU hS (fun _ h => h.elim)⟩⟩ rfl rfl hl.1 rfl (lv_room (Nat.le_of_ble_eq_true rfl)) dX2_sure_22 ⟨Nat.le_of_ble_eq_true rfl, Nat.le_of_ble_eq_true rfl⟩) hS hP (fun r H locs hw hP hS => ?_)
      subst r
      refine lv_goto (tgt := 35) hx hb dX2_sure_25 (by decide) ?_
      refine lv_lstore_n (lv' := [(2, .long (fittingL (xNow σ))), (0, .ref (ad 0)), (1, .int p0)]) hx hb dX2_sure_35 rfl hl (by decide) rfl (fun ls hl => ?_)
      refine lv_iconst (v := 0) hx hb dX2_sure_36 (by decide) ?_
      refine lv_istore (lv' := [(4, .int 0), (2, .long (fittingL (xNow σ))), (0, .ref (ad 0)), (1, .int p0)]) hx hb dX2_sure_37 hl (by decide) rfl (fun ls hl => ?_)
      refine lv_iconst (v := 0) hx hb dX2_sure_39 (by decide) ?_
      refine lv_istore (lv' := [(5, .int 0), (4, .int 0), (2, .long (fittingL (xNow σ))), (0, .ref (ad 0)), (1, .int p0)]) hx hb dX2_sure_40 hl (by decide) rfl (fun ls hl => ?_)
      exact hv H locs ls hP hD hS (lv_sub hl [2, 1, 0] rfl)
  · have hv := hv.2 c4
    refine lv_aload_n hx hb dX2_sure_7 rfl (lv_at hl 0 rfl) ?_
    refine lv_bipush (v := (-2)) hx hb dX2_sure_8 (by decide) ?_
    have h8 := hv.1
    have hv := hv.2
    have hPc := hP
    have hDc := hD
    refine rw_int (va_runV (As := [.int (-2)]) (rest := []) ⟨hx, hb, hml, hown, hts⟩ (h_X2_refused g ad σ (-2) h8) (cwV 1 hts gX2_sure_X2_refused rfl rfl rfl (by decide +kernel) ⟨Nat.le_of_ble_eq_true rfl, Nat.le_of_ble_eq_true rfl⟩) ⟨RW_blind, va_recv hK hP (ci := 2) (q0 := 0) rfl rfl, fun U hU hW => ⟨rfl, by rw [hU]; exact hPc, va_K.moved hW.alike hK, hE.call hW hU hS (fun _ h => h), hDc⟩⟩ rfl rfl hl.1 rfl (lv_room (Nat.le_of_ble_eq_true rfl)) dX2_sure_10 ⟨Nat.le_of_ble_eq_true rfl, Nat.le_of_ble_eq_true rfl⟩) hS (fun _ h => h) (fun r u H1 locs hw hP1 hk hS => ?_)
    obtain ⟨hw1, hw⟩ := hw; subst r; subst u
    have hP := hP1
    generalize H1 = H at hP hS ⊢
    have hP : va_P (gD g) vwCl (wX g ad ((xNow σ), (xTaken σ), (xTrial σ), (xScr σ), (xRow σ), (refuX (xRefus σ) ((-2) : Int32)), (xKept σ), (xRowLen σ), (xIsTaken σ))) H := hP
    have hD : va_D (AD ad 0 45) (wX g ad ((xNow σ), (xTaken σ), (xTrial σ), (xScr σ), (xRow σ), (refuX (xRefus σ) ((-2) : Int32)), (xKept σ), (xRowLen σ), (xIsTaken σ))) := hD.addr (by rfl)
    exact W.iret (v := (((-2) : Int32))) hx hb hr (fun t ht hW => ⟨⟨(((-2) : Int32)), ((xNow σ), (xTaken σ), (xTrial σ), (xScr σ), (xRow σ), (refuX (xRefus σ) ((-2) : Int32)), (xKept σ), (xRowLen σ), (xIsTaken σ)), rfl, hv, P_at ht hP⟩, hS.F ht⟩) hS.2.2 dX2_sure_13

set_option maxHeartbeats 4000000 in
set_option maxRecDepth 100000 in
theorem m_X2_next (l : Launch) (h_X2_bestAsking : C_X2_bestAsking l) (h_X2_isPart : C_X2_isPart l) (h_X2_refused : C_X2_refused l) (g : CX) (ad : Nat → Nat) (σ : KX) (p0 : Int32) (Post : Int32 → KX → Prop) (hv : vc_X2_next σ p0 Post) : Met l yX2_next wsX2_next { frames := 6, cells := 0, slots := 0, locals := 142 } (va_Pc [.ref (ad 0), .int p0] (RW g (AD ad 0 45) (wX g ad σ))) (va_Qi (fun (r : Int32) (u : KX) => Post r u) (fun u t => va_P (gD g) vwCl (wX g ad u) t.heap) (AD ad 0 45)) 0 0 (AD ad 0 45) := by
  unfold vc_X2_next at hv
  refine Met.ofW (cc := cX2_next) (maxL := 2) (ret := (some .int)) (by decide) rfl ?_
  intro p e s m args below meth c s₁ B hml hv0
  obtain ⟨rfl, hP, hK, hE, hD⟩ := hv0
  have hx := B.exec
  have hb := B.bytes
  have hr := B.returns
  have hts := atoms_spec (ws := wsX2_next) B.pre
  have hown : s.vm.findClass RX2 = some m.cls := findClass_of_methodNamed B.named
  have hlocks := B.notSynchronized
  have hS : va_S (AD ad 0 45) s.heap s.heap [] := va_S.rf
  have hP : va_P (gD g) vwCl (wX g ad σ) s.heap := hP
  have hl := lv_entry ([.ref (ad 0), .int p0]) (n := 2) (Nat.le_of_ble_eq_true rfl)
  rw [lg_entry_eq]
  generalize (lg_sl ([.ref (ad 0), .int p0]) ++ List.replicate (2 - (lg_sl ([.ref (ad 0), .int p0])).length) Slot.unset).toArray = ls at hl ⊢
  have hl : lv_has ls 2 [(0, .ref (ad 0)), (1, .int p0)] := hl
  obtain ⟨H, hH⟩ : ∃ z, z = s.heap := ⟨_, rfl⟩
  obtain ⟨locs, hL⟩ : ∃ z : List Loc, z = [] := ⟨_, rfl⟩
  rw [← hL] at hS ⊢
  have hS : va_S (AD ad 0 45) s.heap H locs := by rw [hH]; exact hS
  rw [← hH] at hP ⊢
  clear hH hL
  refine lv_iload_n hx hb dX2_next_0 rfl (lv_at hl 1 rfl) ?_
  have hPc : va_P (gD g) vwCl [] H := fun k q h => by simp at h
  refine ro_int (va_runS (As := [.int p0]) (rest := []) ⟨hx, hb, hml, hown, hts⟩ (h_X2_isPart g p0) (va_cwS 1 hts gX2_next_X2_isPart rfl rfl rfl (by decide +kernel) ⟨Nat.le_of_ble_eq_true rfl, Nat.le_of_ble_eq_true rfl⟩) ⟨RO_blind, fun U hU hW => ⟨rfl, by rw [hU]; exact hPc, va_K.moved hW.alike hK, hE.call hW hU hS (fun _ h => h.elim)⟩⟩ rfl rfl hl.1 rfl (lv_room (Nat.le_of_ble_eq_true rfl)) dX2_next_1 ⟨Nat.le_of_ble_eq_true rfl, Nat.le_of_ble_eq_true rfl⟩) hS hP (fun r H locs hw hP hS => ?_)
  subst r
  refine lv_if_eq (tgt := 15) hx hb dX2_next_4 (by decide) (fun c4 => ?_) (fun c4 => ?_)
  · have hv := hv.1 c4
    refine lv_aload_n hx hb dX2_next_15 rfl (lv_at hl 0 rfl) ?_
    refine lv_bipush (v := (-2)) hx hb dX2_next_16 (by decide) ?_
    have h8 := hv.1
    have hv := hv.2
    have hPc := hP
    have hDc := hD
    refine rw_int (va_runV (As := [.int (-2)]) (rest := []) ⟨hx, hb, hml, hown, hts⟩ (h_X2_refused g ad σ (-2) h8) (cwV 1 hts gX2_next_X2_refused rfl rfl rfl (by decide +kernel) ⟨Nat.le_of_ble_eq_true rfl, Nat.le_of_ble_eq_true rfl⟩) ⟨RW_blind, va_recv hK hP (ci := 2) (q0 := 0) rfl rfl, fun U hU hW => ⟨rfl, by rw [hU]; exact hPc, va_K.moved hW.alike hK, hE.call hW hU hS (fun _ h => h), hDc⟩⟩ rfl rfl hl.1 rfl (lv_room (Nat.le_of_ble_eq_true rfl)) dX2_next_18 ⟨Nat.le_of_ble_eq_true rfl, Nat.le_of_ble_eq_true rfl⟩) hS (fun _ h => h) (fun r u H1 locs hw hP1 hk hS => ?_)
    obtain ⟨hw1, hw⟩ := hw; subst r; subst u
    have hP := hP1
    generalize H1 = H at hP hS ⊢
    have hP : va_P (gD g) vwCl (wX g ad ((xNow σ), (xTaken σ), (xTrial σ), (xScr σ), (xRow σ), (refuX (xRefus σ) ((-2) : Int32)), (xKept σ), (xRowLen σ), (xIsTaken σ))) H := hP
    have hD : va_D (AD ad 0 45) (wX g ad ((xNow σ), (xTaken σ), (xTrial σ), (xScr σ), (xRow σ), (refuX (xRefus σ) ((-2) : Int32)), (xKept σ), (xRowLen σ), (xIsTaken σ))) := hD.addr (by rfl)
    exact W.iret (v := (((-2) : Int32))) hx hb hr (fun t ht hW => ⟨⟨(((-2) : Int32)), ((xNow σ), (xTaken σ), (xTrial σ), (xScr σ), (xRow σ), (refuX (xRefus σ) ((-2) : Int32)), (xKept σ), (xRowLen σ), (xIsTaken σ)), rfl, hv, P_at ht hP⟩, hS.F ht⟩) hS.2.2 dX2_next_21
  · have hv := hv.2 c4
    refine lv_aload_n hx hb dX2_next_7 rfl (lv_at hl 0 rfl) ?_
    refine lv_iload_n hx hb dX2_next_8 rfl (lv_at hl 1 rfl) ?_
    have h8 := hv.1
    have hv := hv.2
    have hPc := hP
    refine ro_int (va_runV (As := [.int p0]) (rest := []) ⟨hx, hb, hml, hown, hts⟩ (h_X2_bestAsking g ad σ p0 h8) (cwV 1 hts gX2_next_X2_bestAsking rfl rfl rfl (by decide +kernel) ⟨Nat.le_of_ble_eq_true rfl, Nat.le_of_ble_eq_true rfl⟩) ⟨RO_blind, va_recv hK hP (ci := 2) (q0 := 0) rfl rfl, fun U hU hW => ⟨rfl, by rw [hU]; exact hPc, va_K.moved hW.alike hK, hE.call hW hU hS (fun _ h => h.elim)⟩⟩ rfl rfl hl.1 rfl (lv_room (Nat.le_of_ble_eq_true rfl)) dX2_next_9 ⟨Nat.le_of_ble_eq_true rfl, Nat.le_of_ble_eq_true rfl⟩) hS hP (fun r H locs hw hP hS => ?_)
    subst r
    refine lv_goto (tgt := 21) hx hb dX2_next_12 (by decide) ?_
    exact W.iret (v := (if p0 = 0 then (bestX (xNow σ) (fittingL (xNow σ))).1 else (bestX (xNow σ) (fittingL (xNow σ))).2)) hx hb hr (fun t ht hW => ⟨⟨(if p0 = 0 then (bestX (xNow σ) (fittingL (xNow σ))).1 else (bestX (xNow σ) (fittingL (xNow σ))).2), σ, rfl, hv, P_at ht hP⟩, hS.F ht⟩) hS.2.2 dX2_next_21

set_option maxHeartbeats 4000000 in
set_option maxRecDepth 100000 in
theorem m_X2_settle (l : Launch) (h_X0_hasWitness : C_X0_hasWitness l) (h_X2_factCases : C_X2_factCases l) (h_X2_isFact : C_X2_isFact l) (h_X2_isPart : C_X2_isPart l) (h_X2_refused : C_X2_refused l) (h_X2_settling : C_X2_settling l) (g : CX) (ad : Nat → Nat) (σ : KX) (p0 : Int32) (p1 : Int32) (p2 : Int32) (Post : Int32 → KX → Prop) (hv : vc_X2_settle σ p0 p1 p2 Post) : Met l yX2_settle wsX2_settle { frames := 7, cells := 0, slots := 0, locals := 210 } (va_Pc [.ref (ad 0), .int p0, .int p1, .int p2] (RW g (AD ad 0 45) (wX g ad σ))) (va_Qi (fun (r : Int32) (u : KX) => Post r u) (fun u t => va_P (gD g) vwCl (wX g ad u) t.heap) (AD ad 0 45)) 0 0 (AD ad 0 45) := by
  unfold vc_X2_settle at hv
  refine Met.ofW (cc := cX2_settle) (maxL := 4) (ret := (some .int)) (by decide) rfl ?_
  intro p e s m args below meth c s₁ B hml hv0
  obtain ⟨rfl, hP, hK, hE, hD⟩ := hv0
  have hx := B.exec
  have hb := B.bytes
  have hr := B.returns
  have hts := atoms_spec (ws := wsX2_settle) B.pre
  have hown : s.vm.findClass RX2 = some m.cls := findClass_of_methodNamed B.named
  have hlocks := B.notSynchronized
  have hi2 : ∀ w ∈ wsX20, w ∈ wsX2_settle := by decide +kernel
  have k0 := hts (.fieldLink RX2 10 "JuryHearsAnswers" "now" "LJuryHearsAnswers$Court;") (by decide +kernel)
  have hS : va_S (AD ad 0 45) s.heap s.heap [] := va_S.rf
  have hP : va_P (gD g) vwCl (wX g ad σ) s.heap := hP
  have hl := lv_entry ([.ref (ad 0), .int p0, .int p1, .int p2]) (n := 4) (Nat.le_of_ble_eq_true rfl)
  rw [lg_entry_eq]
  generalize (lg_sl ([.ref (ad 0), .int p0, .int p1, .int p2]) ++ List.replicate (4 - (lg_sl ([.ref (ad 0), .int p0, .int p1, .int p2])).length) Slot.unset).toArray = ls at hl ⊢
  have hl : lv_has ls 4 [(0, .ref (ad 0)), (1, .int p0), (2, .int p1), (3, .int p2)] := hl
  obtain ⟨H, hH⟩ : ∃ z, z = s.heap := ⟨_, rfl⟩
  obtain ⟨locs, hL⟩ : ∃ z : List Loc, z = [] := ⟨_, rfl⟩
  rw [← hL] at hS ⊢
  have hS : va_S (AD ad 0 45) s.heap H locs := by rw [hH]; exact hS
  rw [← hH] at hP ⊢
  clear hH hL
  refine lv_aload_n hx hb dX2_settle_0 rfl (lv_at hl 0 rfl) ?_
  refine va_get (D := gD g) (ci := 2) (v := .ref (ad 4)) (C := RX2) (T := TX2) (N := 9) hx hb hts hi2 hown hK hP 0 rfl rfl 0 (by decide) k0 (fun _ h9 => h9) rfl dX2_settle_1 ?_
  refine lv_iload_n hx hb dX2_settle_4 rfl (lv_at hl 1 rfl) ?_
  have hPc : va_P (gD g) vwCl (wC g ad 4 (xNow σ)) H := hP.sub [4, 5, 6, 7, 8, 9, 10, 11, 12, 13, 14, 15, 16] rfl
  refine ro_int (va_runV (As := [.int p0]) (rest := []) ⟨hx, hb, hml, hown, hts⟩ (h_X0_hasWitness g ad 4 (xNow σ) p0) (cwV 1 hts gX2_settle_X0_hasWitness rfl rfl rfl (by decide +kernel) ⟨Nat.le_of_ble_eq_true rfl, Nat.le_of_ble_eq_true rfl⟩) ⟨RO_blind, va_recv hK hP (ci := 0) (q0 := 4) rfl rfl, fun U hU hW => ⟨rfl, by rw [hU]; exact hPc, va_K.moved hW.alike hK, hE.call hW hU hS (fun _ h => h.elim)⟩⟩ rfl rfl hl.1 rfl (lv_room (Nat.le_of_ble_eq_true rfl)) dX2_settle_5 ⟨Nat.le_of_ble_eq_true rfl, Nat.le_of_ble_eq_true rfl⟩) hS hP (fun r H locs hw hP hS => ?_)
  subst r
  refine lv_if_eq (tgt := 18) hx hb dX2_settle_8 (by decide) (fun c8 => ?_) (fun c8 => ?_)
  · have hv := hv.1 c8
    refine lv_aload_n hx hb dX2_settle_18 rfl (lv_at hl 0 rfl) ?_
    refine lv_iconst (v := (-1)) hx hb dX2_settle_19 (by decide) ?_
    have h8 := hv.1
    have hv := hv.2
    have hPc := hP
    have hDc := hD
    refine rw_int (va_runV (As := [.int (-1)]) (rest := []) ⟨hx, hb, hml, hown, hts⟩ (h_X2_refused g ad σ (-1) h8) (cwV 1 hts gX2_settle_X2_refused rfl rfl rfl (by decide +kernel) ⟨Nat.le_of_ble_eq_true rfl, Nat.le_of_ble_eq_true rfl⟩) ⟨RW_blind, va_recv hK hP (ci := 2) (q0 := 0) rfl rfl, fun U hU hW => ⟨rfl, by rw [hU]; exact hPc, va_K.moved hW.alike hK, hE.call hW hU hS (fun _ h => h), hDc⟩⟩ rfl rfl hl.1 rfl (lv_room (Nat.le_of_ble_eq_true rfl)) dX2_settle_20 ⟨Nat.le_of_ble_eq_true rfl, Nat.le_of_ble_eq_true rfl⟩) hS (fun _ h => h) (fun r u H1 locs hw hP1 hk hS => ?_)
    obtain ⟨hw1, hw⟩ := hw; subst r; subst u
    have hP := hP1
    generalize H1 = H at hP hS ⊢
    have hP : va_P (gD g) vwCl (wX g ad ((xNow σ), (xTaken σ), (xTrial σ), (xScr σ), (xRow σ), (refuX (xRefus σ) ((-1) : Int32)), (xKept σ), (xRowLen σ), (xIsTaken σ))) H := hP
    have hD : va_D (AD ad 0 45) (wX g ad ((xNow σ), (xTaken σ), (xTrial σ), (xScr σ), (xRow σ), (refuX (xRefus σ) ((-1) : Int32)), (xKept σ), (xRowLen σ), (xIsTaken σ))) := hD.addr (by rfl)
    exact W.iret (v := (((-1) : Int32))) hx hb hr (fun t ht hW => ⟨⟨(((-1) : Int32)), ((xNow σ), (xTaken σ), (xTrial σ), (xScr σ), (xRow σ), (refuX (xRefus σ) ((-1) : Int32)), (xKept σ), (xRowLen σ), (xIsTaken σ)), rfl, hv, P_at ht hP⟩, hS.F ht⟩) hS.2.2 dX2_settle_23
  · have hv := hv.2 c8
    refine lv_iload_n hx hb dX2_settle_11 rfl (lv_at hl 2 rfl) ?_
    have hPc : va_P (gD g) vwCl [] H := fun k q h => by simp at h
    refine ro_int (va_runS (As := [.int p1]) (rest := []) ⟨hx, hb, hml, hown, hts⟩ (h_X2_isFact g p1) (va_cwS 1 hts gX2_settle_X2_isFact rfl rfl rfl (by decide +kernel) ⟨Nat.le_of_ble_eq_true rfl, Nat.le_of_ble_eq_true rfl⟩) ⟨RO_blind, fun U hU hW => ⟨rfl, by rw [hU]; exact hPc, va_K.moved hW.alike hK, hE.call hW hU hS (fun _ h => h.elim)⟩⟩ rfl rfl hl.1 rfl (lv_room (Nat.le_of_ble_eq_true rfl)) dX2_settle_12 ⟨Nat.le_of_ble_eq_true rfl, Nat.le_of_ble_eq_true rfl⟩) hS hP (fun r H locs hw hP hS => ?_)
    subst r
    refine lv_if_ne (tgt := 24) hx hb dX2_settle_15 (by decide) (fun c15 => ?_) (fun c15 => ?_)
    · have hv := hv.1 c15
      refine lv_iload_n hx hb dX2_settle_24 rfl (lv_at hl 3 rfl) ?_
      have hPc : va_P (gD g) vwCl [] H := fun k q h => by simp at h
      refine ro_int (va_runS (As := [.int p2]) (rest := []) ⟨hx, hb, hml, hown, hts⟩ (h_X2_isPart g p2) (va_cwS 1 hts gX2_settle_X2_isPart rfl rfl rfl (by decide +kernel) ⟨Nat.le_of_ble_eq_true rfl, Nat.le_of_ble_eq_true rfl⟩) ⟨RO_blind, fun U hU hW => ⟨rfl, by rw [hU]; exact hPc, va_K.moved hW.alike hK, hE.call hW hU hS (fun _ h => h.elim)⟩⟩ rfl rfl hl.1 rfl (lv_room (Nat.le_of_ble_eq_true rfl)) dX2_settle_25 ⟨Nat.le_of_ble_eq_true rfl, Nat.le_of_ble_eq_true rfl⟩) hS hP (fun r H locs hw hP hS => ?_)
      subst r
      refine lv_if_eq (tgt := 44) hx hb dX2_settle_28 (by decide) (fun c28 => ?_) (fun c28 => ?_)
      · have hv := hv.1 c28
        refine lv_aload_n hx hb dX2_settle_44 rfl (lv_at hl 0 rfl) ?_
        refine lv_bipush (v := (-2)) hx hb dX2_settle_45 (by decide) ?_
        have h8 := hv.1
        have hv := hv.2
        have hPc := hP
        have hDc := hD
        refine rw_int (va_runV (As := [.int (-2)]) (rest := []) ⟨hx, hb, hml, hown, hts⟩ (h_X2_refused g ad σ (-2) h8) (cwV 1 hts gX2_settle_X2_refused rfl rfl rfl (by decide +kernel) ⟨Nat.le_of_ble_eq_true rfl, Nat.le_of_ble_eq_true rfl⟩) ⟨RW_blind, va_recv hK hP (ci := 2) (q0 := 0) rfl rfl, fun U hU hW => ⟨rfl, by rw [hU]; exact hPc, va_K.moved hW.alike hK, hE.call hW hU hS (fun _ h => h), hDc⟩⟩ rfl rfl hl.1 rfl (lv_room (Nat.le_of_ble_eq_true rfl)) dX2_settle_47 ⟨Nat.le_of_ble_eq_true rfl, Nat.le_of_ble_eq_true rfl⟩) hS (fun _ h => h) (fun r u H1 locs hw hP1 hk hS => ?_)
        obtain ⟨hw1, hw⟩ := hw; subst r; subst u
        have hP := hP1
        generalize H1 = H at hP hS ⊢
        have hP : va_P (gD g) vwCl (wX g ad ((xNow σ), (xTaken σ), (xTrial σ), (xScr σ), (xRow σ), (refuX (xRefus σ) ((-2) : Int32)), (xKept σ), (xRowLen σ), (xIsTaken σ))) H := hP
        have hD : va_D (AD ad 0 45) (wX g ad ((xNow σ), (xTaken σ), (xTrial σ), (xScr σ), (xRow σ), (refuX (xRefus σ) ((-2) : Int32)), (xKept σ), (xRowLen σ), (xIsTaken σ))) := hD.addr (by rfl)
        exact W.iret (v := (((-2) : Int32))) hx hb hr (fun t ht hW => ⟨⟨(((-2) : Int32)), ((xNow σ), (xTaken σ), (xTrial σ), (xScr σ), (xRow σ), (refuX (xRefus σ) ((-2) : Int32)), (xKept σ), (xRowLen σ), (xIsTaken σ)), rfl, hv, P_at ht hP⟩, hS.F ht⟩) hS.2.2 dX2_settle_50
      · have hv := hv.2 c28
        refine lv_aload_n hx hb dX2_settle_31 rfl (lv_at hl 0 rfl) ?_
        refine lv_iload_n hx hb dX2_settle_32 rfl (lv_at hl 1 rfl) ?_
        refine lv_iload_n hx hb dX2_settle_33 rfl (lv_at hl 2 rfl) ?_
        have hPc : va_P (gD g) vwCl [] H := fun k q h => by simp at h
        refine ro_long (va_runS (As := [.int p1]) (rest := [.int p0, .ref (ad 0)]) ⟨hx, hb, hml, hown, hts⟩ (h_X2_factCases g p1) (va_cwS 1 hts gX2_settle_X2_factCases rfl rfl rfl (by decide +kernel) ⟨Nat.le_of_ble_eq_true rfl, Nat.le_of_ble_eq_true rfl⟩) ⟨RO_blind, fun U hU hW => ⟨rfl, by rw [hU]; exact hPc, va_K.moved hW.alike hK, hE.call hW hU hS (fun _ h => h.elim)⟩⟩ rfl rfl hl.1 rfl (lv_room (Nat.le_of_ble_eq_true rfl)) dX2_settle_34 ⟨Nat.le_of_ble_eq_true rfl, Nat.le_of_ble_eq_true rfl⟩) hS hP (fun r H locs hw hP hS => ?_)
        subst r
        refine lv_iload_n hx hb dX2_settle_37 rfl (lv_at hl 3 rfl) ?_
        have h8 := hv.1
        have hv := hv.2
        have hPc := hP
        have hDc := hD
        refine rw_int (va_runV (As := [.int p0, .long (factCasesL p1), .int p2]) (rest := []) ⟨hx, hb, hml, hown, hts⟩ (h_X2_settling g ad σ p0 (factCasesL p1) p2 h8) (cwV 3 hts gX2_settle_X2_settling rfl rfl rfl (by decide +kernel) ⟨Nat.le_of_ble_eq_true rfl, Nat.le_of_ble_eq_true rfl⟩) ⟨RW_blind, va_recv hK hP (ci := 2) (q0 := 0) rfl rfl, fun U hU hW => ⟨rfl, by rw [hU]; exact hPc, va_K.moved hW.alike hK, hE.call hW hU hS (fun _ h => h), hDc⟩⟩ rfl rfl hl.1 rfl (lv_room (Nat.le_of_ble_eq_true rfl)) dX2_settle_38 ⟨Nat.le_of_ble_eq_true rfl, Nat.le_of_ble_eq_true rfl⟩) hS (fun _ h => h) (fun r u H1 locs hw hP1 hk hS => ?_)
        obtain ⟨e38_kept, hw1, hw⟩ := hw; subst r; subst u
        have hv := hv e38_kept
        have hP := hP1
        generalize H1 = H at hP hS ⊢
        have hP : va_P (gD g) vwCl (wX g ad ((xNow σ), (xTaken σ), (xTrial σ), (xScr σ), (xRow σ), (xRefus σ), (e38_kept), (xRowLen σ), (xIsTaken σ))) H := hP
        have hD : va_D (AD ad 0 45) (wX g ad ((xNow σ), (xTaken σ), (xTrial σ), (xScr σ), (xRow σ), (xRefus σ), (e38_kept), (xRowLen σ), (xIsTaken σ))) := hD.addr (by rfl)
        refine lv_goto (tgt := 50) hx hb dX2_settle_41 (by decide) ?_
        exact W.iret (v := (settleX (xNow σ) p0 (factCasesL p1) p2)) hx hb hr (fun t ht hW => ⟨⟨(settleX (xNow σ) p0 (factCasesL p1) p2), ((xNow σ), (xTaken σ), (xTrial σ), (xScr σ), (xRow σ), (xRefus σ), (e38_kept), (xRowLen σ), (xIsTaken σ)), rfl, hv, P_at ht hP⟩, hS.F ht⟩) hS.2.2 dX2_settle_50
    · have hv := hv.2 c15
      refine lv_aload_n hx hb dX2_settle_18 rfl (lv_at hl 0 rfl) ?_
      refine lv_iconst (v := (-1)) hx hb dX2_settle_19 (by decide) ?_
      have h8 := hv.1
      have hv := hv.2
      have hPc := hP
      have hDc := hD
      refine rw_int (va_runV (As := [.int (-1)]) (rest := []) ⟨hx, hb, hml, hown, hts⟩ (h_X2_refused g ad σ (-1) h8) (cwV 1 hts gX2_settle_X2_refused rfl rfl rfl (by decide +kernel) ⟨Nat.le_of_ble_eq_true rfl, Nat.le_of_ble_eq_true rfl⟩) ⟨RW_blind, va_recv hK hP (ci := 2) (q0 := 0) rfl rfl, fun U hU hW => ⟨rfl, by rw [hU]; exact hPc, va_K.moved hW.alike hK, hE.call hW hU hS (fun _ h => h), hDc⟩⟩ rfl rfl hl.1 rfl (lv_room (Nat.le_of_ble_eq_true rfl)) dX2_settle_20 ⟨Nat.le_of_ble_eq_true rfl, Nat.le_of_ble_eq_true rfl⟩) hS (fun _ h => h) (fun r u H1 locs hw hP1 hk hS => ?_)
      obtain ⟨hw1, hw⟩ := hw; subst r; subst u
      have hP := hP1
      generalize H1 = H at hP hS ⊢
      have hP : va_P (gD g) vwCl (wX g ad ((xNow σ), (xTaken σ), (xTrial σ), (xScr σ), (xRow σ), (refuX (xRefus σ) ((-1) : Int32)), (xKept σ), (xRowLen σ), (xIsTaken σ))) H := hP
      have hD : va_D (AD ad 0 45) (wX g ad ((xNow σ), (xTaken σ), (xTrial σ), (xScr σ), (xRow σ), (refuX (xRefus σ) ((-1) : Int32)), (xKept σ), (xRowLen σ), (xIsTaken σ))) := hD.addr (by rfl)
      exact W.iret (v := (((-1) : Int32))) hx hb hr (fun t ht hW => ⟨⟨(((-1) : Int32)), ((xNow σ), (xTaken σ), (xTrial σ), (xScr σ), (xRow σ), (refuX (xRefus σ) ((-1) : Int32)), (xKept σ), (xRowLen σ), (xIsTaken σ)), rfl, hv, P_at ht hP⟩, hS.F ht⟩) hS.2.2 dX2_settle_23

set_option maxHeartbeats 4000000 in
set_option maxRecDepth 100000 in
theorem m_X2_words (l : Launch) (h_X0_hasWitness : C_X0_hasWitness l) (h_X0_questionsSaid : C_X0_questionsSaid l) (h_X2_refused : C_X2_refused l) (g : CX) (ad : Nat → Nat) (σ : KX) (p0 : Int32) (p1 : Int32) (Post : Int32 → KX → Prop) (hv : vc_X2_words σ p0 p1 Post) : Met l yX2_words wsX2_words { frames := 4, cells := 0, slots := 0, locals := 95 } (va_Pc [.ref (ad 0), .int p0, .int p1] (RW g (AD ad 0 45) (wX g ad σ))) (va_Qi (fun (r : Int32) (u : KX) => Post r u) (fun u t => va_P (gD g) vwCl (wX g ad u) t.heap) (AD ad 0 45)) 0 0 (AD ad 0 45) := by
  unfold vc_X2_words at hv
  refine Met.ofW (cc := cX2_words) (maxL := 3) (ret := (some .int)) (by decide) rfl ?_
  intro p e s m args below meth c s₁ B hml hv0
  obtain ⟨rfl, hP, hK, hE, hD⟩ := hv0
  have hx := B.exec
  have hb := B.bytes
  have hr := B.returns
  have hts := atoms_spec (ws := wsX2_words) B.pre
  have hown : s.vm.findClass RX2 = some m.cls := findClass_of_methodNamed B.named
  have hlocks := B.notSynchronized
  have hi0 : ∀ w ∈ wsX00, w ∈ wsX2_words := by decide +kernel
  have hi2 : ∀ w ∈ wsX20, w ∈ wsX2_words := by decide +kernel
  have k0 := hts (.fieldLink RX2 10 "JuryHearsAnswers" "now" "LJuryHearsAnswers$Court;") (by decide +kernel)
  have k1 := hts (.fieldLink RX2 90 "JuryHearsAnswers$Court" "asked" "I") (by decide +kernel)
  have hS : va_S (AD ad 0 45) s.heap s.heap [] := va_S.rf
  have hP : va_P (gD g) vwCl (wX g ad σ) s.heap := hP
  have hl := lv_entry ([.ref (ad 0), .int p0, .int p1]) (n := 3) (Nat.le_of_ble_eq_true rfl)
  rw [lg_entry_eq]
  generalize (lg_sl ([.ref (ad 0), .int p0, .int p1]) ++ List.replicate (3 - (lg_sl ([.ref (ad 0), .int p0, .int p1])).length) Slot.unset).toArray = ls at hl ⊢
  have hl : lv_has ls 3 [(0, .ref (ad 0)), (1, .int p0), (2, .int p1)] := hl
  obtain ⟨H, hH⟩ : ∃ z, z = s.heap := ⟨_, rfl⟩
  obtain ⟨locs, hL⟩ : ∃ z : List Loc, z = [] := ⟨_, rfl⟩
  rw [← hL] at hS ⊢
  have hS : va_S (AD ad 0 45) s.heap H locs := by rw [hH]; exact hS
  rw [← hH] at hP ⊢
  clear hH hL
  refine lv_aload_n hx hb dX2_words_0 rfl (lv_at hl 0 rfl) ?_
  refine va_get (D := gD g) (ci := 2) (v := .ref (ad 4)) (C := RX2) (T := TX2) (N := 9) hx hb hts hi2 hown hK hP 0 rfl rfl 0 (by decide) k0 (fun _ h9 => h9) rfl dX2_words_1 ?_
  refine lv_iload_n hx hb dX2_words_4 rfl (lv_at hl 1 rfl) ?_
  have hPc : va_P (gD g) vwCl (wC g ad 4 (xNow σ)) H := hP.sub [4, 5, 6, 7, 8, 9, 10, 11, 12, 13, 14, 15, 16] rfl
  refine ro_int (va_runV (As := [.int p0]) (rest := []) ⟨hx, hb, hml, hown, hts⟩ (h_X0_hasWitness g ad 4 (xNow σ) p0) (cwV 1 hts gX2_words_X0_hasWitness rfl rfl rfl (by decide +kernel) ⟨Nat.le_of_ble_eq_true rfl, Nat.le_of_ble_eq_true rfl⟩) ⟨RO_blind, va_recv hK hP (ci := 0) (q0 := 4) rfl rfl, fun U hU hW => ⟨rfl, by rw [hU]; exact hPc, va_K.moved hW.alike hK, hE.call hW hU hS (fun _ h => h.elim)⟩⟩ rfl rfl hl.1 rfl (lv_room (Nat.le_of_ble_eq_true rfl)) dX2_words_5 ⟨Nat.le_of_ble_eq_true rfl, Nat.le_of_ble_eq_true rfl⟩) hS hP (fun r H locs hw hP hS => ?_)
  subst r
  refine lv_if_ne (tgt := 17) hx hb dX2_words_8 (by decide) (fun c8 => ?_) (fun c8 => ?_)
  · have hv := hv.1 c8
    refine lv_iload_n hx hb dX2_words_17 rfl (lv_at hl 2 rfl) ?_
    refine lv_if_lt (tgt := 26) hx hb dX2_words_18 (by decide) (fun c18 => ?_) (fun c18 => ?_)
    · have hv := hv.1 c18
      refine lv_aload_n hx hb dX2_words_26 rfl (lv_at hl 0 rfl) ?_
      refine lv_bipush (v := (-2)) hx hb dX2_words_27 (by decide) ?_
      have h8 := hv.1
      have hv := hv.2
      have hPc := hP
      have hDc := hD
      refine rw_int (va_runV (As := [.int (-2)]) (rest := []) ⟨hx, hb, hml, hown, hts⟩ (h_X2_refused g ad σ (-2) h8) (cwV 1 hts gX2_words_X2_refused rfl rfl rfl (by decide +kernel) ⟨Nat.le_of_ble_eq_true rfl, Nat.le_of_ble_eq_true rfl⟩) ⟨RW_blind, va_recv hK hP (ci := 2) (q0 := 0) rfl rfl, fun U hU hW => ⟨rfl, by rw [hU]; exact hPc, va_K.moved hW.alike hK, hE.call hW hU hS (fun _ h => h), hDc⟩⟩ rfl rfl hl.1 rfl (lv_room (Nat.le_of_ble_eq_true rfl)) dX2_words_29 ⟨Nat.le_of_ble_eq_true rfl, Nat.le_of_ble_eq_true rfl⟩) hS (fun _ h => h) (fun r u H1 locs hw hP1 hk hS => ?_)
      obtain ⟨hw1, hw⟩ := hw; subst r; subst u
      have hP := hP1
      generalize H1 = H at hP hS ⊢
      have hP : va_P (gD g) vwCl (wX g ad ((xNow σ), (xTaken σ), (xTrial σ), (xScr σ), (xRow σ), (refuX (xRefus σ) ((-2) : Int32)), (xKept σ), (xRowLen σ), (xIsTaken σ))) H := hP
      have hD : va_D (AD ad 0 45) (wX g ad ((xNow σ), (xTaken σ), (xTrial σ), (xScr σ), (xRow σ), (refuX (xRefus σ) ((-2) : Int32)), (xKept σ), (xRowLen σ), (xIsTaken σ))) := hD.addr (by rfl)
      exact W.iret (v := (((-2) : Int32))) hx hb hr (fun t ht hW => ⟨⟨(((-2) : Int32)), ((xNow σ), (xTaken σ), (xTrial σ), (xScr σ), (xRow σ), (refuX (xRefus σ) ((-2) : Int32)), (xKept σ), (xRowLen σ), (xIsTaken σ)), rfl, hv, P_at ht hP⟩, hS.F ht⟩) hS.2.2 dX2_words_32
    · have hv := hv.2 c18
      refine lv_iload_n hx hb dX2_words_21 rfl (lv_at hl 2 rfl) ?_
      refine lv_iconst (v := 3) hx hb dX2_words_22 (by decide) ?_
      refine lv_icmp_lt (tgt := 33) hx hb dX2_words_23 (by decide) (fun c23 => ?_) (fun c23 => ?_)
      · have hv := hv.1 c23
        refine lv_aload_n hx hb dX2_words_33 rfl (lv_at hl 0 rfl) ?_
        refine va_get (D := gD g) (ci := 2) (v := .ref (ad 4)) (C := RX2) (T := TX2) (N := 9) hx hb hts hi2 hown hK hP 0 rfl rfl 0 (by decide) k0 (fun _ h9 => h9) rfl dX2_words_34 ?_
        refine lv_iload_n hx hb dX2_words_37 rfl (lv_at hl 1 rfl) ?_
        refine lv_aload_n hx hb dX2_words_38 rfl (lv_at hl 0 rfl) ?_
        refine va_get (D := gD g) (ci := 2) (v := .ref (ad 4)) (C := RX2) (T := TX2) (N := 9) hx hb hts hi2 hown hK hP 0 rfl rfl 0 (by decide) k0 (fun _ h9 => h9) rfl dX2_words_39 ?_
        refine va_get (D := gD g) (ci := 0) (v := .int (sAsked (cS (xNow σ)))) (C := RX0) (T := TX0) (N := 17) hx hb hts hi0 hown hK hP 4 rfl rfl 1 (by decide) k1 (fun _ h9 => h9) rfl dX2_words_42 ?_
        refine lv_iconst (v := 1) hx hb dX2_words_45 (by decide) ?_
        refine lv_iadd hx hb dX2_words_46 ?_
        refine lv_iload_n hx hb dX2_words_47 rfl (lv_at hl 2 rfl) ?_
        have h8 := hv.1
        have hv := hv.2
        have hPc : va_P (gD g) vwCl (wC g ad 4 (xNow σ)) H := hP.sub [4, 5, 6, 7, 8, 9, 10, 11, 12, 13, 14, 15, 16] rfl
        refine ro_int (va_runV (As := [.int p0, .int ((sAsked (cS (xNow σ))) + 1), .int p1]) (rest := []) ⟨hx, hb, hml, hown, hts⟩ (h_X0_questionsSaid g ad 4 (xNow σ) p0 ((sAsked (cS (xNow σ))) + 1) p1 h8) (cwV 3 hts gX2_words_X0_questionsSaid rfl rfl rfl (by decide +kernel) ⟨Nat.le_of_ble_eq_true rfl, Nat.le_of_ble_eq_true rfl⟩) ⟨RO_blind, va_recv hK hP (ci := 0) (q0 := 4) rfl rfl, fun U hU hW => ⟨rfl, by rw [hU]; exact hPc, va_K.moved hW.alike hK, hE.call hW hU hS (fun _ h => h.elim)⟩⟩ rfl rfl hl.1 rfl (lv_room (Nat.le_of_ble_eq_true rfl)) dX2_words_48 ⟨Nat.le_of_ble_eq_true rfl, Nat.le_of_ble_eq_true rfl⟩) hS hP (fun r H locs hw hP hS => ?_)
        subst r
        exact W.iret (v := (questionsSaidI (xNow σ) p0 ((sAsked (cS (xNow σ))) + 1) p1)) hx hb hr (fun t ht hW => ⟨⟨(questionsSaidI (xNow σ) p0 ((sAsked (cS (xNow σ))) + 1) p1), σ, rfl, hv, P_at ht hP⟩, hS.F ht⟩) hS.2.2 dX2_words_51
      · have hv := hv.2 c23
        refine lv_aload_n hx hb dX2_words_26 rfl (lv_at hl 0 rfl) ?_
        refine lv_bipush (v := (-2)) hx hb dX2_words_27 (by decide) ?_
        have h8 := hv.1
        have hv := hv.2
        have hPc := hP
        have hDc := hD
        refine rw_int (va_runV (As := [.int (-2)]) (rest := []) ⟨hx, hb, hml, hown, hts⟩ (h_X2_refused g ad σ (-2) h8) (cwV 1 hts gX2_words_X2_refused rfl rfl rfl (by decide +kernel) ⟨Nat.le_of_ble_eq_true rfl, Nat.le_of_ble_eq_true rfl⟩) ⟨RW_blind, va_recv hK hP (ci := 2) (q0 := 0) rfl rfl, fun U hU hW => ⟨rfl, by rw [hU]; exact hPc, va_K.moved hW.alike hK, hE.call hW hU hS (fun _ h => h), hDc⟩⟩ rfl rfl hl.1 rfl (lv_room (Nat.le_of_ble_eq_true rfl)) dX2_words_29 ⟨Nat.le_of_ble_eq_true rfl, Nat.le_of_ble_eq_true rfl⟩) hS (fun _ h => h) (fun r u H1 locs hw hP1 hk hS => ?_)
        obtain ⟨hw1, hw⟩ := hw; subst r; subst u
        have hP := hP1
        generalize H1 = H at hP hS ⊢
        have hP : va_P (gD g) vwCl (wX g ad ((xNow σ), (xTaken σ), (xTrial σ), (xScr σ), (xRow σ), (refuX (xRefus σ) ((-2) : Int32)), (xKept σ), (xRowLen σ), (xIsTaken σ))) H := hP
        have hD : va_D (AD ad 0 45) (wX g ad ((xNow σ), (xTaken σ), (xTrial σ), (xScr σ), (xRow σ), (refuX (xRefus σ) ((-2) : Int32)), (xKept σ), (xRowLen σ), (xIsTaken σ))) := hD.addr (by rfl)
        exact W.iret (v := (((-2) : Int32))) hx hb hr (fun t ht hW => ⟨⟨(((-2) : Int32)), ((xNow σ), (xTaken σ), (xTrial σ), (xScr σ), (xRow σ), (refuX (xRefus σ) ((-2) : Int32)), (xKept σ), (xRowLen σ), (xIsTaken σ)), rfl, hv, P_at ht hP⟩, hS.F ht⟩) hS.2.2 dX2_words_32
  · have hv := hv.2 c8
    refine lv_aload_n hx hb dX2_words_11 rfl (lv_at hl 0 rfl) ?_
    refine lv_iconst (v := (-1)) hx hb dX2_words_12 (by decide) ?_
    have h8 := hv.1
    have hv := hv.2
    have hPc := hP
    have hDc := hD
    refine rw_int (va_runV (As := [.int (-1)]) (rest := []) ⟨hx, hb, hml, hown, hts⟩ (h_X2_refused g ad σ (-1) h8) (cwV 1 hts gX2_words_X2_refused rfl rfl rfl (by decide +kernel) ⟨Nat.le_of_ble_eq_true rfl, Nat.le_of_ble_eq_true rfl⟩) ⟨RW_blind, va_recv hK hP (ci := 2) (q0 := 0) rfl rfl, fun U hU hW => ⟨rfl, by rw [hU]; exact hPc, va_K.moved hW.alike hK, hE.call hW hU hS (fun _ h => h), hDc⟩⟩ rfl rfl hl.1 rfl (lv_room (Nat.le_of_ble_eq_true rfl)) dX2_words_13 ⟨Nat.le_of_ble_eq_true rfl, Nat.le_of_ble_eq_true rfl⟩) hS (fun _ h => h) (fun r u H1 locs hw hP1 hk hS => ?_)
    obtain ⟨hw1, hw⟩ := hw; subst r; subst u
    have hP := hP1
    generalize H1 = H at hP hS ⊢
    have hP : va_P (gD g) vwCl (wX g ad ((xNow σ), (xTaken σ), (xTrial σ), (xScr σ), (xRow σ), (refuX (xRefus σ) ((-1) : Int32)), (xKept σ), (xRowLen σ), (xIsTaken σ))) H := hP
    have hD : va_D (AD ad 0 45) (wX g ad ((xNow σ), (xTaken σ), (xTrial σ), (xScr σ), (xRow σ), (refuX (xRefus σ) ((-1) : Int32)), (xKept σ), (xRowLen σ), (xIsTaken σ))) := hD.addr (by rfl)
    exact W.iret (v := (((-1) : Int32))) hx hb hr (fun t ht hW => ⟨⟨(((-1) : Int32)), ((xNow σ), (xTaken σ), (xTrial σ), (xScr σ), (xRow σ), (refuX (xRefus σ) ((-1) : Int32)), (xKept σ), (xRowLen σ), (xIsTaken σ)), rfl, hv, P_at ht hP⟩, hS.F ht⟩) hS.2.2 dX2_words_16

set_option maxHeartbeats 4000000 in
set_option maxRecDepth 100000 in
theorem m_X2_liars (l : Launch) (h_X0_fitting : C_X0_fitting l) (h_X0_untruths : C_X0_untruths l) (g : CX) (ad : Nat → Nat) (σ : KX)  (Post : Int32 → Prop) (hv : vc_X2_liars σ Post) : Met l yX2_liars wsX2_liars { frames := 5, cells := 0, slots := 0, locals := 114 } (va_Pc [.ref (ad 0)] (RO g (wX g ad σ))) (va_Qi (fun r (_ : Unit) => Post r) (fun _ _ => True) A0) 0 0 A0 := by
  unfold vc_X2_liars at hv
  refine Met.ofW (cc := cX2_liars) (maxL := 5) (ret := (some .int)) (by decide) rfl ?_
  intro p e s m args below meth c s₁ B hml hv0
  obtain ⟨rfl, hP, hK, hE⟩ := hv0
  have hx := B.exec
  have hb := B.bytes
  have hr := B.returns
  have hts := atoms_spec (ws := wsX2_liars) B.pre
  have hown : s.vm.findClass RX2 = some m.cls := findClass_of_methodNamed B.named
  have hlocks := B.notSynchronized
  have hi0 : ∀ w ∈ wsX00, w ∈ wsX2_liars := by decide +kernel
  have hi2 : ∀ w ∈ wsX20, w ∈ wsX2_liars := by decide +kernel
  have k0 := hts (.fieldLink RX2 10 "JuryHearsAnswers" "now" "LJuryHearsAnswers$Court;") (by decide +kernel)
  have k1 := hts (.fieldLink RX2 152 "JuryHearsAnswers$Court" "witnesses" "I") (by decide +kernel)
  have k2 := hts (.constantLong RX2 158 (-1)) (by decide +kernel)
  have hS : va_S A0 s.heap s.heap [] := va_S.rf
  have hP : va_P (gD g) vwCl (wX g ad σ) s.heap := hP
  have hl := lv_entry ([.ref (ad 0)]) (n := 5) (Nat.le_of_ble_eq_true rfl)
  rw [lg_entry_eq]
  generalize (lg_sl ([.ref (ad 0)]) ++ List.replicate (5 - (lg_sl ([.ref (ad 0)])).length) Slot.unset).toArray = ls at hl ⊢
  have hl : lv_has ls 5 [(0, .ref (ad 0))] := hl
  have hv := hv (fun (x1 : Int64) (x3 : Int32) (x4 : Int32) => ∀ (H : Heap) (locs : List Loc) (ls : Array Slot), va_P (gD g) vwCl (wX g ad σ) H → va_S A0 s.heap H locs → lv_has ls 5 [(0, .ref (ad 0)), (1, .long x1), (3, .int x3), (4, .int x4)] → W p l e { frames := 5, cells := 0, slots := 0, locals := 114 } s m ([.ref (ad 0)] : List Value).toArray below meth c H locs 0 0 (MQ below (va_Qi (fun r (_ : Unit) => Post r) (fun _ _ => True) A0) ([.ref (ad 0)] : List Value).toArray s 0 0 A0) (F0 m 13 ls []))
  have hv := hv (by
    intro x1 x3 x4 hv H locs ls hP hS hl
    refine lv_lload_n hx hb dX2_liars_13 rfl (lv_at hl 1 rfl) ?_
    refine lv_lconst (v := 0) hx hb dX2_liars_14 (by decide) ?_
    refine W.lcmp hx hb dX2_liars_15 ?_
    refine lv_if_eq (tgt := 64) hx hb dX2_liars_16 (by decide) (fun c16 => ?_) (fun c16 => ?_)
    · have hv := hv.1 c16
      refine lv_iload_n hx hb dX2_liars_64 rfl (lv_at hl 2 rfl) ?_
      exact W.iret (v := x3) hx hb hr (fun t ht hW => ⟨⟨x3, (), rfl, hv, trivial⟩, hS.F ht⟩) hS.2.2 dX2_liars_65
    · have hv := hv.2 c16
      refine lv_iload hx hb dX2_liars_19 (lv_at hl 3 rfl) ?_
      refine lv_aload_n hx hb dX2_liars_21 rfl (lv_at hl 0 rfl) ?_
      refine va_get (D := gD g) (ci := 2) (v := .ref (ad 4)) (C := RX2) (T := TX2) (N := 9) hx hb hts hi2 hown hK hP 0 rfl rfl 0 (by decide) k0 (fun _ h9 => h9) rfl dX2_liars_22 ?_
      refine va_get (D := gD g) (ci := 0) (v := .int (sNw (cS (xNow σ)))) (C := RX0) (T := TX0) (N := 17) hx hb hts hi0 hown hK hP 4 rfl rfl 3 (by decide) k1 (fun _ h9 => h9) rfl dX2_liars_25 ?_
      refine lv_icmp_ge (tgt := 64) hx hb dX2_liars_28 (by decide) (fun c28 => ?_) (fun c28 => ?_)
      · have hv := hv.1 c28
        refine lv_iload_n hx hb dX2_liars_64 rfl (lv_at hl 2 rfl) ?_
        exact W.iret (v := x3) hx hb hr (fun t ht hW => ⟨⟨x3, (), rfl, hv, trivial⟩, hS.F ht⟩) hS.2.2 dX2_liars_65
      · have hv := hv.2 c28
        refine lv_lload_n hx hb dX2_liars_31 rfl (lv_at hl 1 rfl) ?_
        refine lv_aload_n hx hb dX2_liars_32 rfl (lv_at hl 0 rfl) ?_
        refine va_get (D := gD g) (ci := 2) (v := .ref (ad 4)) (C := RX2) (T := TX2) (N := 9) hx hb hts hi2 hown hK hP 0 rfl rfl 0 (by decide) k0 (fun _ h9 => h9) rfl dX2_liars_33 ?_
        refine lv_iload hx hb dX2_liars_36 (lv_at hl 3 rfl) ?_
        have h8 := hv.1
        have hv := hv.2
        have hPc : va_P (gD g) vwCl (wC g ad 4 (xNow σ)) H := hP.sub [4, 5, 6, 7, 8, 9, 10, 11, 12, 13, 14, 15, 16] rfl
        refine ro_long (va_runV (As := [.int x4]) (rest := [.long x1]) ⟨hx, hb, hml, hown, hts⟩ (h_X0_untruths g ad 4 (xNow σ) x4 h8) (cwV 1 hts gX2_liars_X0_untruths rfl rfl rfl (by decide +kernel) ⟨Nat.le_of_ble_eq_true rfl, Nat.le_of_ble_eq_true rfl⟩) ⟨RO_blind, va_recv hK hP (ci := 0) (q0 := 4) rfl rfl, fun U hU hW => ⟨rfl, by rw [hU]; exact hPc, va_K.moved hW.alike hK, hE.call hW hU hS (fun _ h => h.elim)⟩⟩ rfl rfl hl.1 rfl (lv_room (Nat.le_of_ble_eq_true rfl)) dX2_liars_38 ⟨Nat.le_of_ble_eq_true rfl, Nat.le_of_ble_eq_true rfl⟩) hS hP (fun r H locs hw hP hS => ?_)
        subst r
        refine lv_ldc2 hx hb hown k2 dX2_liars_41 ?_
        refine lv_lxor hx hb dX2_liars_44 ?_
        refine lv_land hx hb dX2_liars_45 ?_
        refine lv_lconst (v := 0) hx hb dX2_liars_46 (by decide) ?_
        refine W.lcmp hx hb dX2_liars_47 ?_
        refine lv_if_ne (tgt := 58) hx hb dX2_liars_48 (by decide) (fun c48 => ?_) (fun c48 => ?_)
        · have hv := hv.1 c48
          refine lv_iinc (v := (x4 + 1)) (lv' := [(4, .int (x4 + 1)), (0, .ref (ad 0)), (1, .long x1), (3, .int x3)]) hx hb dX2_liars_58 hl (k := 3) rfl (by first | rfl | exact congrArg _ (by decide)) (by decide) rfl (fun ls hl => ?_)
          refine lv_goto (tgt := 13) hx hb dX2_liars_61 (by decide) ?_
          exact hv H locs ls hP hS (lv_sub hl [1, 2, 3, 0] rfl)
        · have hv := hv.2 c48
          refine lv_iload_n hx hb dX2_liars_51 rfl (lv_at hl 2 rfl) ?_
          refine lv_iconst (v := 1) hx hb dX2_liars_52 (by decide) ?_
          refine lv_iload hx hb dX2_liars_53 (lv_at hl 3 rfl) ?_
          refine lv_ishl hx hb dX2_liars_55 ?_
          refine lv_ior hx hb dX2_liars_56 ?_
          refine lv_istore_n (lv' := [(3, .int (x3 ||| (1 <<< (x4 &&& 31)))), (0, .ref (ad 0)), (1, .long x1), (4, .int x4)]) hx hb dX2_liars_57 rfl hl (by decide) rfl (fun ls hl => ?_)
          refine lv_iinc (v := (x4 + 1)) (lv' := [(4, .int (x4 + 1)), (3, .int (x3 ||| (1 <<< (x4 &&& 31)))), (0, .ref (ad 0)), (1, .long x1)]) hx hb dX2_liars_58 hl (k := 3) rfl (by first | rfl | exact congrArg _ (by decide)) (by decide) rfl (fun ls hl => ?_)
          refine lv_goto (tgt := 13) hx hb dX2_liars_61 (by decide) ?_
          exact hv H locs ls hP hS (lv_sub hl [2, 3, 1, 0] rfl))
  obtain ⟨H, hH⟩ : ∃ z, z = s.heap := ⟨_, rfl⟩
  obtain ⟨locs, hL⟩ : ∃ z : List Loc, z = [] := ⟨_, rfl⟩
  rw [← hL] at hS ⊢
  have hS : va_S A0 s.heap H locs := by rw [hH]; exact hS
  rw [← hH] at hP ⊢
  clear hH hL
  refine lv_aload_n hx hb dX2_liars_0 rfl (lv_at hl 0 rfl) ?_
  refine va_get (D := gD g) (ci := 2) (v := .ref (ad 4)) (C := RX2) (T := TX2) (N := 9) hx hb hts hi2 hown hK hP 0 rfl rfl 0 (by decide) k0 (fun _ h9 => h9) rfl dX2_liars_1 ?_
  have h8 := hv.1
  have hv := hv.2
  have hPc : va_P (gD g) vwCl (wC g ad 4 (xNow σ)) H := hP.sub [4, 5, 6, 7, 8, 9, 10, 11, 12, 13, 14, 15, 16] rfl
  refine ro_long (va_runV (As := []) (rest := []) ⟨hx, hb, hml, hown, hts⟩ (h_X0_fitting g ad 4 (xNow σ) h8) (cwV 0 hts gX2_liars_X0_fitting rfl rfl rfl (by decide +kernel) ⟨Nat.le_of_ble_eq_true rfl, Nat.le_of_ble_eq_true rfl⟩) ⟨RO_blind, va_recv hK hP (ci := 0) (q0 := 4) rfl rfl, fun U hU hW => ⟨rfl, by rw [hU]; exact hPc, va_K.moved hW.alike hK, hE.call hW hU hS (fun _ h => h.elim)⟩⟩ rfl rfl hl.1 rfl (lv_room (Nat.le_of_ble_eq_true rfl)) dX2_liars_4 ⟨Nat.le_of_ble_eq_true rfl, Nat.le_of_ble_eq_true rfl⟩) hS hP (fun r H locs hw hP hS => ?_)
  subst r
  refine lv_lstore_n (lv' := [(1, .long (fittingL (xNow σ))), (0, .ref (ad 0))]) hx hb dX2_liars_7 rfl hl (by decide) rfl (fun ls hl => ?_)
  refine lv_iconst (v := 0) hx hb dX2_liars_8 (by decide) ?_
  refine lv_istore_n (lv' := [(3, .int 0), (1, .long (fittingL (xNow σ))), (0, .ref (ad 0))]) hx hb dX2_liars_9 rfl hl (by decide) rfl (fun ls hl => ?_)
  refine lv_iconst (v := 0) hx hb dX2_liars_10 (by decide) ?_
  refine lv_istore (lv' := [(4, .int 0), (3, .int 0), (1, .long (fittingL (xNow σ))), (0, .ref (ad 0))]) hx hb dX2_liars_11 hl (by decide) rfl (fun ls hl => ?_)
  exact hv H locs ls hP hS (lv_sub hl [3, 2, 1, 0] rfl)

set_option maxHeartbeats 4000000 in
set_option maxRecDepth 100000 in
theorem m_X2_clash (l : Launch) (h_X0_heardFitting : C_X0_heardFitting l) (g : CX) (ad : Nat → Nat) (σ : KX)  (Post : Int32 → Prop) (hv : vc_X2_clash σ Post) : Met l yX2_clash wsX2_clash { frames := 4, cells := 0, slots := 0, locals := 91 } (va_Pc [.ref (ad 0)] (RO g (wX g ad σ))) (va_Qi (fun r (_ : Unit) => Post r) (fun _ _ => True) A0) 0 0 A0 := by
  unfold vc_X2_clash at hv
  refine Met.ofW (cc := cX2_clash) (maxL := 3) (ret := (some .int)) (by decide) rfl ?_
  intro p e s m args below meth c s₁ B hml hv0
  obtain ⟨rfl, hP, hK, hE⟩ := hv0
  have hx := B.exec
  have hb := B.bytes
  have hr := B.returns
  have hts := atoms_spec (ws := wsX2_clash) B.pre
  have hown : s.vm.findClass RX2 = some m.cls := findClass_of_methodNamed B.named
  have hlocks := B.notSynchronized
  have hi0 : ∀ w ∈ wsX00, w ∈ wsX2_clash := by decide +kernel
  have hi2 : ∀ w ∈ wsX20, w ∈ wsX2_clash := by decide +kernel
  have k0 := hts (.fieldLink RX2 10 "JuryHearsAnswers" "now" "LJuryHearsAnswers$Court;") (by decide +kernel)
  have k1 := hts (.fieldLink RX2 112 "JuryHearsAnswers$Court" "heardLength" "I") (by decide +kernel)
  have hS : va_S A0 s.heap s.heap [] := va_S.rf
  have hP : va_P (gD g) vwCl (wX g ad σ) s.heap := hP
  have hl := lv_entry ([.ref (ad 0)]) (n := 3) (Nat.le_of_ble_eq_true rfl)
  rw [lg_entry_eq]
  generalize (lg_sl ([.ref (ad 0)]) ++ List.replicate (3 - (lg_sl ([.ref (ad 0)])).length) Slot.unset).toArray = ls at hl ⊢
  have hl : lv_has ls 3 [(0, .ref (ad 0))] := hl
  have hv := hv (fun (x1 : Int32) => ∀ (H : Heap) (locs : List Loc) (ls : Array Slot), va_P (gD g) vwCl (wX g ad σ) H → va_S A0 s.heap H locs → lv_has ls 3 [(0, .ref (ad 0)), (1, .int x1)] → W p l e { frames := 4, cells := 0, slots := 0, locals := 91 } s m ([.ref (ad 0)] : List Value).toArray below meth c H locs 0 0 (MQ below (va_Qi (fun r (_ : Unit) => Post r) (fun _ _ => True) A0) ([.ref (ad 0)] : List Value).toArray s 0 0 A0) (F0 m 2 ls []))
  have hv := hv (fun (x1 : Int32) (x2 : Int32) => ∀ (H : Heap) (locs : List Loc) (ls : Array Slot), va_P (gD g) vwCl (wX g ad σ) H → va_S A0 s.heap H locs → lv_has ls 3 [(0, .ref (ad 0)), (1, .int x1), (2, .int x2)] → W p l e { frames := 4, cells := 0, slots := 0, locals := 91 } s m ([.ref (ad 0)] : List Value).toArray below meth c H locs 0 0 (MQ below (va_Qi (fun r (_ : Unit) => Post r) (fun _ _ => True) A0) ([.ref (ad 0)] : List Value).toArray s 0 0 A0) (F0 m 17 ls []))
  have hv := hv (by
    intro x1 hv H locs ls hP hS hl
    refine lv_iload_n hx hb dX2_clash_2 rfl (lv_at hl 1 rfl) ?_
    refine lv_aload_n hx hb dX2_clash_3 rfl (lv_at hl 0 rfl) ?_
    refine va_get (D := gD g) (ci := 2) (v := .ref (ad 4)) (C := RX2) (T := TX2) (N := 9) hx hb hts hi2 hown hK hP 0 rfl rfl 0 (by decide) k0 (fun _ h9 => h9) rfl dX2_clash_4 ?_
    refine va_get (D := gD g) (ci := 0) (v := .int (sNh (cS (xNow σ)))) (C := RX0) (T := TX0) (N := 17) hx hb hts hi0 hown hK hP 4 rfl rfl 4 (by decide) k1 (fun _ h9 => h9) rfl dX2_clash_7 ?_
    refine lv_icmp_ge (tgt := 69) hx hb dX2_clash_10 (by decide) (fun c10 => ?_) (fun c10 => ?_)
    · have hv := hv.1 c10
      refine lv_bipush (v := (-9)) hx hb dX2_clash_69 (by decide) ?_
      exact W.iret (v := (-9)) hx hb hr (fun t ht hW => ⟨⟨(-9), (), rfl, hv, trivial⟩, hS.F ht⟩) hS.2.2 dX2_clash_71
    · have hv := hv.2 c10
      refine lv_iload_n hx hb dX2_clash_13 rfl (lv_at hl 1 rfl) ?_
      refine lv_iconst (v := 1) hx hb dX2_clash_14 (by decide) ?_
      refine lv_iadd hx hb dX2_clash_15 ?_
      refine lv_istore_n (lv' := [(2, .int (x1 + 1)), (0, .ref (ad 0)), (1, .int x1)]) hx hb dX2_clash_16 rfl hl (by decide) rfl (fun ls hl => ?_)
      exact hv H locs ls hP hS (lv_sub hl [1, 2, 0] rfl))
  have hv := hv (by
    intro x1 x2 hv H locs ls hP hS hl
    refine lv_iload_n hx hb dX2_clash_17 rfl (lv_at hl 2 rfl) ?_
    refine lv_aload_n hx hb dX2_clash_18 rfl (lv_at hl 0 rfl) ?_
    refine va_get (D := gD g) (ci := 2) (v := .ref (ad 4)) (C := RX2) (T := TX2) (N := 9) hx hb hts hi2 hown hK hP 0 rfl rfl 0 (by decide) k0 (fun _ h9 => h9) rfl dX2_clash_19 ?_
    refine va_get (D := gD g) (ci := 0) (v := .int (sNh (cS (xNow σ)))) (C := RX0) (T := TX0) (N := 17) hx hb hts hi0 hown hK hP 4 rfl rfl 4 (by decide) k1 (fun _ h9 => h9) rfl dX2_clash_22 ?_
    refine lv_icmp_ge (tgt := 63) hx hb dX2_clash_25 (by decide) (fun c25 => ?_) (fun c25 => ?_)
    · have hv := hv.1 c25
      refine lv_iinc (v := (x1 + 1)) (lv' := [(1, .int (x1 + 1)), (0, .ref (ad 0)), (2, .int x2)]) hx hb dX2_clash_63 hl (k := 1) rfl (by first | rfl | exact congrArg _ (by decide)) (by decide) rfl (fun ls hl => ?_)
      refine lv_goto (tgt := 2) hx hb dX2_clash_66 (by decide) ?_
      exact hv H locs ls hP hS (lv_sub hl [1, 0] rfl)
    · have hv := hv.2 c25
      refine lv_aload_n hx hb dX2_clash_28 rfl (lv_at hl 0 rfl) ?_
      refine va_get (D := gD g) (ci := 2) (v := .ref (ad 4)) (C := RX2) (T := TX2) (N := 9) hx hb hts hi2 hown hK hP 0 rfl rfl 0 (by decide) k0 (fun _ h9 => h9) rfl dX2_clash_29 ?_
      refine lv_iload_n hx hb dX2_clash_32 rfl (lv_at hl 1 rfl) ?_
      have h8 := hv.1
      have hv := hv.2
      have hPc : va_P (gD g) vwCl (wC g ad 4 (xNow σ)) H := hP.sub [4, 5, 6, 7, 8, 9, 10, 11, 12, 13, 14, 15, 16] rfl
      refine ro_long (va_runV (As := [.int x1]) (rest := []) ⟨hx, hb, hml, hown, hts⟩ (h_X0_heardFitting g ad 4 (xNow σ) x1 h8) (cwV 1 hts gX2_clash_X0_heardFitting rfl rfl rfl (by decide +kernel) ⟨Nat.le_of_ble_eq_true rfl, Nat.le_of_ble_eq_true rfl⟩) ⟨RO_blind, va_recv hK hP (ci := 0) (q0 := 4) rfl rfl, fun U hU hW => ⟨rfl, by rw [hU]; exact hPc, va_K.moved hW.alike hK, hE.call hW hU hS (fun _ h => h.elim)⟩⟩ rfl rfl hl.1 rfl (lv_room (Nat.le_of_ble_eq_true rfl)) dX2_clash_33 ⟨Nat.le_of_ble_eq_true rfl, Nat.le_of_ble_eq_true rfl⟩) hS hP (fun r H locs hw hP hS => ?_)
      subst r
      refine lv_aload_n hx hb dX2_clash_36 rfl (lv_at hl 0 rfl) ?_
      refine va_get (D := gD g) (ci := 2) (v := .ref (ad 4)) (C := RX2) (T := TX2) (N := 9) hx hb hts hi2 hown hK hP 0 rfl rfl 0 (by decide) k0 (fun _ h9 => h9) rfl dX2_clash_37 ?_
      refine lv_iload_n hx hb dX2_clash_40 rfl (lv_at hl 2 rfl) ?_
      have h8 := hv.1
      have hv := hv.2
      have hPc : va_P (gD g) vwCl (wC g ad 4 (xNow σ)) H := hP.sub [4, 5, 6, 7, 8, 9, 10, 11, 12, 13, 14, 15, 16] rfl
      refine ro_long (va_runV (As := [.int x2]) (rest := [.long (heardFittingL (xNow σ) x1)]) ⟨hx, hb, hml, hown, hts⟩ (h_X0_heardFitting g ad 4 (xNow σ) x2 h8) (cwV 1 hts gX2_clash_X0_heardFitting rfl rfl rfl (by decide +kernel) ⟨Nat.le_of_ble_eq_true rfl, Nat.le_of_ble_eq_true rfl⟩) ⟨RO_blind, va_recv hK hP (ci := 0) (q0 := 4) rfl rfl, fun U hU hW => ⟨rfl, by rw [hU]; exact hPc, va_K.moved hW.alike hK, hE.call hW hU hS (fun _ h => h.elim)⟩⟩ rfl rfl hl.1 rfl (lv_room (Nat.le_of_ble_eq_true rfl)) dX2_clash_41 ⟨Nat.le_of_ble_eq_true rfl, Nat.le_of_ble_eq_true rfl⟩) hS hP (fun r H locs hw hP hS => ?_)
      subst r
      refine lv_land hx hb dX2_clash_44 ?_
      refine lv_lconst (v := 0) hx hb dX2_clash_45 (by decide) ?_
      refine W.lcmp hx hb dX2_clash_46 ?_
      refine lv_if_ne (tgt := 57) hx hb dX2_clash_47 (by decide) (fun c47 => ?_) (fun c47 => ?_)
      · have hv := hv.1 c47
        refine lv_iinc (v := (x2 + 1)) (lv' := [(2, .int (x2 + 1)), (0, .ref (ad 0)), (1, .int x1)]) hx hb dX2_clash_57 hl (k := 2) rfl (by first | rfl | exact congrArg _ (by decide)) (by decide) rfl (fun ls hl => ?_)
        refine lv_goto (tgt := 17) hx hb dX2_clash_60 (by decide) ?_
        exact hv H locs ls hP hS (lv_sub hl [1, 2, 0] rfl)
      · have hv := hv.2 c47
        refine lv_bipush (v := 100) hx hb dX2_clash_50 (by decide) ?_
        refine lv_iload_n hx hb dX2_clash_52 rfl (lv_at hl 1 rfl) ?_
        refine lv_imul hx hb dX2_clash_53 ?_
        refine lv_iload_n hx hb dX2_clash_54 rfl (lv_at hl 2 rfl) ?_
        refine lv_iadd hx hb dX2_clash_55 ?_
        exact W.iret (v := ((100 * x1) + x2)) hx hb hr (fun t ht hW => ⟨⟨((100 * x1) + x2), (), rfl, hv, trivial⟩, hS.F ht⟩) hS.2.2 dX2_clash_56)
  obtain ⟨H, hH⟩ : ∃ z, z = s.heap := ⟨_, rfl⟩
  obtain ⟨locs, hL⟩ : ∃ z : List Loc, z = [] := ⟨_, rfl⟩
  rw [← hL] at hS ⊢
  have hS : va_S A0 s.heap H locs := by rw [hH]; exact hS
  rw [← hH] at hP ⊢
  clear hH hL
  refine lv_iconst (v := 0) hx hb dX2_clash_0 (by decide) ?_
  refine lv_istore_n (lv' := [(1, .int 0), (0, .ref (ad 0))]) hx hb dX2_clash_1 rfl hl (by decide) rfl (fun ls hl => ?_)
  exact hv H locs ls hP hS (lv_sub hl [1, 0] rfl)

