set_option maxHeartbeats 4000000 in
set_option maxRecDepth 100000 in
theorem m_X2_settling (l : Launch) (h_X0_fitting : C_X0_fitting l) (h_X2_fillKept : C_X2_fillKept l) (h_X2_isSure : C_X2_isSure l) (h_X2_waysSure_4 : C_X2_waysSure_4 l) (g : CX) (ad : Nat → Nat) (σ : KX) (p0 : Int32) (p1 : Int64) (p2 : Int32) (Post : Int32 → KX → Prop) (hv : vc_X2_settling σ p0 p1 p2 Post) : Met l yX2_settling wsX2_settling { frames := 6, cells := 0, slots := 0, locals := 180 } (va_Pc [.ref (ad 0), .int p0, .long p1, .int p2] (RW g (AD ad 0 45) (wX g ad σ))) (va_Qi (fun (r : Int32) (u : KX) => Post r u) (fun u t => va_P (gD g) vwCl (wX g ad u) t.heap) (AD ad 0 45)) 0 0 (AD ad 0 45) := by
  unfold vc_X2_settling at hv
  refine Met.ofW (cc := cX2_settling) (maxL := 11) (ret := (some .int)) (by decide) rfl ?_
  intro p e s m args below meth c s₁ B hml hv0
  obtain ⟨rfl, hP, hK, hE, hD⟩ := hv0
  have hx := B.exec
  have hb := B.bytes
  have hr := B.returns
  have hts := atoms_spec (ws := wsX2_settling) B.pre
  have hown : s.vm.findClass RX2 = some m.cls := findClass_of_methodNamed B.named
  have hlocks := B.notSynchronized
  have hi0 : ∀ w ∈ wsX00, w ∈ wsX2_settling := by decide +kernel
  have hi2 : ∀ w ∈ wsX20, w ∈ wsX2_settling := by decide +kernel
  have k0 := hts (.fieldLink RX2 10 "JuryHearsAnswers" "now" "LJuryHearsAnswers$Court;") (by decide +kernel)
  have k1 := hts (.fieldLink RX2 179 "JuryHearsAnswers$Court" "questions" "I") (by decide +kernel)
  have k2 := hts (.fieldLink RX2 36 "JuryHearsAnswers" "kept" "[J") (by decide +kernel)
  have hS : va_S (AD ad 0 45) s.heap s.heap [] := va_S.rf
  have hP : va_P (gD g) vwCl (wX g ad σ) s.heap := hP
  have hl := lv_entry ([.ref (ad 0), .int p0, .long p1, .int p2]) (n := 11) (Nat.le_of_ble_eq_true rfl)
  rw [lg_entry_eq]
  generalize (lg_sl ([.ref (ad 0), .int p0, .long p1, .int p2]) ++ List.replicate (11 - (lg_sl ([.ref (ad 0), .int p0, .long p1, .int p2])).length) Slot.unset).toArray = ls at hl ⊢
  have hl : lv_has ls 11 [(0, .ref (ad 0)), (1, .int p0), (2, .long p1), (4, .int p2)] := hl
  have hv := hv (fun (x5 : Int64) (x7 : Int32) (s_kept : FL) => ∀ (H : Heap) (locs : List Loc) (ls : Array Slot), va_P (gD g) vwCl (wX g ad ((xNow σ), (xTaken σ), (xTrial σ), (xScr σ), (xRow σ), (xRefus σ), s_kept, (xRowLen σ), (xIsTaken σ))) H → va_D (AD ad 0 45) (wX g ad ((xNow σ), (xTaken σ), (xTrial σ), (xScr σ), (xRow σ), (xRefus σ), s_kept, (xRowLen σ), (xIsTaken σ))) → va_S (AD ad 0 45) s.heap H locs → lv_has ls 11 [(0, .ref (ad 0)), (2, .long p1), (4, .int p2), (5, .long x5), (7, .int x7)] → W p l e { frames := 6, cells := 0, slots := 0, locals := 180 } s m ([.ref (ad 0), .int p0, .long p1, .int p2] : List Value).toArray below meth c H locs 0 0 (MQ below (va_Qi (fun (r : Int32) (u : KX) => Post r u) (fun u t => va_P (gD g) vwCl (wX g ad u) t.heap) (AD ad 0 45)) ([.ref (ad 0), .int p0, .long p1, .int p2] : List Value).toArray s 0 0 (AD ad 0 45)) (F0 m 38 ls []))
  have hv := hv (fun (x5 : Int64) (x7 : Int32) (x8 : Int32) (s_kept : FL) => ∀ (H : Heap) (locs : List Loc) (ls : Array Slot), va_P (gD g) vwCl (wX g ad ((xNow σ), (xTaken σ), (xTrial σ), (xScr σ), (xRow σ), (xRefus σ), s_kept, (xRowLen σ), (xIsTaken σ))) H → va_D (AD ad 0 45) (wX g ad ((xNow σ), (xTaken σ), (xTrial σ), (xScr σ), (xRow σ), (xRefus σ), s_kept, (xRowLen σ), (xIsTaken σ))) → va_S (AD ad 0 45) s.heap H locs → lv_has ls 11 [(0, .ref (ad 0)), (2, .long p1), (4, .int p2), (5, .long x5), (7, .int x7), (8, .int x8)] → W p l e { frames := 6, cells := 0, slots := 0, locals := 180 } s m ([.ref (ad 0), .int p0, .long p1, .int p2] : List Value).toArray below meth c H locs 0 0 (MQ below (va_Qi (fun (r : Int32) (u : KX) => Post r u) (fun u t => va_P (gD g) vwCl (wX g ad u) t.heap) (AD ad 0 45)) ([.ref (ad 0), .int p0, .long p1, .int p2] : List Value).toArray s 0 0 (AD ad 0 45)) (F0 m 47 ls []))
  have hv := hv (by
    intro x5 x7 s_kept hv H locs ls hP hD hS hl
    refine lv_iload hx hb dX2_settling_38 (lv_at hl 4 rfl) ?_
    refine lv_iconst (v := 3) hx hb dX2_settling_40 (by decide) ?_
    refine lv_icmp_gt (tgt := 119) hx hb dX2_settling_41 (by decide) (fun c41 => ?_) (fun c41 => ?_)
    · have hv := hv.1 c41
      refine lv_bipush (v := (-9)) hx hb dX2_settling_119 (by decide) ?_
      exact W.iret (v := (-9)) hx hb hr (fun t ht hW => ⟨⟨(-9), ((xNow σ), (xTaken σ), (xTrial σ), (xScr σ), (xRow σ), (xRefus σ), s_kept, (xRowLen σ), (xIsTaken σ)), rfl, hv, P_at ht hP⟩, hS.F ht⟩) hS.2.2 dX2_settling_121
    · have hv := hv.2 c41
      refine lv_iconst (v := 0) hx hb dX2_settling_44 (by decide) ?_
      refine lv_istore (lv' := [(8, .int 0), (0, .ref (ad 0)), (2, .long p1), (4, .int p2), (5, .long x5), (7, .int x7)]) hx hb dX2_settling_45 hl (by decide) rfl (fun ls hl => ?_)
      exact hv H locs ls hP hD hS (lv_sub hl [1, 2, 3, 4, 5, 0] rfl))
  have hv := hv (by
    intro x5 x7 x8 s_kept hv H locs ls hP hD hS hl
    refine lv_iload hx hb dX2_settling_47 (lv_at hl 5 rfl) ?_
    refine lv_aload_n hx hb dX2_settling_49 rfl (lv_at hl 0 rfl) ?_
    refine va_get (D := gD g) (ci := 2) (v := .ref (ad 4)) (C := RX2) (T := TX2) (N := 9) hx hb hts hi2 hown hK hP 0 rfl rfl 0 (by decide) k0 (fun _ h9 => h9) rfl dX2_settling_50 ?_
    refine va_get (D := gD g) (ci := 0) (v := .int (sNq (cS (xNow σ)))) (C := RX0) (T := TX0) (N := 17) hx hb hts hi0 hown hK hP 4 rfl rfl 2 (by decide) k1 (fun _ h9 => h9) rfl dX2_settling_53 ?_
    refine lv_icmp_ge (tgt := 113) hx hb dX2_settling_56 (by decide) (fun c56 => ?_) (fun c56 => ?_)
    · have hv := hv.1 c56
      refine lv_iinc (v := (x7 + 1)) (lv' := [(7, .int (x7 + 1)), (0, .ref (ad 0)), (2, .long p1), (4, .int p2), (5, .long x5), (8, .int x8)]) hx hb dX2_settling_113 hl (k := 4) rfl (by first | rfl | exact congrArg _ (by decide)) (by decide) rfl (fun ls hl => ?_)
      refine lv_goto (tgt := 38) hx hb dX2_settling_116 (by decide) ?_
      exact hv H locs ls hP hD hS (lv_sub hl [1, 2, 3, 4, 0] rfl)
    · have hv := hv.2 c56
      refine lv_lload hx hb dX2_settling_59 (lv_at hl 3 rfl) ?_
      refine lv_aload_n hx hb dX2_settling_61 rfl (lv_at hl 0 rfl) ?_
      refine va_get (D := gD g) (ci := 2) (v := .ref (ad 3)) (C := RX2) (T := TX2) (N := 9) hx hb hts hi2 hown hK hP 0 rfl rfl 6 (by decide) k2 (fun _ h9 => h9) rfl dX2_settling_62 ?_
      refine lv_iload hx hb dX2_settling_65 (lv_at hl 5 rfl) ?_
      have h9 := hv.1
      have hv := hv.2
      refine va_lald (f := s_kept) (n := 32) hx hb hK hP 3 1 rfl rfl h9 dX2_settling_67 ?_
      refine lv_land hx hb dX2_settling_68 ?_
      refine lv_lstore (lv' := [(9, .long (x5 &&& (s_kept (x8).toNatClampNeg))), (0, .ref (ad 0)), (2, .long p1), (4, .int p2), (5, .long x5), (7, .int x7), (8, .int x8)]) hx hb dX2_settling_69 hl (by decide) rfl (fun ls hl => ?_)
      refine lv_aload_n hx hb dX2_settling_71 rfl (lv_at hl 1 rfl) ?_
      refine va_get (D := gD g) (ci := 2) (v := .ref (ad 3)) (C := RX2) (T := TX2) (N := 9) hx hb hts hi2 hown hK hP 0 rfl rfl 6 (by decide) k2 (fun _ h9 => h9) rfl dX2_settling_72 ?_
      refine lv_aload_n hx hb dX2_settling_75 rfl (lv_at hl 1 rfl) ?_
      refine va_get (D := gD g) (ci := 2) (v := .ref (ad 4)) (C := RX2) (T := TX2) (N := 9) hx hb hts hi2 hown hK hP 0 rfl rfl 0 (by decide) k0 (fun _ h9 => h9) rfl dX2_settling_76 ?_
      refine va_get (D := gD g) (ci := 0) (v := .int (sNq (cS (xNow σ)))) (C := RX0) (T := TX0) (N := 17) hx hb hts hi0 hown hK hP 4 rfl rfl 2 (by decide) k1 (fun _ h9 => h9) rfl dX2_settling_79 ?_
      refine lv_lload hx hb dX2_settling_82 (lv_at hl 0 rfl) ?_
      refine lv_lload_n hx hb dX2_settling_84 rfl (lv_at hl 2 rfl) ?_
      refine lv_iconst (v := 1) hx hb dX2_settling_85 (by decide) ?_
      refine lv_iload hx hb dX2_settling_86 (lv_at hl 5 rfl) ?_
      have h8 := hv.1
      have hv := hv.2
      have hPc : va_P (gD g) vwCl (wL g ad 3 s_kept) H := hP.sub [3] rfl
      refine ro_int (va_runS (As := [.ref (ad 3), .int (sNq (cS (xNow σ))), .long (x5 &&& (s_kept (x8).toNatClampNeg)), .long p1, .int 1, .int x7]) (rest := []) ⟨hx, hb, hml, hown, hts⟩ (h_X2_waysSure_4 g ad 3 s_kept (sNq (cS (xNow σ))) (x5 &&& (s_kept (x8).toNatClampNeg)) p1 1 x7 h8) (va_cwS 6 hts gX2_settling_X2_waysSure rfl rfl rfl (by decide +kernel) ⟨Nat.le_of_ble_eq_true rfl, Nat.le_of_ble_eq_true rfl⟩) ⟨RO_blind, fun U hU hW => ⟨rfl, by rw [hU]; exact hPc, va_K.moved hW.alike hK, hE.call hW hU hS (fun _ h => h.elim)⟩⟩ rfl rfl hl.1 rfl (lv_room (Nat.le_of_ble_eq_true rfl)) dX2_settling_88 ⟨Nat.le_of_ble_eq_true rfl, Nat.le_of_ble_eq_true rfl⟩) hS hP (fun r H locs hw hP hS => ?_)
      subst r
      refine lv_if_le (tgt := 107) hx hb dX2_settling_91 (by decide) (fun c91 => ?_) (fun c91 => ?_)
      · have hv := hv.1 c91
        refine lv_iinc (v := (x8 + 1)) (lv' := [(8, .int (x8 + 1)), (9, .long (x5 &&& (s_kept (x8).toNatClampNeg))), (0, .ref (ad 0)), (2, .long p1), (4, .int p2), (5, .long x5), (7, .int x7)]) hx hb dX2_settling_107 hl (k := 6) rfl (by first | rfl | exact congrArg _ (by decide)) (by decide) rfl (fun ls hl => ?_)
        refine lv_goto (tgt := 47) hx hb dX2_settling_110 (by decide) ?_
        exact hv H locs ls hP hD hS (lv_sub hl [2, 3, 4, 5, 6, 0] rfl)
      · have hv := hv.2 c91
        refine lv_iload hx hb dX2_settling_94 (lv_at hl 3 rfl) ?_
        refine lv_if_ne (tgt := 104) hx hb dX2_settling_96 (by decide) (fun c96 => ?_) (fun c96 => ?_)
        · have hv := hv.1 c96
          refine lv_iload hx hb dX2_settling_104 (lv_at hl 6 rfl) ?_
          exact W.iret (v := x8) hx hb hr (fun t ht hW => ⟨⟨x8, ((xNow σ), (xTaken σ), (xTrial σ), (xScr σ), (xRow σ), (xRefus σ), s_kept, (xRowLen σ), (xIsTaken σ)), rfl, hv, P_at ht hP⟩, hS.F ht⟩) hS.2.2 dX2_settling_106
        · have hv := hv.2 c96
          refine lv_iload hx hb dX2_settling_99 (lv_at hl 5 rfl) ?_
          refine lv_goto (tgt := 106) hx hb dX2_settling_101 (by decide) ?_
          exact W.iret (v := x7) hx hb hr (fun t ht hW => ⟨⟨x7, ((xNow σ), (xTaken σ), (xTrial σ), (xScr σ), (xRow σ), (xRefus σ), s_kept, (xRowLen σ), (xIsTaken σ)), rfl, hv, P_at ht hP⟩, hS.F ht⟩) hS.2.2 dX2_settling_106)
  obtain ⟨H, hH⟩ : ∃ z, z = s.heap := ⟨_, rfl⟩
  obtain ⟨locs, hL⟩ : ∃ z : List Loc, z = [] := ⟨_, rfl⟩
  rw [← hL] at hS ⊢
  have hS : va_S (AD ad 0 45) s.heap H locs := by rw [hH]; exact hS
  rw [← hH] at hP ⊢
  clear hH hL
  refine lv_aload_n hx hb dX2_settling_0 rfl (lv_at hl 0 rfl) ?_
  refine va_get (D := gD g) (ci := 2) (v := .ref (ad 4)) (C := RX2) (T := TX2) (N := 9) hx hb hts hi2 hown hK hP 0 rfl rfl 0 (by decide) k0 (fun _ h9 => h9) rfl dX2_settling_1 ?_
  have h8 := hv.1
  have hv := hv.2
  have hPc : va_P (gD g) vwCl (wC g ad 4 (xNow σ)) H := hP.sub [4, 5, 6, 7, 8, 9, 10, 11, 12, 13, 14, 15, 16] rfl
  refine ro_long (va_runV (As := []) (rest := []) ⟨hx, hb, hml, hown, hts⟩ (h_X0_fitting g ad 4 (xNow σ) h8) (cwV 0 hts gX2_settling_X0_fitting rfl rfl rfl (by decide +kernel) ⟨Nat.le_of_ble_eq_true rfl, Nat.le_of_ble_eq_true rfl⟩) ⟨RO_blind, va_recv hK hP (ci := 0) (q0 := 4) rfl rfl, fun U hU hW => ⟨rfl, by rw [hU]; exact hPc, va_K.moved hW.alike hK, hE.call hW hU hS (fun _ h => h.elim)⟩⟩ rfl rfl hl.1 rfl (lv_room (Nat.le_of_ble_eq_true rfl)) dX2_settling_4 ⟨Nat.le_of_ble_eq_true rfl, Nat.le_of_ble_eq_true rfl⟩) hS hP (fun r H locs hw hP hS => ?_)
  subst r
  refine lv_lstore (lv' := [(5, .long (fittingL (xNow σ))), (0, .ref (ad 0)), (1, .int p0), (2, .long p1), (4, .int p2)]) hx hb dX2_settling_7 hl (by decide) rfl (fun ls hl => ?_)
  refine lv_lload hx hb dX2_settling_9 (lv_at hl 0 rfl) ?_
  refine lv_lload_n hx hb dX2_settling_11 rfl (lv_at hl 3 rfl) ?_
  have hPc : va_P (gD g) vwCl [] H := fun k q h => by simp at h
  refine ro_int (va_runS (As := [.long (fittingL (xNow σ)), .long p1]) (rest := []) ⟨hx, hb, hml, hown, hts⟩ (h_X2_isSure g (fittingL (xNow σ)) p1) (va_cwS 2 hts gX2_settling_X2_isSure rfl rfl rfl (by decide +kernel) ⟨Nat.le_of_ble_eq_true rfl, Nat.le_of_ble_eq_true rfl⟩) ⟨RO_blind, fun U hU hW => ⟨rfl, by rw [hU]; exact hPc, va_K.moved hW.alike hK, hE.call hW hU hS (fun _ h => h.elim)⟩⟩ rfl rfl hl.1 rfl (lv_room (Nat.le_of_ble_eq_true rfl)) dX2_settling_12 ⟨Nat.le_of_ble_eq_true rfl, Nat.le_of_ble_eq_true rfl⟩) hS hP (fun r H locs hw hP hS => ?_)
  subst r
  refine lv_if_eq (tgt := 30) hx hb dX2_settling_15 (by decide) (fun c15 => ?_) (fun c15 => ?_)
  · have hv := hv.1 c15
    refine lv_aload_n hx hb dX2_settling_30 rfl (lv_at hl 1 rfl) ?_
    refine lv_iload_n hx hb dX2_settling_31 rfl (lv_at hl 2 rfl) ?_
    have h8 := hv.1
    have hv := hv.2
    have hPc := hP
    have hDc := hD
    refine rw_void (va_runV (As := [.int p0]) (rest := []) ⟨hx, hb, hml, hown, hts⟩ (h_X2_fillKept g ad σ p0 h8) (cwV 1 hts gX2_settling_X2_fillKept rfl rfl rfl (by decide +kernel) ⟨Nat.le_of_ble_eq_true rfl, Nat.le_of_ble_eq_true rfl⟩) ⟨RW_blind, va_recv hK hP (ci := 2) (q0 := 0) rfl rfl, fun U hU hW => ⟨rfl, by rw [hU]; exact hPc, va_K.moved hW.alike hK, hE.call hW hU hS (fun _ h => h), hDc⟩⟩ rfl rfl hl.1 rfl (lv_room (Nat.le_of_ble_eq_true rfl)) dX2_settling_32 ⟨Nat.le_of_ble_eq_true rfl, Nat.le_of_ble_eq_true rfl⟩) hS (fun _ h => h) (fun u H1 locs hw hP1 hk hS => ?_)
    subst u
    have hP := hP1
    generalize H1 = H at hP hS ⊢
    have hP : va_P (gD g) vwCl (wX g ad ((xNow σ), (xTaken σ), (xTrial σ), (xScr σ), (xRow σ), (xRefus σ), (keptX (xNow σ) p0 (xKept σ)), (xRowLen σ), (xIsTaken σ))) H := hP
    have hD : va_D (AD ad 0 45) (wX g ad ((xNow σ), (xTaken σ), (xTrial σ), (xScr σ), (xRow σ), (xRefus σ), (keptX (xNow σ) p0 (xKept σ)), (xRowLen σ), (xIsTaken σ))) := hD.addr (by rfl)
    refine lv_iconst (v := 1) hx hb dX2_settling_35 (by decide) ?_
    refine lv_istore (lv' := [(7, .int 1), (5, .long (fittingL (xNow σ))), (0, .ref (ad 0)), (1, .int p0), (2, .long p1), (4, .int p2)]) hx hb dX2_settling_36 hl (by decide) rfl (fun ls hl => ?_)
    exact hv H locs ls hP hD hS (lv_sub hl [2, 4, 5, 1, 0] rfl)
  · have hv := hv.2 c15
    refine lv_iload hx hb dX2_settling_18 (lv_at hl 4 rfl) ?_
    refine lv_if_ne (tgt := 27) hx hb dX2_settling_20 (by decide) (fun c20 => ?_) (fun c20 => ?_)
    · have hv := hv.1 c20
      refine lv_bipush (v := (-9)) hx hb dX2_settling_27 (by decide) ?_
      exact W.iret (v := (-9)) hx hb hr (fun t ht hW => ⟨⟨(-9), σ, rfl, hv, P_at ht hP⟩, hS.F ht⟩) hS.2.2 dX2_settling_29
    · have hv := hv.2 c20
      refine lv_iconst (v := 0) hx hb dX2_settling_23 (by decide) ?_
      refine lv_goto (tgt := 29) hx hb dX2_settling_24 (by decide) ?_
      exact W.iret (v := 0) hx hb hr (fun t ht hW => ⟨⟨0, σ, rfl, hv, P_at ht hP⟩, hS.F ht⟩) hS.2.2 dX2_settling_29

set_option maxHeartbeats 4000000 in
set_option maxRecDepth 100000 in
theorem m_X2_isHidden (l : Launch) (h_X0_reply : C_X0_reply l) (g : CX) (ad : Nat → Nat) (σ : KX) (p0 : Int32) (Post : Int32 → Prop) (hv : vc_X2_isHidden σ p0 Post) : Met l yX2_isHidden wsX2_isHidden { frames := 3, cells := 0, slots := 0, locals := 70 } (va_Pc [.ref (ad 0), .int p0] (RO g (wX g ad σ))) (va_Qi (fun r (_ : Unit) => Post r) (fun _ _ => True) A0) 0 0 A0 := by
  unfold vc_X2_isHidden at hv
  refine Met.ofW (cc := cX2_isHidden) (maxL := 3) (ret := (some .boolean)) (by decide) rfl ?_
  intro p e s m args below meth c s₁ B hml hv0
  obtain ⟨rfl, hP, hK, hE⟩ := hv0
  have hx := B.exec
  have hb := B.bytes
  have hr := B.returns
  have hts := atoms_spec (ws := wsX2_isHidden) B.pre
  have hown : s.vm.findClass RX2 = some m.cls := findClass_of_methodNamed B.named
  have hlocks := B.notSynchronized
  have hi0 : ∀ w ∈ wsX00, w ∈ wsX2_isHidden := by decide +kernel
  have hi2 : ∀ w ∈ wsX20, w ∈ wsX2_isHidden := by decide +kernel
  have k0 := hts (.fieldLink RX2 10 "JuryHearsAnswers" "now" "LJuryHearsAnswers$Court;") (by decide +kernel)
  have k1 := hts (.fieldLink RX2 152 "JuryHearsAnswers$Court" "witnesses" "I") (by decide +kernel)
  have k2 := hts (.fieldLink RX2 90 "JuryHearsAnswers$Court" "asked" "I") (by decide +kernel)
  have k3 := hts (.fieldLink RX2 60 "JuryHearsAnswers$Court" "caseNow" "I") (by decide +kernel)
  have hS : va_S A0 s.heap s.heap [] := va_S.rf
  have hP : va_P (gD g) vwCl (wX g ad σ) s.heap := hP
  have hl := lv_entry ([.ref (ad 0), .int p0]) (n := 3) (Nat.le_of_ble_eq_true rfl)
  rw [lg_entry_eq]
  generalize (lg_sl ([.ref (ad 0), .int p0]) ++ List.replicate (3 - (lg_sl ([.ref (ad 0), .int p0])).length) Slot.unset).toArray = ls at hl ⊢
  have hl : lv_has ls 3 [(0, .ref (ad 0)), (1, .int p0)] := hl
  have hv := hv (fun (x2 : Int32) => ∀ (H : Heap) (locs : List Loc) (ls : Array Slot), va_P (gD g) vwCl (wX g ad σ) H → va_S A0 s.heap H locs → lv_has ls 3 [(0, .ref (ad 0)), (1, .int p0), (2, .int x2)] → W p l e { frames := 3, cells := 0, slots := 0, locals := 70 } s m ([.ref (ad 0), .int p0] : List Value).toArray below meth c H locs 0 0 (MQ below (va_Qi (fun r (_ : Unit) => Post r) (fun _ _ => True) A0) ([.ref (ad 0), .int p0] : List Value).toArray s 0 0 A0) (F0 m 2 ls []))
  have hv := hv (by
    intro x2 hv H locs ls hP hS hl
    refine lv_iload_n hx hb dX2_isHidden_2 rfl (lv_at hl 2 rfl) ?_
    refine lv_aload_n hx hb dX2_isHidden_3 rfl (lv_at hl 0 rfl) ?_
    refine va_get (D := gD g) (ci := 2) (v := .ref (ad 4)) (C := RX2) (T := TX2) (N := 9) hx hb hts hi2 hown hK hP 0 rfl rfl 0 (by decide) k0 (fun _ h9 => h9) rfl dX2_isHidden_4 ?_
    refine va_get (D := gD g) (ci := 0) (v := .int (sNw (cS (xNow σ)))) (C := RX0) (T := TX0) (N := 17) hx hb hts hi0 hown hK hP 4 rfl rfl 3 (by decide) k1 (fun _ h9 => h9) rfl dX2_isHidden_7 ?_
    refine lv_icmp_ge (tgt := 50) hx hb dX2_isHidden_10 (by decide) (fun c10 => ?_) (fun c10 => ?_)
    · have hv := hv.1 c10
      refine lv_iconst (v := 1) hx hb dX2_isHidden_50 (by decide) ?_
      exact W.zret (v := 1) hx hb hr rfl (fun t ht hW => ⟨⟨1, (), rfl, hv, trivial⟩, hS.F ht⟩) hS.2.2 dX2_isHidden_51
    · have hv := hv.2 c10
      refine lv_aload_n hx hb dX2_isHidden_13 rfl (lv_at hl 0 rfl) ?_
      refine va_get (D := gD g) (ci := 2) (v := .ref (ad 4)) (C := RX2) (T := TX2) (N := 9) hx hb hts hi2 hown hK hP 0 rfl rfl 0 (by decide) k0 (fun _ h9 => h9) rfl dX2_isHidden_14 ?_
      refine lv_iload_n hx hb dX2_isHidden_17 rfl (lv_at hl 2 rfl) ?_
      refine lv_iload_n hx hb dX2_isHidden_18 rfl (lv_at hl 1 rfl) ?_
      refine lv_aload_n hx hb dX2_isHidden_19 rfl (lv_at hl 0 rfl) ?_
      refine va_get (D := gD g) (ci := 2) (v := .ref (ad 4)) (C := RX2) (T := TX2) (N := 9) hx hb hts hi2 hown hK hP 0 rfl rfl 0 (by decide) k0 (fun _ h9 => h9) rfl dX2_isHidden_20 ?_
      refine va_get (D := gD g) (ci := 0) (v := .int (sAsked (cS (xNow σ)))) (C := RX0) (T := TX0) (N := 17) hx hb hts hi0 hown hK hP 4 rfl rfl 1 (by decide) k2 (fun _ h9 => h9) rfl dX2_isHidden_23 ?_
      refine lv_iconst (v := 1) hx hb dX2_isHidden_26 (by decide) ?_
      refine lv_iadd hx hb dX2_isHidden_27 ?_
      refine lv_aload_n hx hb dX2_isHidden_28 rfl (lv_at hl 0 rfl) ?_
      refine va_get (D := gD g) (ci := 2) (v := .ref (ad 4)) (C := RX2) (T := TX2) (N := 9) hx hb hts hi2 hown hK hP 0 rfl rfl 0 (by decide) k0 (fun _ h9 => h9) rfl dX2_isHidden_29 ?_
      refine va_get (D := gD g) (ci := 0) (v := .int (sCase (cS (xNow σ)))) (C := RX0) (T := TX0) (N := 17) hx hb hts hi0 hown hK hP 4 rfl rfl 0 (by decide) k3 (fun _ h9 => h9) rfl dX2_isHidden_32 ?_
      have h8 := hv.1
      have hv := hv.2
      have hPc : va_P (gD g) vwCl (wC g ad 4 (xNow σ)) H := hP.sub [4, 5, 6, 7, 8, 9, 10, 11, 12, 13, 14, 15, 16] rfl
      refine ro_int (va_runV (As := [.int x2, .int p0, .int ((sAsked (cS (xNow σ))) + 1), .int (sCase (cS (xNow σ)))]) (rest := []) ⟨hx, hb, hml, hown, hts⟩ (h_X0_reply g ad 4 (xNow σ) x2 p0 ((sAsked (cS (xNow σ))) + 1) (sCase (cS (xNow σ))) h8) (cwV 4 hts gX2_isHidden_X0_reply rfl rfl rfl (by decide +kernel) ⟨Nat.le_of_ble_eq_true rfl, Nat.le_of_ble_eq_true rfl⟩) ⟨RO_blind, va_recv hK hP (ci := 0) (q0 := 4) rfl rfl, fun U hU hW => ⟨rfl, by rw [hU]; exact hPc, va_K.moved hW.alike hK, hE.call hW hU hS (fun _ h => h.elim)⟩⟩ rfl rfl hl.1 rfl (lv_room (Nat.le_of_ble_eq_true rfl)) dX2_isHidden_35 ⟨Nat.le_of_ble_eq_true rfl, Nat.le_of_ble_eq_true rfl⟩) hS hP (fun r H locs hw hP hS => ?_)
      subst r
      refine lv_iconst (v := 2) hx hb dX2_isHidden_38 (by decide) ?_
      refine lv_icmp_eq (tgt := 44) hx hb dX2_isHidden_39 (by decide) (fun c39 => ?_) (fun c39 => ?_)
      · have hv := hv.1 c39
        refine lv_iinc (v := (x2 + 1)) (lv' := [(2, .int (x2 + 1)), (0, .ref (ad 0)), (1, .int p0)]) hx hb dX2_isHidden_44 hl (k := 2) rfl (by first | rfl | exact congrArg _ (by decide)) (by decide) rfl (fun ls hl => ?_)
        refine lv_goto (tgt := 2) hx hb dX2_isHidden_47 (by decide) ?_
        exact hv H locs ls hP hS (lv_sub hl [1, 2, 0] rfl)
      · have hv := hv.2 c39
        refine lv_iconst (v := 0) hx hb dX2_isHidden_42 (by decide) ?_
        exact W.zret (v := 0) hx hb hr rfl (fun t ht hW => ⟨⟨0, (), rfl, hv, trivial⟩, hS.F ht⟩) hS.2.2 dX2_isHidden_43)
  obtain ⟨H, hH⟩ : ∃ z, z = s.heap := ⟨_, rfl⟩
  obtain ⟨locs, hL⟩ : ∃ z : List Loc, z = [] := ⟨_, rfl⟩
  rw [← hL] at hS ⊢
  have hS : va_S A0 s.heap H locs := by rw [hH]; exact hS
  rw [← hH] at hP ⊢
  clear hH hL
  refine lv_iconst (v := 0) hx hb dX2_isHidden_0 (by decide) ?_
  refine lv_istore_n (lv' := [(2, .int 0), (0, .ref (ad 0)), (1, .int p0)]) hx hb dX2_isHidden_1 rfl hl (by decide) rfl (fun ls hl => ?_)
  exact hv H locs ls hP hS (lv_sub hl [1, 2, 0] rfl)

set_option maxHeartbeats 4000000 in
set_option maxRecDepth 100000 in
theorem m_X2_samePairs (l : Launch) (h_X0_truthOf : C_X0_truthOf l) (g : CX) (ad : Nat → Nat) (σ : KX) (p0 : Int32) (Post : Int32 → Prop) (hv : vc_X2_samePairs σ p0 Post) : Met l yX2_samePairs wsX2_samePairs { frames := 2, cells := 0, slots := 0, locals := 42 } (va_Pc [.ref (ad 0), .int p0] (RO g (wX g ad σ))) (va_Qi (fun r (_ : Unit) => Post r) (fun _ _ => True) A0) 0 0 A0 := by
  unfold vc_X2_samePairs at hv
  refine Met.ofW (cc := cX2_samePairs) (maxL := 6) (ret := (some .int)) (by decide) rfl ?_
  intro p e s m args below meth c s₁ B hml hv0
  obtain ⟨rfl, hP, hK, hE⟩ := hv0
  have hx := B.exec
  have hb := B.bytes
  have hr := B.returns
  have hts := atoms_spec (ws := wsX2_samePairs) B.pre
  have hown : s.vm.findClass RX2 = some m.cls := findClass_of_methodNamed B.named
  have hlocks := B.notSynchronized
  have hi0 : ∀ w ∈ wsX00, w ∈ wsX2_samePairs := by decide +kernel
  have hi2 : ∀ w ∈ wsX20, w ∈ wsX2_samePairs := by decide +kernel
  have k0 := hts (.fieldLink RX2 10 "JuryHearsAnswers" "now" "LJuryHearsAnswers$Court;") (by decide +kernel)
  have k1 := hts (.fieldLink RX2 179 "JuryHearsAnswers$Court" "questions" "I") (by decide +kernel)
  have hS : va_S A0 s.heap s.heap [] := va_S.rf
  have hP : va_P (gD g) vwCl (wX g ad σ) s.heap := hP
  have hl := lv_entry ([.ref (ad 0), .int p0]) (n := 6) (Nat.le_of_ble_eq_true rfl)
  rw [lg_entry_eq]
  generalize (lg_sl ([.ref (ad 0), .int p0]) ++ List.replicate (6 - (lg_sl ([.ref (ad 0), .int p0])).length) Slot.unset).toArray = ls at hl ⊢
  have hl : lv_has ls 6 [(0, .ref (ad 0)), (1, .int p0)] := hl
  have hv := hv (fun (x2 : Int32) (x3 : Int32) (x4 : Int32) => ∀ (H : Heap) (locs : List Loc) (ls : Array Slot), va_P (gD g) vwCl (wX g ad σ) H → va_S A0 s.heap H locs → lv_has ls 6 [(0, .ref (ad 0)), (1, .int p0), (2, .int x2), (3, .int x3), (4, .int x4)] → W p l e { frames := 2, cells := 0, slots := 0, locals := 42 } s m ([.ref (ad 0), .int p0] : List Value).toArray below meth c H locs 0 0 (MQ below (va_Qi (fun r (_ : Unit) => Post r) (fun _ _ => True) A0) ([.ref (ad 0), .int p0] : List Value).toArray s 0 0 A0) (F0 m 8 ls []))
  have hv := hv (fun (x2 : Int32) (x3 : Int32) (x4 : Int32) (x5 : Int32) => ∀ (H : Heap) (locs : List Loc) (ls : Array Slot), va_P (gD g) vwCl (wX g ad σ) H → va_S A0 s.heap H locs → lv_has ls 6 [(0, .ref (ad 0)), (1, .int p0), (2, .int x2), (3, .int x3), (4, .int x4), (5, .int x5)] → W p l e { frames := 2, cells := 0, slots := 0, locals := 42 } s m ([.ref (ad 0), .int p0] : List Value).toArray below meth c H locs 0 0 (MQ below (va_Qi (fun r (_ : Unit) => Post r) (fun _ _ => True) A0) ([.ref (ad 0), .int p0] : List Value).toArray s 0 0 A0) (F0 m 26 ls []))
  have hv := hv (by
    intro x2 x3 x4 hv H locs ls hP hS hl
    refine lv_iload hx hb dX2_samePairs_8 (lv_at hl 4 rfl) ?_
    refine lv_aload_n hx hb dX2_samePairs_10 rfl (lv_at hl 0 rfl) ?_
    refine va_get (D := gD g) (ci := 2) (v := .ref (ad 4)) (C := RX2) (T := TX2) (N := 9) hx hb hts hi2 hown hK hP 0 rfl rfl 0 (by decide) k0 (fun _ h9 => h9) rfl dX2_samePairs_11 ?_
    refine va_get (D := gD g) (ci := 0) (v := .int (sNq (cS (xNow σ)))) (C := RX0) (T := TX0) (N := 17) hx hb hts hi0 hown hK hP 4 rfl rfl 2 (by decide) k1 (fun _ h9 => h9) rfl dX2_samePairs_14 ?_
    refine lv_icmp_ge (tgt := 92) hx hb dX2_samePairs_17 (by decide) (fun c17 => ?_) (fun c17 => ?_)
    · have hv := hv.1 c17
      refine lv_iload_n hx hb dX2_samePairs_92 rfl (lv_at hl 1 rfl) ?_
      refine lv_if_ne (tgt := 100) hx hb dX2_samePairs_93 (by decide) (fun c93 => ?_) (fun c93 => ?_)
      · have hv := hv.1 c93
        refine lv_iload_n hx hb dX2_samePairs_100 rfl (lv_at hl 3 rfl) ?_
        exact W.iret (v := x3) hx hb hr (fun t ht hW => ⟨⟨x3, (), rfl, hv, trivial⟩, hS.F ht⟩) hS.2.2 dX2_samePairs_101
      · have hv := hv.2 c93
        refine lv_iload_n hx hb dX2_samePairs_96 rfl (lv_at hl 2 rfl) ?_
        refine lv_goto (tgt := 101) hx hb dX2_samePairs_97 (by decide) ?_
        exact W.iret (v := x2) hx hb hr (fun t ht hW => ⟨⟨x2, (), rfl, hv, trivial⟩, hS.F ht⟩) hS.2.2 dX2_samePairs_101
    · have hv := hv.2 c17
      refine lv_iload hx hb dX2_samePairs_20 (lv_at hl 4 rfl) ?_
      refine lv_iconst (v := 1) hx hb dX2_samePairs_22 (by decide) ?_
      refine lv_iadd hx hb dX2_samePairs_23 ?_
      refine lv_istore (lv' := [(5, .int (x4 + 1)), (0, .ref (ad 0)), (1, .int p0), (2, .int x2), (3, .int x3), (4, .int x4)]) hx hb dX2_samePairs_24 hl (by decide) rfl (fun ls hl => ?_)
      exact hv H locs ls hP hS (lv_sub hl [1, 2, 3, 4, 5, 0] rfl))
  have hv := hv (by
    intro x2 x3 x4 x5 hv H locs ls hP hS hl
    refine lv_iload hx hb dX2_samePairs_26 (lv_at hl 5 rfl) ?_
    refine lv_aload_n hx hb dX2_samePairs_28 rfl (lv_at hl 0 rfl) ?_
    refine va_get (D := gD g) (ci := 2) (v := .ref (ad 4)) (C := RX2) (T := TX2) (N := 9) hx hb hts hi2 hown hK hP 0 rfl rfl 0 (by decide) k0 (fun _ h9 => h9) rfl dX2_samePairs_29 ?_
    refine va_get (D := gD g) (ci := 0) (v := .int (sNq (cS (xNow σ)))) (C := RX0) (T := TX0) (N := 17) hx hb hts hi0 hown hK hP 4 rfl rfl 2 (by decide) k1 (fun _ h9 => h9) rfl dX2_samePairs_32 ?_
    refine lv_icmp_ge (tgt := 86) hx hb dX2_samePairs_35 (by decide) (fun c35 => ?_) (fun c35 => ?_)
    · have hv := hv.1 c35
      refine lv_iinc (v := (x4 + 1)) (lv' := [(4, .int (x4 + 1)), (0, .ref (ad 0)), (1, .int p0), (2, .int x2), (3, .int x3), (5, .int x5)]) hx hb dX2_samePairs_86 hl (k := 4) rfl (by first | rfl | exact congrArg _ (by decide)) (by decide) rfl (fun ls hl => ?_)
      refine lv_goto (tgt := 8) hx hb dX2_samePairs_89 (by decide) ?_
      exact hv H locs ls hP hS (lv_sub hl [1, 2, 3, 4, 0] rfl)
    · have hv := hv.2 c35
      refine lv_aload_n hx hb dX2_samePairs_38 rfl (lv_at hl 0 rfl) ?_
      refine va_get (D := gD g) (ci := 2) (v := .ref (ad 4)) (C := RX2) (T := TX2) (N := 9) hx hb hts hi2 hown hK hP 0 rfl rfl 0 (by decide) k0 (fun _ h9 => h9) rfl dX2_samePairs_39 ?_
      refine lv_iload hx hb dX2_samePairs_42 (lv_at hl 4 rfl) ?_
      have hPc : va_P (gD g) vwCl (wC g ad 4 (xNow σ)) H := hP.sub [4, 5, 6, 7, 8, 9, 10, 11, 12, 13, 14, 15, 16] rfl
      refine ro_long (va_runV (As := [.int x4]) (rest := []) ⟨hx, hb, hml, hown, hts⟩ (h_X0_truthOf g ad 4 (xNow σ) x4) (cwV 1 hts gX2_samePairs_X0_truthOf rfl rfl rfl (by decide +kernel) ⟨Nat.le_of_ble_eq_true rfl, Nat.le_of_ble_eq_true rfl⟩) ⟨RO_blind, va_recv hK hP (ci := 0) (q0 := 4) rfl rfl, fun U hU hW => ⟨rfl, by rw [hU]; exact hPc, va_K.moved hW.alike hK, hE.call hW hU hS (fun _ h => h.elim)⟩⟩ rfl rfl hl.1 rfl (lv_room (Nat.le_of_ble_eq_true rfl)) dX2_samePairs_44 ⟨Nat.le_of_ble_eq_true rfl, Nat.le_of_ble_eq_true rfl⟩) hS hP (fun r H locs hw hP hS => ?_)
      subst r
      refine lv_aload_n hx hb dX2_samePairs_47 rfl (lv_at hl 0 rfl) ?_
      refine va_get (D := gD g) (ci := 2) (v := .ref (ad 4)) (C := RX2) (T := TX2) (N := 9) hx hb hts hi2 hown hK hP 0 rfl rfl 0 (by decide) k0 (fun _ h9 => h9) rfl dX2_samePairs_48 ?_
      refine lv_iload hx hb dX2_samePairs_51 (lv_at hl 5 rfl) ?_
      have hPc : va_P (gD g) vwCl (wC g ad 4 (xNow σ)) H := hP.sub [4, 5, 6, 7, 8, 9, 10, 11, 12, 13, 14, 15, 16] rfl
      refine ro_long (va_runV (As := [.int x5]) (rest := [.long (truthOfL (xNow σ) x4)]) ⟨hx, hb, hml, hown, hts⟩ (h_X0_truthOf g ad 4 (xNow σ) x5) (cwV 1 hts gX2_samePairs_X0_truthOf rfl rfl rfl (by decide +kernel) ⟨Nat.le_of_ble_eq_true rfl, Nat.le_of_ble_eq_true rfl⟩) ⟨RO_blind, va_recv hK hP (ci := 0) (q0 := 4) rfl rfl, fun U hU hW => ⟨rfl, by rw [hU]; exact hPc, va_K.moved hW.alike hK, hE.call hW hU hS (fun _ h => h.elim)⟩⟩ rfl rfl hl.1 rfl (lv_room (Nat.le_of_ble_eq_true rfl)) dX2_samePairs_53 ⟨Nat.le_of_ble_eq_true rfl, Nat.le_of_ble_eq_true rfl⟩) hS hP (fun r H locs hw hP hS => ?_)
      subst r
      refine W.lcmp hx hb dX2_samePairs_56 ?_
      refine lv_if_ne (tgt := 80) hx hb dX2_samePairs_57 (by decide) (fun c57 => ?_) (fun c57 => ?_)
      · have hv := hv.1 c57
        refine lv_iinc (v := (x5 + 1)) (lv' := [(5, .int (x5 + 1)), (0, .ref (ad 0)), (1, .int p0), (2, .int x2), (3, .int x3), (4, .int x4)]) hx hb dX2_samePairs_80 hl (k := 5) rfl (by first | rfl | exact congrArg _ (by decide)) (by decide) rfl (fun ls hl => ?_)
        refine lv_goto (tgt := 26) hx hb dX2_samePairs_83 (by decide) ?_
        exact hv H locs ls hP hS (lv_sub hl [1, 2, 3, 4, 5, 0] rfl)
      · have hv := hv.2 c57
        refine lv_iload_n hx hb dX2_samePairs_60 rfl (lv_at hl 2 rfl) ?_
        refine lv_if_ne (tgt := 75) hx hb dX2_samePairs_61 (by decide) (fun c61 => ?_) (fun c61 => ?_)
        · have hv := hv.1 c61
          refine lv_iload_n hx hb dX2_samePairs_75 rfl (lv_at hl 3 rfl) ?_
          refine lv_istore_n (lv' := [(3, .int x3), (0, .ref (ad 0)), (1, .int p0), (2, .int x2), (4, .int x4), (5, .int x5)]) hx hb dX2_samePairs_76 rfl hl (by decide) rfl (fun ls hl => ?_)
          refine lv_iinc (v := (x2 + 1)) (lv' := [(2, .int (x2 + 1)), (3, .int x3), (0, .ref (ad 0)), (1, .int p0), (4, .int x4), (5, .int x5)]) hx hb dX2_samePairs_77 hl (k := 3) rfl (by first | rfl | exact congrArg _ (by decide)) (by decide) rfl (fun ls hl => ?_)
          refine lv_iinc (v := (x5 + 1)) (lv' := [(5, .int (x5 + 1)), (2, .int (x2 + 1)), (3, .int x3), (0, .ref (ad 0)), (1, .int p0), (4, .int x4)]) hx hb dX2_samePairs_80 hl (k := 5) rfl (by first | rfl | exact congrArg _ (by decide)) (by decide) rfl (fun ls hl => ?_)
          refine lv_goto (tgt := 26) hx hb dX2_samePairs_83 (by decide) ?_
          exact hv H locs ls hP hS (lv_sub hl [3, 4, 1, 2, 5, 0] rfl)
        · have hv := hv.2 c61
          refine lv_bipush (v := 10) hx hb dX2_samePairs_64 (by decide) ?_
          refine lv_iload hx hb dX2_samePairs_66 (lv_at hl 4 rfl) ?_
          refine lv_imul hx hb dX2_samePairs_68 ?_
          refine lv_iload hx hb dX2_samePairs_69 (lv_at hl 5 rfl) ?_
          refine lv_iadd hx hb dX2_samePairs_71 ?_
          refine lv_goto (tgt := 76) hx hb dX2_samePairs_72 (by decide) ?_
          refine lv_istore_n (lv' := [(3, .int ((10 * x4) + x5)), (0, .ref (ad 0)), (1, .int p0), (2, .int x2), (4, .int x4), (5, .int x5)]) hx hb dX2_samePairs_76 rfl hl (by decide) rfl (fun ls hl => ?_)
          refine lv_iinc (v := (x2 + 1)) (lv' := [(2, .int (x2 + 1)), (3, .int ((10 * x4) + x5)), (0, .ref (ad 0)), (1, .int p0), (4, .int x4), (5, .int x5)]) hx hb dX2_samePairs_77 hl (k := 3) rfl (by first | rfl | exact congrArg _ (by decide)) (by decide) rfl (fun ls hl => ?_)
          refine lv_iinc (v := (x5 + 1)) (lv' := [(5, .int (x5 + 1)), (2, .int (x2 + 1)), (3, .int ((10 * x4) + x5)), (0, .ref (ad 0)), (1, .int p0), (4, .int x4)]) hx hb dX2_samePairs_80 hl (k := 5) rfl (by first | rfl | exact congrArg _ (by decide)) (by decide) rfl (fun ls hl => ?_)
          refine lv_goto (tgt := 26) hx hb dX2_samePairs_83 (by decide) ?_
          exact hv H locs ls hP hS (lv_sub hl [3, 4, 1, 2, 5, 0] rfl))
  obtain ⟨H, hH⟩ : ∃ z, z = s.heap := ⟨_, rfl⟩
  obtain ⟨locs, hL⟩ : ∃ z : List Loc, z = [] := ⟨_, rfl⟩
  rw [← hL] at hS ⊢
  have hS : va_S A0 s.heap H locs := by rw [hH]; exact hS
  rw [← hH] at hP ⊢
  clear hH hL
  refine lv_iconst (v := 0) hx hb dX2_samePairs_0 (by decide) ?_
  refine lv_istore_n (lv' := [(2, .int 0), (0, .ref (ad 0)), (1, .int p0)]) hx hb dX2_samePairs_1 rfl hl (by decide) rfl (fun ls hl => ?_)
  refine lv_bipush (v := (-9)) hx hb dX2_samePairs_2 (by decide) ?_
  refine lv_istore_n (lv' := [(3, .int (-9)), (2, .int 0), (0, .ref (ad 0)), (1, .int p0)]) hx hb dX2_samePairs_4 rfl hl (by decide) rfl (fun ls hl => ?_)
  refine lv_iconst (v := 0) hx hb dX2_samePairs_5 (by decide) ?_
  refine lv_istore (lv' := [(4, .int 0), (3, .int (-9)), (2, .int 0), (0, .ref (ad 0)), (1, .int p0)]) hx hb dX2_samePairs_6 hl (by decide) rfl (fun ls hl => ?_)
  exact hv H locs ls hP hS (lv_sub hl [3, 4, 2, 1, 0] rfl)

set_option maxHeartbeats 4000000 in
set_option maxRecDepth 100000 in
theorem m_X2_leftBehind (l : Launch) (h_J13_bitCount_95d88 : C_J13_bitCount_95d88 l) (h_X0_keeping : C_X0_keeping l) (g : CX) (ad : Nat → Nat) (σ : KX) (p0 : Int64) (p1 : Int32) (p2 : Int32) (p3 : Int32) (Post : Int32 → Prop) (hv : vc_X2_leftBehind σ p0 p1 p2 p3 Post) : Met l yX2_leftBehind wsX2_leftBehind { frames := 4, cells := 0, slots := 0, locals := 93 } (va_Pc [.ref (ad 0), .long p0, .int p1, .int p2, .int p3] (RO g (wX g ad σ))) (va_Qi (fun r (_ : Unit) => Post r) (fun _ _ => True) A0) 0 0 A0 := by
  unfold vc_X2_leftBehind at hv
  refine Met.ofW (cc := cX2_leftBehind) (maxL := 6) (ret := (some .int)) (by decide) rfl ?_
  intro p e s m args below meth c s₁ B hml hv0
  obtain ⟨rfl, hP, hK, hE⟩ := hv0
  have hx := B.exec
  have hb := B.bytes
  have hr := B.returns
  have hts := atoms_spec (ws := wsX2_leftBehind) B.pre
  have hown : s.vm.findClass RX2 = some m.cls := findClass_of_methodNamed B.named
  have hlocks := B.notSynchronized
  have hi0 : ∀ w ∈ wsX00, w ∈ wsX2_leftBehind := by decide +kernel
  have hi2 : ∀ w ∈ wsX20, w ∈ wsX2_leftBehind := by decide +kernel
  have k0 := hts (.fieldLink RX2 10 "JuryHearsAnswers" "now" "LJuryHearsAnswers$Court;") (by decide +kernel)
  have k1 := hts (.fieldLink RX2 90 "JuryHearsAnswers$Court" "asked" "I") (by decide +kernel)
  have hS : va_S A0 s.heap s.heap [] := va_S.rf
  have hP : va_P (gD g) vwCl (wX g ad σ) s.heap := hP
  have hl := lv_entry ([.ref (ad 0), .long p0, .int p1, .int p2, .int p3]) (n := 6) (Nat.le_of_ble_eq_true rfl)
  rw [lg_entry_eq]
  generalize (lg_sl ([.ref (ad 0), .long p0, .int p1, .int p2, .int p3]) ++ List.replicate (6 - (lg_sl ([.ref (ad 0), .long p0, .int p1, .int p2, .int p3])).length) Slot.unset).toArray = ls at hl ⊢
  have hl : lv_has ls 6 [(0, .ref (ad 0)), (1, .long p0), (3, .int p1), (4, .int p2), (5, .int p3)] := hl
  obtain ⟨H, hH⟩ : ∃ z, z = s.heap := ⟨_, rfl⟩
  obtain ⟨locs, hL⟩ : ∃ z : List Loc, z = [] := ⟨_, rfl⟩
  rw [← hL] at hS ⊢
  have hS : va_S A0 s.heap H locs := by rw [hH]; exact hS
  rw [← hH] at hP ⊢
  clear hH hL
  refine lv_lload_n hx hb dX2_leftBehind_0 rfl (lv_at hl 1 rfl) ?_
  refine lv_aload_n hx hb dX2_leftBehind_1 rfl (lv_at hl 0 rfl) ?_
  refine va_get (D := gD g) (ci := 2) (v := .ref (ad 4)) (C := RX2) (T := TX2) (N := 9) hx hb hts hi2 hown hK hP 0 rfl rfl 0 (by decide) k0 (fun _ h9 => h9) rfl dX2_leftBehind_2 ?_
  refine lv_iload_n hx hb dX2_leftBehind_5 rfl (lv_at hl 2 rfl) ?_
  refine lv_iload hx hb dX2_leftBehind_6 (lv_at hl 3 rfl) ?_
  refine lv_aload_n hx hb dX2_leftBehind_8 rfl (lv_at hl 0 rfl) ?_
  refine va_get (D := gD g) (ci := 2) (v := .ref (ad 4)) (C := RX2) (T := TX2) (N := 9) hx hb hts hi2 hown hK hP 0 rfl rfl 0 (by decide) k0 (fun _ h9 => h9) rfl dX2_leftBehind_9 ?_
  refine va_get (D := gD g) (ci := 0) (v := .int (sAsked (cS (xNow σ)))) (C := RX0) (T := TX0) (N := 17) hx hb hts hi0 hown hK hP 4 rfl rfl 1 (by decide) k1 (fun _ h9 => h9) rfl dX2_leftBehind_12 ?_
  refine lv_iconst (v := 1) hx hb dX2_leftBehind_15 (by decide) ?_
  refine lv_iadd hx hb dX2_leftBehind_16 ?_
  have h8 := hv.1
  have hv := hv.2
  have hPc : va_P (gD g) vwCl (wC g ad 4 (xNow σ)) H := hP.sub [4, 5, 6, 7, 8, 9, 10, 11, 12, 13, 14, 15, 16] rfl
  refine ro_long (va_runV (As := [.int p1, .int p2, .int ((sAsked (cS (xNow σ))) + 1)]) (rest := [.long p0]) ⟨hx, hb, hml, hown, hts⟩ (h_X0_keeping g ad 4 (xNow σ) p1 p2 ((sAsked (cS (xNow σ))) + 1) h8) (cwV 3 hts gX2_leftBehind_X0_keeping rfl rfl rfl (by decide +kernel) ⟨Nat.le_of_ble_eq_true rfl, Nat.le_of_ble_eq_true rfl⟩) ⟨RO_blind, va_recv hK hP (ci := 0) (q0 := 4) rfl rfl, fun U hU hW => ⟨rfl, by rw [hU]; exact hPc, va_K.moved hW.alike hK, hE.call hW hU hS (fun _ h => h.elim)⟩⟩ rfl rfl hl.1 rfl (lv_room (Nat.le_of_ble_eq_true rfl)) dX2_leftBehind_17 ⟨Nat.le_of_ble_eq_true rfl, Nat.le_of_ble_eq_true rfl⟩) hS hP (fun r H locs hw hP hS => ?_)
  subst r
  refine lv_land hx hb dX2_leftBehind_20 ?_
  refine lv_aload_n hx hb dX2_leftBehind_21 rfl (lv_at hl 0 rfl) ?_
  refine va_get (D := gD g) (ci := 2) (v := .ref (ad 4)) (C := RX2) (T := TX2) (N := 9) hx hb hts hi2 hown hK hP 0 rfl rfl 0 (by decide) k0 (fun _ h9 => h9) rfl dX2_leftBehind_22 ?_
  refine lv_iload_n hx hb dX2_leftBehind_25 rfl (lv_at hl 2 rfl) ?_
  refine lv_iload hx hb dX2_leftBehind_26 (lv_at hl 4 rfl) ?_
  refine lv_aload_n hx hb dX2_leftBehind_28 rfl (lv_at hl 0 rfl) ?_
  refine va_get (D := gD g) (ci := 2) (v := .ref (ad 4)) (C := RX2) (T := TX2) (N := 9) hx hb hts hi2 hown hK hP 0 rfl rfl 0 (by decide) k0 (fun _ h9 => h9) rfl dX2_leftBehind_29 ?_
  refine va_get (D := gD g) (ci := 0) (v := .int (sAsked (cS (xNow σ)))) (C := RX0) (T := TX0) (N := 17) hx hb hts hi0 hown hK hP 4 rfl rfl 1 (by decide) k1 (fun _ h9 => h9) rfl dX2_leftBehind_32 ?_
  refine lv_iconst (v := 2) hx hb dX2_leftBehind_35 (by decide) ?_
  refine lv_iadd hx hb dX2_leftBehind_36 ?_
  have h8 := hv.1
  have hv := hv.2
  have hPc : va_P (gD g) vwCl (wC g ad 4 (xNow σ)) H := hP.sub [4, 5, 6, 7, 8, 9, 10, 11, 12, 13, 14, 15, 16] rfl
  refine ro_long (va_runV (As := [.int p1, .int p3, .int ((sAsked (cS (xNow σ))) + 2)]) (rest := [.long (p0 &&& (keepingL (xNow σ) p1 p2 ((sAsked (cS (xNow σ))) + 1)))]) ⟨hx, hb, hml, hown, hts⟩ (h_X0_keeping g ad 4 (xNow σ) p1 p3 ((sAsked (cS (xNow σ))) + 2) h8) (cwV 3 hts gX2_leftBehind_X0_keeping rfl rfl rfl (by decide +kernel) ⟨Nat.le_of_ble_eq_true rfl, Nat.le_of_ble_eq_true rfl⟩) ⟨RO_blind, va_recv hK hP (ci := 0) (q0 := 4) rfl rfl, fun U hU hW => ⟨rfl, by rw [hU]; exact hPc, va_K.moved hW.alike hK, hE.call hW hU hS (fun _ h => h.elim)⟩⟩ rfl rfl hl.1 rfl (lv_room (Nat.le_of_ble_eq_true rfl)) dX2_leftBehind_37 ⟨Nat.le_of_ble_eq_true rfl, Nat.le_of_ble_eq_true rfl⟩) hS hP (fun r H locs hw hP hS => ?_)
  subst r
  refine lv_land hx hb dX2_leftBehind_40 ?_
  have hPc : va_P (gD g) vwCl [] H := fun k q h => by simp at h
  refine ro_int (va_runS (As := [.long ((p0 &&& (keepingL (xNow σ) p1 p2 ((sAsked (cS (xNow σ))) + 1))) &&& (keepingL (xNow σ) p1 p3 ((sAsked (cS (xNow σ))) + 2)))]) (rest := []) ⟨hx, hb, hml, hown, hts⟩ (h_J13_bitCount_95d88 g ((p0 &&& (keepingL (xNow σ) p1 p2 ((sAsked (cS (xNow σ))) + 1))) &&& (keepingL (xNow σ) p1 p3 ((sAsked (cS (xNow σ))) + 2)))) (va_cwS 1 hts gX2_leftBehind_J13_bitCount_95d88 rfl rfl rfl (by decide +kernel) ⟨Nat.le_of_ble_eq_true rfl, Nat.le_of_ble_eq_true rfl⟩) ⟨RO_blind, fun U hU hW => ⟨rfl, by rw [hU]; exact hPc, va_K.moved hW.alike hK, hE.call hW hU hS (fun _ h => h.elim)⟩⟩ rfl rfl hl.1 rfl (lv_room (Nat.le_of_ble_eq_true rfl)) dX2_leftBehind_41 ⟨Nat.le_of_ble_eq_true rfl, Nat.le_of_ble_eq_true rfl⟩) hS hP (fun r H locs hw hP hS => ?_)
  subst r
  exact W.iret (v := (popc ((p0 &&& (keepingL (xNow σ) p1 p2 ((sAsked (cS (xNow σ))) + 1))) &&& (keepingL (xNow σ) p1 p3 ((sAsked (cS (xNow σ))) + 2))))) hx hb hr (fun t ht hW => ⟨⟨(popc ((p0 &&& (keepingL (xNow σ) p1 p2 ((sAsked (cS (xNow σ))) + 1))) &&& (keepingL (xNow σ) p1 p3 ((sAsked (cS (xNow σ))) + 2)))), (), rfl, hv, trivial⟩, hS.F ht⟩) hS.2.2 dX2_leftBehind_44

set_option maxHeartbeats 4000000 in
set_option maxRecDepth 100000 in
theorem m_X2_settledPair (l : Launch) (h_X0_fitting : C_X0_fitting l) (h_X0_onward : C_X0_onward l) (h_X2_leftBehind : C_X2_leftBehind l) (g : CX) (ad : Nat → Nat) (σ : KX) (p0 : Int32) (p1 : Int32) (p2 : Int32) (Post : Int32 → Prop) (hv : vc_X2_settledPair σ p0 p1 p2 Post) : Met l yX2_settledPair wsX2_settledPair { frames := 5, cells := 0, slots := 0, locals := 118 } (va_Pc [.ref (ad 0), .int p0, .int p1, .int p2] (RO g (wX g ad σ))) (va_Qi (fun r (_ : Unit) => Post r) (fun _ _ => True) A0) 0 0 A0 := by
  unfold vc_X2_settledPair at hv
  refine Met.ofW (cc := cX2_settledPair) (maxL := 13) (ret := (some .int)) (by decide) rfl ?_
  intro p e s m args below meth c s₁ B hml hv0
  obtain ⟨rfl, hP, hK, hE⟩ := hv0
  have hx := B.exec
  have hb := B.bytes
  have hr := B.returns
  have hts := atoms_spec (ws := wsX2_settledPair) B.pre
  have hown : s.vm.findClass RX2 = some m.cls := findClass_of_methodNamed B.named
  have hlocks := B.notSynchronized
  have hi2 : ∀ w ∈ wsX20, w ∈ wsX2_settledPair := by decide +kernel
  have k0 := hts (.fieldLink RX2 10 "JuryHearsAnswers" "now" "LJuryHearsAnswers$Court;") (by decide +kernel)
  have hS : va_S A0 s.heap s.heap [] := va_S.rf
  have hP : va_P (gD g) vwCl (wX g ad σ) s.heap := hP
  have hl := lv_entry ([.ref (ad 0), .int p0, .int p1, .int p2]) (n := 13) (Nat.le_of_ble_eq_true rfl)
  rw [lg_entry_eq]
  generalize (lg_sl ([.ref (ad 0), .int p0, .int p1, .int p2]) ++ List.replicate (13 - (lg_sl ([.ref (ad 0), .int p0, .int p1, .int p2])).length) Slot.unset).toArray = ls at hl ⊢
  have hl : lv_has ls 13 [(0, .ref (ad 0)), (1, .int p0), (2, .int p1), (3, .int p2)] := hl
  have hv := hv (fun (x4 : Int64) (x6 : Int32) => ∀ (H : Heap) (locs : List Loc) (ls : Array Slot), va_P (gD g) vwCl (wX g ad σ) H → va_S A0 s.heap H locs → lv_has ls 13 [(0, .ref (ad 0)), (1, .int p0), (2, .int p1), (3, .int p2), (4, .long x4), (6, .int x6)] → W p l e { frames := 5, cells := 0, slots := 0, locals := 118 } s m ([.ref (ad 0), .int p0, .int p1, .int p2] : List Value).toArray below meth c H locs 0 0 (MQ below (va_Qi (fun r (_ : Unit) => Post r) (fun _ _ => True) A0) ([.ref (ad 0), .int p0, .int p1, .int p2] : List Value).toArray s 0 0 A0) (F0 m 12 ls []))
  have hv := hv (fun (x4 : Int64) (x6 : Int32) (x7 : Int32) => ∀ (H : Heap) (locs : List Loc) (ls : Array Slot), va_P (gD g) vwCl (wX g ad σ) H → va_S A0 s.heap H locs → lv_has ls 13 [(0, .ref (ad 0)), (1, .int p0), (2, .int p1), (3, .int p2), (4, .long x4), (6, .int x6), (7, .int x7)] → W p l e { frames := 5, cells := 0, slots := 0, locals := 118 } s m ([.ref (ad 0), .int p0, .int p1, .int p2] : List Value).toArray below meth c H locs 0 0 (MQ below (va_Qi (fun r (_ : Unit) => Post r) (fun _ _ => True) A0) ([.ref (ad 0), .int p0, .int p1, .int p2] : List Value).toArray s 0 0 A0) (F0 m 21 ls []))
  have hv := hv (by
    intro x4 x6 hv H locs ls hP hS hl
    refine lv_iload hx hb dX2_settledPair_12 (lv_at hl 5 rfl) ?_
    refine lv_iconst (v := 2) hx hb dX2_settledPair_14 (by decide) ?_
    refine lv_icmp_ge (tgt := 145) hx hb dX2_settledPair_15 (by decide) (fun c15 => ?_) (fun c15 => ?_)
    · have hv := hv.1 c15
      refine lv_bipush (v := (-9)) hx hb dX2_settledPair_145 (by decide) ?_
      exact W.iret (v := (-9)) hx hb hr (fun t ht hW => ⟨⟨(-9), (), rfl, hv, trivial⟩, hS.F ht⟩) hS.2.2 dX2_settledPair_147
    · have hv := hv.2 c15
      refine lv_iconst (v := 0) hx hb dX2_settledPair_18 (by decide) ?_
      refine lv_istore (lv' := [(7, .int 0), (0, .ref (ad 0)), (1, .int p0), (2, .int p1), (3, .int p2), (4, .long x4), (6, .int x6)]) hx hb dX2_settledPair_19 hl (by decide) rfl (fun ls hl => ?_)
      exact hv H locs ls hP hS (lv_sub hl [1, 2, 3, 4, 5, 6, 0] rfl))
  have hv := hv (by
    intro x4 x6 x7 hv H locs ls hP hS hl
    refine lv_iload hx hb dX2_settledPair_21 (lv_at hl 6 rfl) ?_
    refine lv_iconst (v := 2) hx hb dX2_settledPair_23 (by decide) ?_
    refine lv_icmp_ge (tgt := 139) hx hb dX2_settledPair_24 (by decide) (fun c24 => ?_) (fun c24 => ?_)
    · have hv := hv.1 c24
      refine lv_iinc (v := (x6 + 1)) (lv' := [(6, .int (x6 + 1)), (0, .ref (ad 0)), (1, .int p0), (2, .int p1), (3, .int p2), (4, .long x4), (7, .int x7)]) hx hb dX2_settledPair_139 hl (k := 5) rfl (by first | rfl | exact congrArg _ (by decide)) (by decide) rfl (fun ls hl => ?_)
      refine lv_goto (tgt := 12) hx hb dX2_settledPair_142 (by decide) ?_
      exact hv H locs ls hP hS (lv_sub hl [1, 2, 3, 4, 5, 0] rfl)
    · have hv := hv.2 c24
      refine lv_aload_n hx hb dX2_settledPair_27 rfl (lv_at hl 0 rfl) ?_
      refine va_get (D := gD g) (ci := 2) (v := .ref (ad 4)) (C := RX2) (T := TX2) (N := 9) hx hb hts hi2 hown hK hP 0 rfl rfl 0 (by decide) k0 (fun _ h9 => h9) rfl dX2_settledPair_28 ?_
      refine lv_iload_n hx hb dX2_settledPair_31 rfl (lv_at hl 2 rfl) ?_
      refine lv_iload hx hb dX2_settledPair_32 (lv_at hl 5 rfl) ?_
      have hPc : va_P (gD g) vwCl (wC g ad 4 (xNow σ)) H := hP.sub [4, 5, 6, 7, 8, 9, 10, 11, 12, 13, 14, 15, 16] rfl
      refine ro_int (va_runV (As := [.int p1, .int x6]) (rest := []) ⟨hx, hb, hml, hown, hts⟩ (h_X0_onward g ad 4 (xNow σ) p1 x6) (cwV 2 hts gX2_settledPair_X0_onward rfl rfl rfl (by decide +kernel) ⟨Nat.le_of_ble_eq_true rfl, Nat.le_of_ble_eq_true rfl⟩) ⟨RO_blind, va_recv hK hP (ci := 0) (q0 := 4) rfl rfl, fun U hU hW => ⟨rfl, by rw [hU]; exact hPc, va_K.moved hW.alike hK, hE.call hW hU hS (fun _ h => h.elim)⟩⟩ rfl rfl hl.1 rfl (lv_room (Nat.le_of_ble_eq_true rfl)) dX2_settledPair_34 ⟨Nat.le_of_ble_eq_true rfl, Nat.le_of_ble_eq_true rfl⟩) hS hP (fun r H locs hw hP hS => ?_)
      subst r
      refine lv_istore (lv' := [(8, .int (onwardI (cS (xNow σ)) p1 x6)), (0, .ref (ad 0)), (1, .int p0), (2, .int p1), (3, .int p2), (4, .long x4), (6, .int x6), (7, .int x7)]) hx hb dX2_settledPair_37 hl (by decide) rfl (fun ls hl => ?_)
      refine lv_aload_n hx hb dX2_settledPair_39 rfl (lv_at hl 1 rfl) ?_
      refine va_get (D := gD g) (ci := 2) (v := .ref (ad 4)) (C := RX2) (T := TX2) (N := 9) hx hb hts hi2 hown hK hP 0 rfl rfl 0 (by decide) k0 (fun _ h9 => h9) rfl dX2_settledPair_40 ?_
      refine lv_iload_n hx hb dX2_settledPair_43 rfl (lv_at hl 4 rfl) ?_
      refine lv_iload hx hb dX2_settledPair_44 (lv_at hl 7 rfl) ?_
      have hPc : va_P (gD g) vwCl (wC g ad 4 (xNow σ)) H := hP.sub [4, 5, 6, 7, 8, 9, 10, 11, 12, 13, 14, 15, 16] rfl
      refine ro_int (va_runV (As := [.int p2, .int x7]) (rest := []) ⟨hx, hb, hml, hown, hts⟩ (h_X0_onward g ad 4 (xNow σ) p2 x7) (cwV 2 hts gX2_settledPair_X0_onward rfl rfl rfl (by decide +kernel) ⟨Nat.le_of_ble_eq_true rfl, Nat.le_of_ble_eq_true rfl⟩) ⟨RO_blind, va_recv hK hP (ci := 0) (q0 := 4) rfl rfl, fun U hU hW => ⟨rfl, by rw [hU]; exact hPc, va_K.moved hW.alike hK, hE.call hW hU hS (fun _ h => h.elim)⟩⟩ rfl rfl hl.1 rfl (lv_room (Nat.le_of_ble_eq_true rfl)) dX2_settledPair_46 ⟨Nat.le_of_ble_eq_true rfl, Nat.le_of_ble_eq_true rfl⟩) hS hP (fun r H locs hw hP hS => ?_)
      subst r
      refine lv_istore (lv' := [(9, .int (onwardI (cS (xNow σ)) p2 x7)), (8, .int (onwardI (cS (xNow σ)) p1 x6)), (0, .ref (ad 0)), (1, .int p0), (2, .int p1), (3, .int p2), (4, .long x4), (6, .int x6), (7, .int x7)]) hx hb dX2_settledPair_49 hl (by decide) rfl (fun ls hl => ?_)
      refine lv_aload_n hx hb dX2_settledPair_51 rfl (lv_at hl 2 rfl) ?_
      refine lv_lload hx hb dX2_settledPair_52 (lv_at hl 6 rfl) ?_
      refine lv_iload_n hx hb dX2_settledPair_54 rfl (lv_at hl 3 rfl) ?_
      refine lv_iload hx hb dX2_settledPair_55 (lv_at hl 1 rfl) ?_
      refine lv_iload hx hb dX2_settledPair_57 (lv_at hl 0 rfl) ?_
      have h8 := hv.1
      have hv := hv.2
      have hPc := hP
      refine ro_int (va_runV (As := [.long x4, .int p0, .int (onwardI (cS (xNow σ)) p1 x6), .int (onwardI (cS (xNow σ)) p2 x7)]) (rest := []) ⟨hx, hb, hml, hown, hts⟩ (h_X2_leftBehind g ad σ x4 p0 (onwardI (cS (xNow σ)) p1 x6) (onwardI (cS (xNow σ)) p2 x7) h8) (cwV 4 hts gX2_settledPair_X2_leftBehind rfl rfl rfl (by decide +kernel) ⟨Nat.le_of_ble_eq_true rfl, Nat.le_of_ble_eq_true rfl⟩) ⟨RO_blind, va_recv hK hP (ci := 2) (q0 := 0) rfl rfl, fun U hU hW => ⟨rfl, by rw [hU]; exact hPc, va_K.moved hW.alike hK, hE.call hW hU hS (fun _ h => h.elim)⟩⟩ rfl rfl hl.1 rfl (lv_room (Nat.le_of_ble_eq_true rfl)) dX2_settledPair_59 ⟨Nat.le_of_ble_eq_true rfl, Nat.le_of_ble_eq_true rfl⟩) hS hP (fun r H locs hw hP hS => ?_)
      subst r
      refine lv_istore (lv' := [(10, .int (leftBehindX (xNow σ) x4 p0 (onwardI (cS (xNow σ)) p1 x6) (onwardI (cS (xNow σ)) p2 x7))), (9, .int (onwardI (cS (xNow σ)) p2 x7)), (8, .int (onwardI (cS (xNow σ)) p1 x6)), (0, .ref (ad 0)), (1, .int p0), (2, .int p1), (3, .int p2), (4, .long x4), (6, .int x6), (7, .int x7)]) hx hb dX2_settledPair_62 hl (by decide) rfl (fun ls hl => ?_)
      refine lv_aload_n hx hb dX2_settledPair_64 rfl (lv_at hl 3 rfl) ?_
      refine lv_lload hx hb dX2_settledPair_65 (lv_at hl 7 rfl) ?_
      refine lv_iload_n hx hb dX2_settledPair_67 rfl (lv_at hl 4 rfl) ?_
      refine lv_aload_n hx hb dX2_settledPair_68 rfl (lv_at hl 3 rfl) ?_
      refine va_get (D := gD g) (ci := 2) (v := .ref (ad 4)) (C := RX2) (T := TX2) (N := 9) hx hb hts hi2 hown hK hP 0 rfl rfl 0 (by decide) k0 (fun _ h9 => h9) rfl dX2_settledPair_69 ?_
      refine lv_iload_n hx hb dX2_settledPair_72 rfl (lv_at hl 5 rfl) ?_
      refine lv_iconst (v := 1) hx hb dX2_settledPair_73 (by decide) ?_
      refine lv_iload hx hb dX2_settledPair_74 (lv_at hl 8 rfl) ?_
      refine lv_isub hx hb dX2_settledPair_76 ?_
      have hPc : va_P (gD g) vwCl (wC g ad 4 (xNow σ)) H := hP.sub [4, 5, 6, 7, 8, 9, 10, 11, 12, 13, 14, 15, 16] rfl
      refine ro_int (va_runV (As := [.int p1, .int (1 - x6)]) (rest := [.int p0, .long x4, .ref (ad 0)]) ⟨hx, hb, hml, hown, hts⟩ (h_X0_onward g ad 4 (xNow σ) p1 (1 - x6)) (cwV 2 hts gX2_settledPair_X0_onward rfl rfl rfl (by decide +kernel) ⟨Nat.le_of_ble_eq_true rfl, Nat.le_of_ble_eq_true rfl⟩) ⟨RO_blind, va_recv hK hP (ci := 0) (q0 := 4) rfl rfl, fun U hU hW => ⟨rfl, by rw [hU]; exact hPc, va_K.moved hW.alike hK, hE.call hW hU hS (fun _ h => h.elim)⟩⟩ rfl rfl hl.1 rfl (lv_room (Nat.le_of_ble_eq_true rfl)) dX2_settledPair_77 ⟨Nat.le_of_ble_eq_true rfl, Nat.le_of_ble_eq_true rfl⟩) hS hP (fun r H locs hw hP hS => ?_)
      subst r
      refine lv_iload hx hb dX2_settledPair_80 (lv_at hl 1 rfl) ?_
      have h8 := hv.1
      have hv := hv.2
      have hPc := hP
      refine ro_int (va_runV (As := [.long x4, .int p0, .int (onwardI (cS (xNow σ)) p1 (1 - x6)), .int (onwardI (cS (xNow σ)) p2 x7)]) (rest := []) ⟨hx, hb, hml, hown, hts⟩ (h_X2_leftBehind g ad σ x4 p0 (onwardI (cS (xNow σ)) p1 (1 - x6)) (onwardI (cS (xNow σ)) p2 x7) h8) (cwV 4 hts gX2_settledPair_X2_leftBehind rfl rfl rfl (by decide +kernel) ⟨Nat.le_of_ble_eq_true rfl, Nat.le_of_ble_eq_true rfl⟩) ⟨RO_blind, va_recv hK hP (ci := 2) (q0 := 0) rfl rfl, fun U hU hW => ⟨rfl, by rw [hU]; exact hPc, va_K.moved hW.alike hK, hE.call hW hU hS (fun _ h => h.elim)⟩⟩ rfl rfl hl.1 rfl (lv_room (Nat.le_of_ble_eq_true rfl)) dX2_settledPair_82 ⟨Nat.le_of_ble_eq_true rfl, Nat.le_of_ble_eq_true rfl⟩) hS hP (fun r H locs hw hP hS => ?_)
      subst r
      refine lv_istore (lv' := [(11, .int (leftBehindX (xNow σ) x4 p0 (onwardI (cS (xNow σ)) p1 (1 - x6)) (onwardI (cS (xNow σ)) p2 x7))), (10, .int (leftBehindX (xNow σ) x4 p0 (onwardI (cS (xNow σ)) p1 x6) (onwardI (cS (xNow σ)) p2 x7))), (9, .int (onwardI (cS (xNow σ)) p2 x7)), (8, .int (onwardI (cS (xNow σ)) p1 x6)), (0, .ref (ad 0)), (1, .int p0), (2, .int p1), (3, .int p2), (4, .long x4), (6, .int x6), (7, .int x7)]) hx hb dX2_settledPair_85 hl (by decide) rfl (fun ls hl => ?_)
      refine lv_aload_n hx hb dX2_settledPair_87 rfl (lv_at hl 4 rfl) ?_
      refine lv_lload hx hb dX2_settledPair_88 (lv_at hl 8 rfl) ?_
      refine lv_iload_n hx hb dX2_settledPair_90 rfl (lv_at hl 5 rfl) ?_
      refine lv_iload hx hb dX2_settledPair_91 (lv_at hl 3 rfl) ?_
      refine lv_aload_n hx hb dX2_settledPair_93 rfl (lv_at hl 4 rfl) ?_
      refine va_get (D := gD g) (ci := 2) (v := .ref (ad 4)) (C := RX2) (T := TX2) (N := 9) hx hb hts hi2 hown hK hP 0 rfl rfl 0 (by decide) k0 (fun _ h9 => h9) rfl dX2_settledPair_94 ?_
      refine lv_iload_n hx hb dX2_settledPair_97 rfl (lv_at hl 7 rfl) ?_
      refine lv_iconst (v := 1) hx hb dX2_settledPair_98 (by decide) ?_
      refine lv_iload hx hb dX2_settledPair_99 (lv_at hl 10 rfl) ?_
      refine lv_isub hx hb dX2_settledPair_101 ?_
      have hPc : va_P (gD g) vwCl (wC g ad 4 (xNow σ)) H := hP.sub [4, 5, 6, 7, 8, 9, 10, 11, 12, 13, 14, 15, 16] rfl
      refine ro_int (va_runV (As := [.int p2, .int (1 - x7)]) (rest := [.int (onwardI (cS (xNow σ)) p1 x6), .int p0, .long x4, .ref (ad 0)]) ⟨hx, hb, hml, hown, hts⟩ (h_X0_onward g ad 4 (xNow σ) p2 (1 - x7)) (cwV 2 hts gX2_settledPair_X0_onward rfl rfl rfl (by decide +kernel) ⟨Nat.le_of_ble_eq_true rfl, Nat.le_of_ble_eq_true rfl⟩) ⟨RO_blind, va_recv hK hP (ci := 0) (q0 := 4) rfl rfl, fun U hU hW => ⟨rfl, by rw [hU]; exact hPc, va_K.moved hW.alike hK, hE.call hW hU hS (fun _ h => h.elim)⟩⟩ rfl rfl hl.1 rfl (lv_room (Nat.le_of_ble_eq_true rfl)) dX2_settledPair_102 ⟨Nat.le_of_ble_eq_true rfl, Nat.le_of_ble_eq_true rfl⟩) hS hP (fun r H locs hw hP hS => ?_)
      subst r
      have h8 := hv.1
      have hv := hv.2
      have hPc := hP
      refine ro_int (va_runV (As := [.long x4, .int p0, .int (onwardI (cS (xNow σ)) p1 x6), .int (onwardI (cS (xNow σ)) p2 (1 - x7))]) (rest := []) ⟨hx, hb, hml, hown, hts⟩ (h_X2_leftBehind g ad σ x4 p0 (onwardI (cS (xNow σ)) p1 x6) (onwardI (cS (xNow σ)) p2 (1 - x7)) h8) (cwV 4 hts gX2_settledPair_X2_leftBehind rfl rfl rfl (by decide +kernel) ⟨Nat.le_of_ble_eq_true rfl, Nat.le_of_ble_eq_true rfl⟩) ⟨RO_blind, va_recv hK hP (ci := 2) (q0 := 0) rfl rfl, fun U hU hW => ⟨rfl, by rw [hU]; exact hPc, va_K.moved hW.alike hK, hE.call hW hU hS (fun _ h => h.elim)⟩⟩ rfl rfl hl.1 rfl (lv_room (Nat.le_of_ble_eq_true rfl)) dX2_settledPair_105 ⟨Nat.le_of_ble_eq_true rfl, Nat.le_of_ble_eq_true rfl⟩) hS hP (fun r H locs hw hP hS => ?_)
      subst r
      refine lv_istore (lv' := [(12, .int (leftBehindX (xNow σ) x4 p0 (onwardI (cS (xNow σ)) p1 x6) (onwardI (cS (xNow σ)) p2 (1 - x7)))), (11, .int (leftBehindX (xNow σ) x4 p0 (onwardI (cS (xNow σ)) p1 (1 - x6)) (onwardI (cS (xNow σ)) p2 x7))), (10, .int (leftBehindX (xNow σ) x4 p0 (onwardI (cS (xNow σ)) p1 x6) (onwardI (cS (xNow σ)) p2 x7))), (9, .int (onwardI (cS (xNow σ)) p2 x7)), (8, .int (onwardI (cS (xNow σ)) p1 x6)), (0, .ref (ad 0)), (1, .int p0), (2, .int p1), (3, .int p2), (4, .long x4), (6, .int x6), (7, .int x7)]) hx hb dX2_settledPair_108 hl (by decide) rfl (fun ls hl => ?_)
      refine lv_iload hx hb dX2_settledPair_110 (lv_at hl 1 rfl) ?_
      refine lv_iload hx hb dX2_settledPair_112 (lv_at hl 2 rfl) ?_
      refine lv_icmp_gt (tgt := 133) hx hb dX2_settledPair_114 (by decide) (fun c114 => ?_) (fun c114 => ?_)
      · have hv := hv.1 c114
        refine lv_iinc (v := (x7 + 1)) (lv' := [(7, .int (x7 + 1)), (12, .int (leftBehindX (xNow σ) x4 p0 (onwardI (cS (xNow σ)) p1 x6) (onwardI (cS (xNow σ)) p2 (1 - x7)))), (11, .int (leftBehindX (xNow σ) x4 p0 (onwardI (cS (xNow σ)) p1 (1 - x6)) (onwardI (cS (xNow σ)) p2 x7))), (10, .int (leftBehindX (xNow σ) x4 p0 (onwardI (cS (xNow σ)) p1 x6) (onwardI (cS (xNow σ)) p2 x7))), (9, .int (onwardI (cS (xNow σ)) p2 x7)), (8, .int (onwardI (cS (xNow σ)) p1 x6)), (0, .ref (ad 0)), (1, .int p0), (2, .int p1), (3, .int p2), (4, .long x4), (6, .int x6)]) hx hb dX2_settledPair_133 hl (k := 11) rfl (by first | rfl | exact congrArg _ (by decide)) (by decide) rfl (fun ls hl => ?_)
        refine lv_goto (tgt := 21) hx hb dX2_settledPair_136 (by decide) ?_
        exact hv H locs ls hP hS (lv_sub hl [6, 7, 8, 9, 10, 11, 0] rfl)
      · have hv := hv.2 c114
        refine lv_iload hx hb dX2_settledPair_117 (lv_at hl 0 rfl) ?_
        refine lv_iload hx hb dX2_settledPair_119 (lv_at hl 2 rfl) ?_
        refine lv_icmp_lt (tgt := 133) hx hb dX2_settledPair_121 (by decide) (fun c121 => ?_) (fun c121 => ?_)
        · have hv := hv.1 c121
          refine lv_iinc (v := (x7 + 1)) (lv' := [(7, .int (x7 + 1)), (12, .int (leftBehindX (xNow σ) x4 p0 (onwardI (cS (xNow σ)) p1 x6) (onwardI (cS (xNow σ)) p2 (1 - x7)))), (11, .int (leftBehindX (xNow σ) x4 p0 (onwardI (cS (xNow σ)) p1 (1 - x6)) (onwardI (cS (xNow σ)) p2 x7))), (10, .int (leftBehindX (xNow σ) x4 p0 (onwardI (cS (xNow σ)) p1 x6) (onwardI (cS (xNow σ)) p2 x7))), (9, .int (onwardI (cS (xNow σ)) p2 x7)), (8, .int (onwardI (cS (xNow σ)) p1 x6)), (0, .ref (ad 0)), (1, .int p0), (2, .int p1), (3, .int p2), (4, .long x4), (6, .int x6)]) hx hb dX2_settledPair_133 hl (k := 11) rfl (by first | rfl | exact congrArg _ (by decide)) (by decide) rfl (fun ls hl => ?_)
          refine lv_goto (tgt := 21) hx hb dX2_settledPair_136 (by decide) ?_
          exact hv H locs ls hP hS (lv_sub hl [6, 7, 8, 9, 10, 11, 0] rfl)
        · have hv := hv.2 c121
          refine lv_bipush (v := 10) hx hb dX2_settledPair_124 (by decide) ?_
          refine lv_iload hx hb dX2_settledPair_126 (lv_at hl 10 rfl) ?_
          refine lv_imul hx hb dX2_settledPair_128 ?_
          refine lv_iload hx hb dX2_settledPair_129 (lv_at hl 11 rfl) ?_
          refine lv_iadd hx hb dX2_settledPair_131 ?_
          exact W.iret (v := ((10 * x6) + x7)) hx hb hr (fun t ht hW => ⟨⟨((10 * x6) + x7), (), rfl, hv, trivial⟩, hS.F ht⟩) hS.2.2 dX2_settledPair_132)
  obtain ⟨H, hH⟩ : ∃ z, z = s.heap := ⟨_, rfl⟩
  obtain ⟨locs, hL⟩ : ∃ z : List Loc, z = [] := ⟨_, rfl⟩
  rw [← hL] at hS ⊢
  have hS : va_S A0 s.heap H locs := by rw [hH]; exact hS
  rw [← hH] at hP ⊢
  clear hH hL
  refine lv_aload_n hx hb dX2_settledPair_0 rfl (lv_at hl 0 rfl) ?_
  refine va_get (D := gD g) (ci := 2) (v := .ref (ad 4)) (C := RX2) (T := TX2) (N := 9) hx hb hts hi2 hown hK hP 0 rfl rfl 0 (by decide) k0 (fun _ h9 => h9) rfl dX2_settledPair_1 ?_
  have h8 := hv.1
  have hv := hv.2
  have hPc : va_P (gD g) vwCl (wC g ad 4 (xNow σ)) H := hP.sub [4, 5, 6, 7, 8, 9, 10, 11, 12, 13, 14, 15, 16] rfl
  refine ro_long (va_runV (As := []) (rest := []) ⟨hx, hb, hml, hown, hts⟩ (h_X0_fitting g ad 4 (xNow σ) h8) (cwV 0 hts gX2_settledPair_X0_fitting rfl rfl rfl (by decide +kernel) ⟨Nat.le_of_ble_eq_true rfl, Nat.le_of_ble_eq_true rfl⟩) ⟨RO_blind, va_recv hK hP (ci := 0) (q0 := 4) rfl rfl, fun U hU hW => ⟨rfl, by rw [hU]; exact hPc, va_K.moved hW.alike hK, hE.call hW hU hS (fun _ h => h.elim)⟩⟩ rfl rfl hl.1 rfl (lv_room (Nat.le_of_ble_eq_true rfl)) dX2_settledPair_4 ⟨Nat.le_of_ble_eq_true rfl, Nat.le_of_ble_eq_true rfl⟩) hS hP (fun r H locs hw hP hS => ?_)
  subst r
  refine lv_lstore (lv' := [(4, .long (fittingL (xNow σ))), (0, .ref (ad 0)), (1, .int p0), (2, .int p1), (3, .int p2)]) hx hb dX2_settledPair_7 hl (by decide) rfl (fun ls hl => ?_)
  refine lv_iconst (v := 0) hx hb dX2_settledPair_9 (by decide) ?_
  refine lv_istore (lv' := [(6, .int 0), (4, .long (fittingL (xNow σ))), (0, .ref (ad 0)), (1, .int p0), (2, .int p1), (3, .int p2)]) hx hb dX2_settledPair_10 hl (by decide) rfl (fun ls hl => ?_)
  exact hv H locs ls hP hS (lv_sub hl [2, 3, 4, 5, 1, 0] rfl)

set_option maxHeartbeats 4000000 in
set_option maxRecDepth 100000 in
theorem m_X2_isByRow (l : Launch) (h_X0_reply : C_X0_reply l) (g : CX) (ad : Nat → Nat) (σ : KX) (p0 : Int32) (Post : Int32 → Prop) (hv : vc_X2_isByRow σ p0 Post) : Met l yX2_isByRow wsX2_isByRow { frames := 3, cells := 0, slots := 0, locals := 70 } (va_Pc [.ref (ad 0), .int p0] (RO g (wX g ad σ))) (va_Qi (fun r (_ : Unit) => Post r) (fun _ _ => True) A0) 0 0 A0 := by
  unfold vc_X2_isByRow at hv
  refine Met.ofW (cc := cX2_isByRow) (maxL := 4) (ret := (some .boolean)) (by decide) rfl ?_
  intro p e s m args below meth c s₁ B hml hv0
  obtain ⟨rfl, hP, hK, hE⟩ := hv0
  have hx := B.exec
  have hb := B.bytes
  have hr := B.returns
  have hts := atoms_spec (ws := wsX2_isByRow) B.pre
  have hown : s.vm.findClass RX2 = some m.cls := findClass_of_methodNamed B.named
  have hlocks := B.notSynchronized
  have hi0 : ∀ w ∈ wsX00, w ∈ wsX2_isByRow := by decide +kernel
  have hi2 : ∀ w ∈ wsX20, w ∈ wsX2_isByRow := by decide +kernel
  have k0 := hts (.fieldLink RX2 202 "JuryHearsAnswers" "rowLength" "I") (by decide +kernel)
  have k1 := hts (.fieldLink RX2 19 "JuryHearsAnswers" "trial" "LJuryHearsAnswers$Court;") (by decide +kernel)
  have k2 := hts (.fieldLink RX2 90 "JuryHearsAnswers$Court" "asked" "I") (by decide +kernel)
  have k3 := hts (.fieldLink RX2 60 "JuryHearsAnswers$Court" "caseNow" "I") (by decide +kernel)
  have k4 := hts (.fieldLink RX2 29 "JuryHearsAnswers" "rowNumbers" "[I") (by decide +kernel)
  have hS : va_S A0 s.heap s.heap [] := va_S.rf
  have hP : va_P (gD g) vwCl (wX g ad σ) s.heap := hP
  have hl := lv_entry ([.ref (ad 0), .int p0]) (n := 4) (Nat.le_of_ble_eq_true rfl)
  rw [lg_entry_eq]
  generalize (lg_sl ([.ref (ad 0), .int p0]) ++ List.replicate (4 - (lg_sl ([.ref (ad 0), .int p0])).length) Slot.unset).toArray = ls at hl ⊢
  have hl : lv_has ls 4 [(0, .ref (ad 0)), (1, .int p0)] := hl
  have hv := hv (fun (x2 : Int32) => ∀ (H : Heap) (locs : List Loc) (ls : Array Slot), va_P (gD g) vwCl (wX g ad σ) H → va_S A0 s.heap H locs → lv_has ls 4 [(0, .ref (ad 0)), (1, .int p0), (2, .int x2)] → W p l e { frames := 3, cells := 0, slots := 0, locals := 70 } s m ([.ref (ad 0), .int p0] : List Value).toArray below meth c H locs 0 0 (MQ below (va_Qi (fun r (_ : Unit) => Post r) (fun _ _ => True) A0) ([.ref (ad 0), .int p0] : List Value).toArray s 0 0 A0) (F0 m 2 ls []))
  have hv := hv (by
    intro x2 hv H locs ls hP hS hl
    refine lv_iload_n hx hb dX2_isByRow_2 rfl (lv_at hl 2 rfl) ?_
    refine lv_aload_n hx hb dX2_isByRow_3 rfl (lv_at hl 0 rfl) ?_
    refine va_get (D := gD g) (ci := 2) (v := .int (xRowLen σ)) (C := RX2) (T := TX2) (N := 9) hx hb hts hi2 hown hK hP 0 rfl rfl 7 (by decide) k0 (fun _ h9 => h9) rfl dX2_isByRow_4 ?_
    refine lv_icmp_ge (tgt := 54) hx hb dX2_isByRow_7 (by decide) (fun c7 => ?_) (fun c7 => ?_)
    · have hv := hv.1 c7
      refine lv_iconst (v := 1) hx hb dX2_isByRow_54 (by decide) ?_
      exact W.zret (v := 1) hx hb hr rfl (fun t ht hW => ⟨⟨1, (), rfl, hv, trivial⟩, hS.F ht⟩) hS.2.2 dX2_isByRow_55
    · have hv := hv.2 c7
      refine lv_aload_n hx hb dX2_isByRow_10 rfl (lv_at hl 0 rfl) ?_
      refine va_get (D := gD g) (ci := 2) (v := .ref (ad 30)) (C := RX2) (T := TX2) (N := 9) hx hb hts hi2 hown hK hP 0 rfl rfl 2 (by decide) k1 (fun _ h9 => h9) rfl dX2_isByRow_11 ?_
      refine lv_iload_n hx hb dX2_isByRow_14 rfl (lv_at hl 1 rfl) ?_
      refine lv_iload_n hx hb dX2_isByRow_15 rfl (lv_at hl 2 rfl) ?_
      refine lv_aload_n hx hb dX2_isByRow_16 rfl (lv_at hl 0 rfl) ?_
      refine va_get (D := gD g) (ci := 2) (v := .ref (ad 30)) (C := RX2) (T := TX2) (N := 9) hx hb hts hi2 hown hK hP 0 rfl rfl 2 (by decide) k1 (fun _ h9 => h9) rfl dX2_isByRow_17 ?_
      refine va_get (D := gD g) (ci := 0) (v := .int (sAsked (cS (xTrial σ)))) (C := RX0) (T := TX0) (N := 17) hx hb hts hi0 hown hK hP 30 rfl rfl 1 (by decide) k2 (fun _ h9 => h9) rfl dX2_isByRow_20 ?_
      refine lv_iconst (v := 1) hx hb dX2_isByRow_23 (by decide) ?_
      refine lv_iadd hx hb dX2_isByRow_24 ?_
      refine lv_aload_n hx hb dX2_isByRow_25 rfl (lv_at hl 0 rfl) ?_
      refine va_get (D := gD g) (ci := 2) (v := .ref (ad 30)) (C := RX2) (T := TX2) (N := 9) hx hb hts hi2 hown hK hP 0 rfl rfl 2 (by decide) k1 (fun _ h9 => h9) rfl dX2_isByRow_26 ?_
      refine va_get (D := gD g) (ci := 0) (v := .int (sCase (cS (xTrial σ)))) (C := RX0) (T := TX0) (N := 17) hx hb hts hi0 hown hK hP 30 rfl rfl 0 (by decide) k3 (fun _ h9 => h9) rfl dX2_isByRow_29 ?_
      have h8 := hv.1
      have hv := hv.2
      have hPc : va_P (gD g) vwCl (wC g ad 30 (xTrial σ)) H := hP.sub [30, 31, 32, 33, 34, 35, 36, 37, 38, 39, 40, 41, 42] rfl
      refine ro_int (va_runV (As := [.int p0, .int x2, .int ((sAsked (cS (xTrial σ))) + 1), .int (sCase (cS (xTrial σ)))]) (rest := []) ⟨hx, hb, hml, hown, hts⟩ (h_X0_reply g ad 30 (xTrial σ) p0 x2 ((sAsked (cS (xTrial σ))) + 1) (sCase (cS (xTrial σ))) h8) (cwV 4 hts gX2_isByRow_X0_reply rfl rfl rfl (by decide +kernel) ⟨Nat.le_of_ble_eq_true rfl, Nat.le_of_ble_eq_true rfl⟩) ⟨RO_blind, va_recv hK hP (ci := 0) (q0 := 30) rfl rfl, fun U hU hW => ⟨rfl, by rw [hU]; exact hPc, va_K.moved hW.alike hK, hE.call hW hU hS (fun _ h => h.elim)⟩⟩ rfl rfl hl.1 rfl (lv_room (Nat.le_of_ble_eq_true rfl)) dX2_isByRow_32 ⟨Nat.le_of_ble_eq_true rfl, Nat.le_of_ble_eq_true rfl⟩) hS hP (fun r H locs hw hP hS => ?_)
      subst r
      refine lv_istore_n (lv' := [(3, .int (replyI (xTrial σ) p0 x2 ((sAsked (cS (xTrial σ))) + 1) (sCase (cS (xTrial σ))))), (0, .ref (ad 0)), (1, .int p0), (2, .int x2)]) hx hb dX2_isByRow_35 rfl hl (by decide) rfl (fun ls hl => ?_)
      refine lv_iload_n hx hb dX2_isByRow_36 rfl (lv_at hl 0 rfl) ?_
      refine lv_aload_n hx hb dX2_isByRow_37 rfl (lv_at hl 1 rfl) ?_
      refine va_get (D := gD g) (ci := 2) (v := .ref (ad 1)) (C := RX2) (T := TX2) (N := 9) hx hb hts hi2 hown hK hP 0 rfl rfl 4 (by decide) k4 (fun _ h9 => h9) rfl dX2_isByRow_38 ?_
      refine lv_iload_n hx hb dX2_isByRow_41 rfl (lv_at hl 3 rfl) ?_
      have h9 := hv.1
      have hv := hv.2
      refine va_iald (f := (xRow σ)) (n := 12) hx hb hK hP 1 0 rfl rfl h9 dX2_isByRow_42 ?_
      refine lv_icmp_eq (tgt := 48) hx hb dX2_isByRow_43 (by decide) (fun c43 => ?_) (fun c43 => ?_)
      · have hv := hv.1 c43
        refine lv_iinc (v := (x2 + 1)) (lv' := [(2, .int (x2 + 1)), (3, .int (replyI (xTrial σ) p0 x2 ((sAsked (cS (xTrial σ))) + 1) (sCase (cS (xTrial σ))))), (0, .ref (ad 0)), (1, .int p0)]) hx hb dX2_isByRow_48 hl (k := 3) rfl (by first | rfl | exact congrArg _ (by decide)) (by decide) rfl (fun ls hl => ?_)
        refine lv_goto (tgt := 2) hx hb dX2_isByRow_51 (by decide) ?_
        exact hv H locs ls hP hS (lv_sub hl [2, 3, 0] rfl)
      · have hv := hv.2 c43
        refine lv_iconst (v := 0) hx hb dX2_isByRow_46 (by decide) ?_
        exact W.zret (v := 0) hx hb hr rfl (fun t ht hW => ⟨⟨0, (), rfl, hv, trivial⟩, hS.F ht⟩) hS.2.2 dX2_isByRow_47)
  obtain ⟨H, hH⟩ : ∃ z, z = s.heap := ⟨_, rfl⟩
  obtain ⟨locs, hL⟩ : ∃ z : List Loc, z = [] := ⟨_, rfl⟩
  rw [← hL] at hS ⊢
  have hS : va_S A0 s.heap H locs := by rw [hH]; exact hS
  rw [← hH] at hP ⊢
  clear hH hL
  refine lv_iconst (v := 0) hx hb dX2_isByRow_0 (by decide) ?_
  refine lv_istore_n (lv' := [(2, .int 0), (0, .ref (ad 0)), (1, .int p0)]) hx hb dX2_isByRow_1 rfl hl (by decide) rfl (fun ls hl => ?_)
  exact hv H locs ls hP hS (lv_sub hl [1, 2, 0] rfl)

set_option maxHeartbeats 4000000 in
set_option maxRecDepth 100000 in
theorem m_X2_kindsByRow (l : Launch) (h_X0_becomes_30_4 : C_X0_becomes_30_4 l) (h_X2_isByRow : C_X2_isByRow l) (g : CX) (ad : Nat → Nat) (σ : KX) (p0 : Int32) (Post : Int32 → KX → Prop) (hv : vc_X2_kindsByRow σ p0 Post) : Met l yX2_kindsByRow wsX2_kindsByRow { frames := 4, cells := 0, slots := 0, locals := 93 } (va_Pc [.ref (ad 0), .int p0] (RW g (AD ad 0 45) (wX g ad σ))) (va_Qi (fun (r : Int32) (u : KX) => Post r u) (fun u t => va_P (gD g) vwCl (wX g ad u) t.heap) (AD ad 0 45)) 0 0 (AD ad 0 45) := by
  unfold vc_X2_kindsByRow at hv
  refine Met.ofW (cc := cX2_kindsByRow) (maxL := 4) (ret := (some .int)) (by decide) rfl ?_
  intro p e s m args below meth c s₁ B hml hv0
  obtain ⟨rfl, hP, hK, hE, hD⟩ := hv0
  have hx := B.exec
  have hb := B.bytes
  have hr := B.returns
  have hts := atoms_spec (ws := wsX2_kindsByRow) B.pre
  have hown : s.vm.findClass RX2 = some m.cls := findClass_of_methodNamed B.named
  have hlocks := B.notSynchronized
  have hi0 : ∀ w ∈ wsX00, w ∈ wsX2_kindsByRow := by decide +kernel
  have hi2 : ∀ w ∈ wsX20, w ∈ wsX2_kindsByRow := by decide +kernel
  have k0 := hts (.fieldLink RX2 19 "JuryHearsAnswers" "trial" "LJuryHearsAnswers$Court;") (by decide +kernel)
  have k1 := hts (.fieldLink RX2 10 "JuryHearsAnswers" "now" "LJuryHearsAnswers$Court;") (by decide +kernel)
  have k2 := hts (.fieldLink RX2 81 "JuryHearsAnswers$Court" "kind" "[I") (by decide +kernel)
  have hS : va_S (AD ad 0 45) s.heap s.heap [] := va_S.rf
  have hP : va_P (gD g) vwCl (wX g ad σ) s.heap := hP
  have hl := lv_entry ([.ref (ad 0), .int p0]) (n := 4) (Nat.le_of_ble_eq_true rfl)
  rw [lg_entry_eq]
  generalize (lg_sl ([.ref (ad 0), .int p0]) ++ List.replicate (4 - (lg_sl ([.ref (ad 0), .int p0])).length) Slot.unset).toArray = ls at hl ⊢
  have hl : lv_has ls 4 [(0, .ref (ad 0)), (1, .int p0)] := hl
  have hv := hv (fun (x2 : Int32) (x3 : Int32) (s_trial : KC) => ∀ (H : Heap) (locs : List Loc) (ls : Array Slot), va_P (gD g) vwCl (wX g ad ((xNow σ), (xTaken σ), s_trial, (xScr σ), (xRow σ), (xRefus σ), (xKept σ), (xRowLen σ), (xIsTaken σ))) H → va_D (AD ad 0 45) (wX g ad ((xNow σ), (xTaken σ), s_trial, (xScr σ), (xRow σ), (xRefus σ), (xKept σ), (xRowLen σ), (xIsTaken σ))) → va_S (AD ad 0 45) s.heap H locs → lv_has ls 4 [(0, .ref (ad 0)), (1, .int p0), (2, .int x2), (3, .int x3)] → W p l e { frames := 4, cells := 0, slots := 0, locals := 93 } s m ([.ref (ad 0), .int p0] : List Value).toArray below meth c H locs 0 0 (MQ below (va_Qi (fun (r : Int32) (u : KX) => Post r u) (fun u t => va_P (gD g) vwCl (wX g ad u) t.heap) (AD ad 0 45)) ([.ref (ad 0), .int p0] : List Value).toArray s 0 0 (AD ad 0 45)) (F0 m 15 ls []))
  have hv := hv (by
    intro x2 x3 s_trial hv H locs ls hP hD hS hl
    refine lv_iload_n hx hb dX2_kindsByRow_15 rfl (lv_at hl 3 rfl) ?_
    refine lv_bipush (v := 6) hx hb dX2_kindsByRow_16 (by decide) ?_
    refine lv_icmp_ge (tgt := 51) hx hb dX2_kindsByRow_18 (by decide) (fun c18 => ?_) (fun c18 => ?_)
    · have hv := hv.1 c18
      refine lv_iload_n hx hb dX2_kindsByRow_51 rfl (lv_at hl 2 rfl) ?_
      exact W.iret (v := x2) hx hb hr (fun t ht hW => ⟨⟨x2, ((xNow σ), (xTaken σ), s_trial, (xScr σ), (xRow σ), (xRefus σ), (xKept σ), (xRowLen σ), (xIsTaken σ)), rfl, hv, P_at ht hP⟩, hS.F ht⟩) hS.2.2 dX2_kindsByRow_52
    · have hv := hv.2 c18
      refine lv_aload_n hx hb dX2_kindsByRow_21 rfl (lv_at hl 0 rfl) ?_
      refine va_get (D := gD g) (ci := 2) (v := .ref (ad 30)) (C := RX2) (T := TX2) (N := 9) hx hb hts hi2 hown hK hP 0 rfl rfl 2 (by decide) k0 (fun _ h9 => h9) rfl dX2_kindsByRow_22 ?_
      refine va_get (D := gD g) (ci := 0) (v := .ref (ad 36)) (C := RX0) (T := TX0) (N := 17) hx hb hts hi0 hown hK hP 30 rfl rfl 10 (by decide) k2 (fun _ h9 => h9) rfl dX2_kindsByRow_25 ?_
      refine lv_iload_n hx hb dX2_kindsByRow_28 rfl (lv_at hl 1 rfl) ?_
      refine lv_iload_n hx hb dX2_kindsByRow_29 rfl (lv_at hl 3 rfl) ?_
      have h9 := hv.1
      have hv := hv.2
      refine va_iast (f := (sKind (cS s_trial))) (n := 5) hx hb hK hP hD hS 36 0 rfl rfl h9 dX2_kindsByRow_30 (fun H locs hP hD hS => ?_)
      have hP : va_P (gD g) vwCl (wX g ad ((xNow σ), (xTaken σ), (((sCase (cS s_trial)), (sAsked (cS s_trial)), (sNq (cS s_trial)), (sNw (cS s_trial)), (sNh (cS s_trial)), (sForm (cS s_trial)), (sFirst (cS s_trial)), (sSecond (cS s_trial)), (upd (sKind (cS s_trial)) (p0).toNatClampNeg x3), (sFigure (cS s_trial)), (sKnows (cS s_trial)), (sWhom (cS s_trial)), (sWhat (cS s_trial)), (sSaid (cS s_trial)), (sWhen (cS s_trial))), (cNeeded s_trial), (cTruth s_trial)), (xScr σ), (xRow σ), (xRefus σ), (xKept σ), (xRowLen σ), (xIsTaken σ))) H := hP
      have hD : va_D (AD ad 0 45) (wX g ad ((xNow σ), (xTaken σ), (((sCase (cS s_trial)), (sAsked (cS s_trial)), (sNq (cS s_trial)), (sNw (cS s_trial)), (sNh (cS s_trial)), (sForm (cS s_trial)), (sFirst (cS s_trial)), (sSecond (cS s_trial)), (upd (sKind (cS s_trial)) (p0).toNatClampNeg x3), (sFigure (cS s_trial)), (sKnows (cS s_trial)), (sWhom (cS s_trial)), (sWhat (cS s_trial)), (sSaid (cS s_trial)), (sWhen (cS s_trial))), (cNeeded s_trial), (cTruth s_trial)), (xScr σ), (xRow σ), (xRefus σ), (xKept σ), (xRowLen σ), (xIsTaken σ))) := hD
      refine lv_aload_n hx hb dX2_kindsByRow_31 rfl (lv_at hl 0 rfl) ?_
      refine lv_iload_n hx hb dX2_kindsByRow_32 rfl (lv_at hl 1 rfl) ?_
      have h8 := hv.1
      have hv := hv.2
      have hPc := hP
      refine ro_int (va_runV (As := [.int p0]) (rest := []) ⟨hx, hb, hml, hown, hts⟩ (h_X2_isByRow g ad ((xNow σ), (xTaken σ), (((sCase (cS s_trial)), (sAsked (cS s_trial)), (sNq (cS s_trial)), (sNw (cS s_trial)), (sNh (cS s_trial)), (sForm (cS s_trial)), (sFirst (cS s_trial)), (sSecond (cS s_trial)), (upd (sKind (cS s_trial)) (p0).toNatClampNeg x3), (sFigure (cS s_trial)), (sKnows (cS s_trial)), (sWhom (cS s_trial)), (sWhat (cS s_trial)), (sSaid (cS s_trial)), (sWhen (cS s_trial))), (cNeeded s_trial), (cTruth s_trial)), (xScr σ), (xRow σ), (xRefus σ), (xKept σ), (xRowLen σ), (xIsTaken σ)) p0 h8) (cwV 1 hts gX2_kindsByRow_X2_isByRow rfl rfl rfl (by decide +kernel) ⟨Nat.le_of_ble_eq_true rfl, Nat.le_of_ble_eq_true rfl⟩) ⟨RO_blind, va_recv hK hP (ci := 2) (q0 := 0) rfl rfl, fun U hU hW => ⟨rfl, by rw [hU]; exact hPc, va_K.moved hW.alike hK, hE.call hW hU hS (fun _ h => h.elim)⟩⟩ rfl rfl hl.1 rfl (lv_room (Nat.le_of_ble_eq_true rfl)) dX2_kindsByRow_33 ⟨Nat.le_of_ble_eq_true rfl, Nat.le_of_ble_eq_true rfl⟩) hS hP (fun r H locs hw hP hS => ?_)
      subst r
      refine lv_if_eq (tgt := 45) hx hb dX2_kindsByRow_36 (by decide) (fun c36 => ?_) (fun c36 => ?_)
      · have hv := hv.1 c36
        refine lv_iinc (v := (x3 + 1)) (lv' := [(3, .int (x3 + 1)), (0, .ref (ad 0)), (1, .int p0), (2, .int x2)]) hx hb dX2_kindsByRow_45 hl (k := 3) rfl (by first | rfl | exact congrArg _ (by decide)) (by decide) rfl (fun ls hl => ?_)
        refine lv_goto (tgt := 15) hx hb dX2_kindsByRow_48 (by decide) ?_
        exact hv H locs ls hP hD hS (lv_sub hl [1, 2, 3, 0] rfl)
      · have hv := hv.2 c36
        refine lv_iload_n hx hb dX2_kindsByRow_39 rfl (lv_at hl 2 rfl) ?_
        refine lv_iconst (v := 1) hx hb dX2_kindsByRow_40 (by decide) ?_
        refine lv_iload_n hx hb dX2_kindsByRow_41 rfl (lv_at hl 3 rfl) ?_
        refine lv_ishl hx hb dX2_kindsByRow_42 ?_
        refine lv_ior hx hb dX2_kindsByRow_43 ?_
        refine lv_istore_n (lv' := [(2, .int (x2 ||| (1 <<< (x3 &&& 31)))), (0, .ref (ad 0)), (1, .int p0), (3, .int x3)]) hx hb dX2_kindsByRow_44 rfl hl (by decide) rfl (fun ls hl => ?_)
        refine lv_iinc (v := (x3 + 1)) (lv' := [(3, .int (x3 + 1)), (2, .int (x2 ||| (1 <<< (x3 &&& 31)))), (0, .ref (ad 0)), (1, .int p0)]) hx hb dX2_kindsByRow_45 hl (k := 3) rfl (by first | rfl | exact congrArg _ (by decide)) (by decide) rfl (fun ls hl => ?_)
        refine lv_goto (tgt := 15) hx hb dX2_kindsByRow_48 (by decide) ?_
        exact hv H locs ls hP hD hS (lv_sub hl [2, 3, 1, 0] rfl))
  obtain ⟨H, hH⟩ : ∃ z, z = s.heap := ⟨_, rfl⟩
  obtain ⟨locs, hL⟩ : ∃ z : List Loc, z = [] := ⟨_, rfl⟩
  rw [← hL] at hS ⊢
  have hS : va_S (AD ad 0 45) s.heap H locs := by rw [hH]; exact hS
  rw [← hH] at hP ⊢
  clear hH hL
  refine lv_aload_n hx hb dX2_kindsByRow_0 rfl (lv_at hl 0 rfl) ?_
  refine va_get (D := gD g) (ci := 2) (v := .ref (ad 30)) (C := RX2) (T := TX2) (N := 9) hx hb hts hi2 hown hK hP 0 rfl rfl 2 (by decide) k0 (fun _ h9 => h9) rfl dX2_kindsByRow_1 ?_
  refine lv_aload_n hx hb dX2_kindsByRow_4 rfl (lv_at hl 0 rfl) ?_
  refine va_get (D := gD g) (ci := 2) (v := .ref (ad 4)) (C := RX2) (T := TX2) (N := 9) hx hb hts hi2 hown hK hP 0 rfl rfl 0 (by decide) k1 (fun _ h9 => h9) rfl dX2_kindsByRow_5 ?_
  have h8 := hv.1
  have hv := hv.2
  have hPc : va_P (gD g) vwCl (wT g ad ((xNow σ), (xTaken σ), (xTrial σ))) H := hP.sub [4, 5, 6, 7, 8, 9, 10, 11, 12, 13, 14, 15, 16, 17, 18, 19, 20, 21, 22, 23, 24, 25, 26, 27, 28, 29, 30, 31, 32, 33, 34, 35, 36, 37, 38, 39, 40, 41, 42] rfl
  have hDc : va_D (AD ad 4 39) (wT g ad ((xNow σ), (xTaken σ), (xTrial σ))) := ⟨(hD.sub [4, 5, 6, 7, 8, 9, 10, 11, 12, 13, 14, 15, 16, 17, 18, 19, 20, 21, 22, 23, 24, 25, 26, 27, 28, 29, 30, 31, 32, 33, 34, 35, 36, 37, 38, 39, 40, 41, 42] (by decide) rfl).1, AD_of rfl⟩
  have hAc : ∀ q, (AD ad 4 39) q → (AD ad 0 45) q := AD_sub (by decide) (by decide)
  refine rw_void (va_runV (As := [.ref (ad 4)]) (rest := []) ⟨hx, hb, hml, hown, hts⟩ (h_X0_becomes_30_4 g ad ((xNow σ), (xTaken σ), (xTrial σ)) h8) (cwV 1 hts gX2_kindsByRow_X0_becomes rfl rfl rfl (by decide +kernel) ⟨Nat.le_of_ble_eq_true rfl, Nat.le_of_ble_eq_true rfl⟩) ⟨RW_blind, va_recv hK hP (ci := 0) (q0 := 30) rfl rfl, fun U hU hW => ⟨rfl, by rw [hU]; exact hPc, va_K.moved hW.alike hK, hE.call hW hU hS hAc, hDc⟩⟩ rfl rfl hl.1 rfl (lv_room (Nat.le_of_ble_eq_true rfl)) dX2_kindsByRow_8 ⟨Nat.le_of_ble_eq_true rfl, Nat.le_of_ble_eq_true rfl⟩) hS hAc (fun u H1 locs hw hP1 hk hS => ?_)
  subst u
  have hP := mid_at hP hD 4 39 (b := wT g ad ((xNow σ), (xTaken σ), (xTrial σ))) rfl (AD_at rfl) hk hP1 rfl
  generalize H1 = H at hP hS ⊢
  have hP : va_P (gD g) vwCl (wX g ad ((xNow σ), (xTaken σ), ((xNow σ)), (xScr σ), (xRow σ), (xRefus σ), (xKept σ), (xRowLen σ), (xIsTaken σ))) H := hP
  have hD : va_D (AD ad 0 45) (wX g ad ((xNow σ), (xTaken σ), ((xNow σ)), (xScr σ), (xRow σ), (xRefus σ), (xKept σ), (xRowLen σ), (xIsTaken σ))) := hD.addr (by rfl)
  refine lv_iconst (v := 0) hx hb dX2_kindsByRow_11 (by decide) ?_
  refine lv_istore_n (lv' := [(2, .int 0), (0, .ref (ad 0)), (1, .int p0)]) hx hb dX2_kindsByRow_12 rfl hl (by decide) rfl (fun ls hl => ?_)
  refine lv_iconst (v := 0) hx hb dX2_kindsByRow_13 (by decide) ?_
  refine lv_istore_n (lv' := [(3, .int 0), (2, .int 0), (0, .ref (ad 0)), (1, .int p0)]) hx hb dX2_kindsByRow_14 rfl hl (by decide) rfl (fun ls hl => ?_)
  exact hv H locs ls hP hD hS (lv_sub hl [2, 3, 1, 0] rfl)

set_option maxHeartbeats 4000000 in
set_option maxRecDepth 100000 in
theorem m_X2_knownByRow (l : Launch) (h_X0_becomes_30_4 : C_X0_becomes_30_4 l) (h_X2_isByRow : C_X2_isByRow l) (g : CX) (ad : Nat → Nat) (σ : KX) (p0 : Int32) (Post : Int32 → KX → Prop) (hv : vc_X2_knownByRow σ p0 Post) : Met l yX2_knownByRow wsX2_knownByRow { frames := 4, cells := 0, slots := 0, locals := 93 } (va_Pc [.ref (ad 0), .int p0] (RW g (AD ad 0 45) (wX g ad σ))) (va_Qi (fun (r : Int32) (u : KX) => Post r u) (fun u t => va_P (gD g) vwCl (wX g ad u) t.heap) (AD ad 0 45)) 0 0 (AD ad 0 45) := by
  unfold vc_X2_knownByRow at hv
  refine Met.ofW (cc := cX2_knownByRow) (maxL := 4) (ret := (some .int)) (by decide) rfl ?_
  intro p e s m args below meth c s₁ B hml hv0
  obtain ⟨rfl, hP, hK, hE, hD⟩ := hv0
  have hx := B.exec
  have hb := B.bytes
  have hr := B.returns
  have hts := atoms_spec (ws := wsX2_knownByRow) B.pre
  have hown : s.vm.findClass RX2 = some m.cls := findClass_of_methodNamed B.named
  have hlocks := B.notSynchronized
  have hi0 : ∀ w ∈ wsX00, w ∈ wsX2_knownByRow := by decide +kernel
  have hi2 : ∀ w ∈ wsX20, w ∈ wsX2_knownByRow := by decide +kernel
  have k0 := hts (.fieldLink RX2 19 "JuryHearsAnswers" "trial" "LJuryHearsAnswers$Court;") (by decide +kernel)
  have k1 := hts (.fieldLink RX2 10 "JuryHearsAnswers" "now" "LJuryHearsAnswers$Court;") (by decide +kernel)
  have k2 := hts (.fieldLink RX2 87 "JuryHearsAnswers$Court" "known" "[I") (by decide +kernel)
  have hS : va_S (AD ad 0 45) s.heap s.heap [] := va_S.rf
  have hP : va_P (gD g) vwCl (wX g ad σ) s.heap := hP
  have hl := lv_entry ([.ref (ad 0), .int p0]) (n := 4) (Nat.le_of_ble_eq_true rfl)
  rw [lg_entry_eq]
  generalize (lg_sl ([.ref (ad 0), .int p0]) ++ List.replicate (4 - (lg_sl ([.ref (ad 0), .int p0])).length) Slot.unset).toArray = ls at hl ⊢
  have hl : lv_has ls 4 [(0, .ref (ad 0)), (1, .int p0)] := hl
  have hv := hv (fun (x2 : Int32) (x3 : Int32) (s_trial : KC) => ∀ (H : Heap) (locs : List Loc) (ls : Array Slot), va_P (gD g) vwCl (wX g ad ((xNow σ), (xTaken σ), s_trial, (xScr σ), (xRow σ), (xRefus σ), (xKept σ), (xRowLen σ), (xIsTaken σ))) H → va_D (AD ad 0 45) (wX g ad ((xNow σ), (xTaken σ), s_trial, (xScr σ), (xRow σ), (xRefus σ), (xKept σ), (xRowLen σ), (xIsTaken σ))) → va_S (AD ad 0 45) s.heap H locs → lv_has ls 4 [(0, .ref (ad 0)), (1, .int p0), (2, .int x2), (3, .int x3)] → W p l e { frames := 4, cells := 0, slots := 0, locals := 93 } s m ([.ref (ad 0), .int p0] : List Value).toArray below meth c H locs 0 0 (MQ below (va_Qi (fun (r : Int32) (u : KX) => Post r u) (fun u t => va_P (gD g) vwCl (wX g ad u) t.heap) (AD ad 0 45)) ([.ref (ad 0), .int p0] : List Value).toArray s 0 0 (AD ad 0 45)) (F0 m 15 ls []))
  have hv := hv (by
    intro x2 x3 s_trial hv H locs ls hP hD hS hl
    refine lv_iload_n hx hb dX2_knownByRow_15 rfl (lv_at hl 3 rfl) ?_
    refine lv_bipush (v := 63) hx hb dX2_knownByRow_16 (by decide) ?_
    refine lv_icmp_gt (tgt := 48) hx hb dX2_knownByRow_18 (by decide) (fun c18 => ?_) (fun c18 => ?_)
    · have hv := hv.1 c18
      refine lv_iload_n hx hb dX2_knownByRow_48 rfl (lv_at hl 2 rfl) ?_
      exact W.iret (v := x2) hx hb hr (fun t ht hW => ⟨⟨x2, ((xNow σ), (xTaken σ), s_trial, (xScr σ), (xRow σ), (xRefus σ), (xKept σ), (xRowLen σ), (xIsTaken σ)), rfl, hv, P_at ht hP⟩, hS.F ht⟩) hS.2.2 dX2_knownByRow_49
    · have hv := hv.2 c18
      refine lv_aload_n hx hb dX2_knownByRow_21 rfl (lv_at hl 0 rfl) ?_
      refine va_get (D := gD g) (ci := 2) (v := .ref (ad 30)) (C := RX2) (T := TX2) (N := 9) hx hb hts hi2 hown hK hP 0 rfl rfl 2 (by decide) k0 (fun _ h9 => h9) rfl dX2_knownByRow_22 ?_
      refine va_get (D := gD g) (ci := 0) (v := .ref (ad 38)) (C := RX0) (T := TX0) (N := 17) hx hb hts hi0 hown hK hP 30 rfl rfl 12 (by decide) k2 (fun _ h9 => h9) rfl dX2_knownByRow_25 ?_
      refine lv_iload_n hx hb dX2_knownByRow_28 rfl (lv_at hl 1 rfl) ?_
      refine lv_iload_n hx hb dX2_knownByRow_29 rfl (lv_at hl 3 rfl) ?_
      have h9 := hv.1
      have hv := hv.2
      refine va_iast (f := (sKnows (cS s_trial))) (n := 5) hx hb hK hP hD hS 38 0 rfl rfl h9 dX2_knownByRow_30 (fun H locs hP hD hS => ?_)
      have hP : va_P (gD g) vwCl (wX g ad ((xNow σ), (xTaken σ), (((sCase (cS s_trial)), (sAsked (cS s_trial)), (sNq (cS s_trial)), (sNw (cS s_trial)), (sNh (cS s_trial)), (sForm (cS s_trial)), (sFirst (cS s_trial)), (sSecond (cS s_trial)), (sKind (cS s_trial)), (sFigure (cS s_trial)), (upd (sKnows (cS s_trial)) (p0).toNatClampNeg x3), (sWhom (cS s_trial)), (sWhat (cS s_trial)), (sSaid (cS s_trial)), (sWhen (cS s_trial))), (cNeeded s_trial), (cTruth s_trial)), (xScr σ), (xRow σ), (xRefus σ), (xKept σ), (xRowLen σ), (xIsTaken σ))) H := hP
      have hD : va_D (AD ad 0 45) (wX g ad ((xNow σ), (xTaken σ), (((sCase (cS s_trial)), (sAsked (cS s_trial)), (sNq (cS s_trial)), (sNw (cS s_trial)), (sNh (cS s_trial)), (sForm (cS s_trial)), (sFirst (cS s_trial)), (sSecond (cS s_trial)), (sKind (cS s_trial)), (sFigure (cS s_trial)), (upd (sKnows (cS s_trial)) (p0).toNatClampNeg x3), (sWhom (cS s_trial)), (sWhat (cS s_trial)), (sSaid (cS s_trial)), (sWhen (cS s_trial))), (cNeeded s_trial), (cTruth s_trial)), (xScr σ), (xRow σ), (xRefus σ), (xKept σ), (xRowLen σ), (xIsTaken σ))) := hD
      refine lv_aload_n hx hb dX2_knownByRow_31 rfl (lv_at hl 0 rfl) ?_
      refine lv_iload_n hx hb dX2_knownByRow_32 rfl (lv_at hl 1 rfl) ?_
      have h8 := hv.1
      have hv := hv.2
      have hPc := hP
      refine ro_int (va_runV (As := [.int p0]) (rest := []) ⟨hx, hb, hml, hown, hts⟩ (h_X2_isByRow g ad ((xNow σ), (xTaken σ), (((sCase (cS s_trial)), (sAsked (cS s_trial)), (sNq (cS s_trial)), (sNw (cS s_trial)), (sNh (cS s_trial)), (sForm (cS s_trial)), (sFirst (cS s_trial)), (sSecond (cS s_trial)), (sKind (cS s_trial)), (sFigure (cS s_trial)), (upd (sKnows (cS s_trial)) (p0).toNatClampNeg x3), (sWhom (cS s_trial)), (sWhat (cS s_trial)), (sSaid (cS s_trial)), (sWhen (cS s_trial))), (cNeeded s_trial), (cTruth s_trial)), (xScr σ), (xRow σ), (xRefus σ), (xKept σ), (xRowLen σ), (xIsTaken σ)) p0 h8) (cwV 1 hts gX2_knownByRow_X2_isByRow rfl rfl rfl (by decide +kernel) ⟨Nat.le_of_ble_eq_true rfl, Nat.le_of_ble_eq_true rfl⟩) ⟨RO_blind, va_recv hK hP (ci := 2) (q0 := 0) rfl rfl, fun U hU hW => ⟨rfl, by rw [hU]; exact hPc, va_K.moved hW.alike hK, hE.call hW hU hS (fun _ h => h.elim)⟩⟩ rfl rfl hl.1 rfl (lv_room (Nat.le_of_ble_eq_true rfl)) dX2_knownByRow_33 ⟨Nat.le_of_ble_eq_true rfl, Nat.le_of_ble_eq_true rfl⟩) hS hP (fun r H locs hw hP hS => ?_)
      subst r
      refine lv_if_eq (tgt := 42) hx hb dX2_knownByRow_36 (by decide) (fun c36 => ?_) (fun c36 => ?_)
      · have hv := hv.1 c36
        refine lv_iinc (v := (x3 + 1)) (lv' := [(3, .int (x3 + 1)), (0, .ref (ad 0)), (1, .int p0), (2, .int x2)]) hx hb dX2_knownByRow_42 hl (k := 3) rfl (by first | rfl | exact congrArg _ (by decide)) (by decide) rfl (fun ls hl => ?_)
        refine lv_goto (tgt := 15) hx hb dX2_knownByRow_45 (by decide) ?_
        exact hv H locs ls hP hD hS (lv_sub hl [1, 2, 3, 0] rfl)
      · have hv := hv.2 c36
        refine lv_iinc (v := (x2 + 1)) (lv' := [(2, .int (x2 + 1)), (0, .ref (ad 0)), (1, .int p0), (3, .int x3)]) hx hb dX2_knownByRow_39 hl (k := 2) rfl (by first | rfl | exact congrArg _ (by decide)) (by decide) rfl (fun ls hl => ?_)
        refine lv_iinc (v := (x3 + 1)) (lv' := [(3, .int (x3 + 1)), (2, .int (x2 + 1)), (0, .ref (ad 0)), (1, .int p0)]) hx hb dX2_knownByRow_42 hl (k := 3) rfl (by first | rfl | exact congrArg _ (by decide)) (by decide) rfl (fun ls hl => ?_)
        refine lv_goto (tgt := 15) hx hb dX2_knownByRow_45 (by decide) ?_
        exact hv H locs ls hP hD hS (lv_sub hl [2, 3, 1, 0] rfl))
  obtain ⟨H, hH⟩ : ∃ z, z = s.heap := ⟨_, rfl⟩
  obtain ⟨locs, hL⟩ : ∃ z : List Loc, z = [] := ⟨_, rfl⟩
  rw [← hL] at hS ⊢
  have hS : va_S (AD ad 0 45) s.heap H locs := by rw [hH]; exact hS
  rw [← hH] at hP ⊢
  clear hH hL
  refine lv_aload_n hx hb dX2_knownByRow_0 rfl (lv_at hl 0 rfl) ?_
  refine va_get (D := gD g) (ci := 2) (v := .ref (ad 30)) (C := RX2) (T := TX2) (N := 9) hx hb hts hi2 hown hK hP 0 rfl rfl 2 (by decide) k0 (fun _ h9 => h9) rfl dX2_knownByRow_1 ?_
  refine lv_aload_n hx hb dX2_knownByRow_4 rfl (lv_at hl 0 rfl) ?_
  refine va_get (D := gD g) (ci := 2) (v := .ref (ad 4)) (C := RX2) (T := TX2) (N := 9) hx hb hts hi2 hown hK hP 0 rfl rfl 0 (by decide) k1 (fun _ h9 => h9) rfl dX2_knownByRow_5 ?_
  have h8 := hv.1
  have hv := hv.2
  have hPc : va_P (gD g) vwCl (wT g ad ((xNow σ), (xTaken σ), (xTrial σ))) H := hP.sub [4, 5, 6, 7, 8, 9, 10, 11, 12, 13, 14, 15, 16, 17, 18, 19, 20, 21, 22, 23, 24, 25, 26, 27, 28, 29, 30, 31, 32, 33, 34, 35, 36, 37, 38, 39, 40, 41, 42] rfl
  have hDc : va_D (AD ad 4 39) (wT g ad ((xNow σ), (xTaken σ), (xTrial σ))) := ⟨(hD.sub [4, 5, 6, 7, 8, 9, 10, 11, 12, 13, 14, 15, 16, 17, 18, 19, 20, 21, 22, 23, 24, 25, 26, 27, 28, 29, 30, 31, 32, 33, 34, 35, 36, 37, 38, 39, 40, 41, 42] (by decide) rfl).1, AD_of rfl⟩
  have hAc : ∀ q, (AD ad 4 39) q → (AD ad 0 45) q := AD_sub (by decide) (by decide)
  refine rw_void (va_runV (As := [.ref (ad 4)]) (rest := []) ⟨hx, hb, hml, hown, hts⟩ (h_X0_becomes_30_4 g ad ((xNow σ), (xTaken σ), (xTrial σ)) h8) (cwV 1 hts gX2_knownByRow_X0_becomes rfl rfl rfl (by decide +kernel) ⟨Nat.le_of_ble_eq_true rfl, Nat.le_of_ble_eq_true rfl⟩) ⟨RW_blind, va_recv hK hP (ci := 0) (q0 := 30) rfl rfl, fun U hU hW => ⟨rfl, by rw [hU]; exact hPc, va_K.moved hW.alike hK, hE.call hW hU hS hAc, hDc⟩⟩ rfl rfl hl.1 rfl (lv_room (Nat.le_of_ble_eq_true rfl)) dX2_knownByRow_8 ⟨Nat.le_of_ble_eq_true rfl, Nat.le_of_ble_eq_true rfl⟩) hS hAc (fun u H1 locs hw hP1 hk hS => ?_)
  subst u
  have hP := mid_at hP hD 4 39 (b := wT g ad ((xNow σ), (xTaken σ), (xTrial σ))) rfl (AD_at rfl) hk hP1 rfl
  generalize H1 = H at hP hS ⊢
  have hP : va_P (gD g) vwCl (wX g ad ((xNow σ), (xTaken σ), ((xNow σ)), (xScr σ), (xRow σ), (xRefus σ), (xKept σ), (xRowLen σ), (xIsTaken σ))) H := hP
  have hD : va_D (AD ad 0 45) (wX g ad ((xNow σ), (xTaken σ), ((xNow σ)), (xScr σ), (xRow σ), (xRefus σ), (xKept σ), (xRowLen σ), (xIsTaken σ))) := hD.addr (by rfl)
  refine lv_iconst (v := 0) hx hb dX2_knownByRow_11 (by decide) ?_
  refine lv_istore_n (lv' := [(2, .int 0), (0, .ref (ad 0)), (1, .int p0)]) hx hb dX2_knownByRow_12 rfl hl (by decide) rfl (fun ls hl => ?_)
  refine lv_iconst (v := 0) hx hb dX2_knownByRow_13 (by decide) ?_
  refine lv_istore_n (lv' := [(3, .int 0), (2, .int 0), (0, .ref (ad 0)), (1, .int p0)]) hx hb dX2_knownByRow_14 rfl hl (by decide) rfl (fun ls hl => ?_)
  exact hv H locs ls hP hD hS (lv_sub hl [2, 3, 1, 0] rfl)

set_option maxHeartbeats 4000000 in
set_option maxRecDepth 100000 in
theorem m_X2_firstWrongInRow (l : Launch) (h_X0_hasPlace : C_X0_hasPlace l) (g : CX) (ad : Nat → Nat) (σ : KX)  (Post : Int32 → Prop) (hv : vc_X2_firstWrongInRow σ Post) : Met l yX2_firstWrongInRow wsX2_firstWrongInRow { frames := 1, cells := 0, slots := 0, locals := 21 } (va_Pc [.ref (ad 0)] (RO g (wX g ad σ))) (va_Qi (fun r (_ : Unit) => Post r) (fun _ _ => True) A0) 0 0 A0 := by
  unfold vc_X2_firstWrongInRow at hv
  refine Met.ofW (cc := cX2_firstWrongInRow) (maxL := 2) (ret := (some .int)) (by decide) rfl ?_
  intro p e s m args below meth c s₁ B hml hv0
  obtain ⟨rfl, hP, hK, hE⟩ := hv0
  have hx := B.exec
  have hb := B.bytes
  have hr := B.returns
  have hts := atoms_spec (ws := wsX2_firstWrongInRow) B.pre
  have hown : s.vm.findClass RX2 = some m.cls := findClass_of_methodNamed B.named
  have hlocks := B.notSynchronized
  have hi0 : ∀ w ∈ wsX00, w ∈ wsX2_firstWrongInRow := by decide +kernel
  have hi2 : ∀ w ∈ wsX20, w ∈ wsX2_firstWrongInRow := by decide +kernel
  have k0 := hts (.fieldLink RX2 202 "JuryHearsAnswers" "rowLength" "I") (by decide +kernel)
  have k1 := hts (.fieldLink RX2 10 "JuryHearsAnswers" "now" "LJuryHearsAnswers$Court;") (by decide +kernel)
  have k2 := hts (.fieldLink RX2 106 "JuryHearsAnswers$Court" "heardAnswer" "[I") (by decide +kernel)
  have k3 := hts (.fieldLink RX2 29 "JuryHearsAnswers" "rowNumbers" "[I") (by decide +kernel)
  have hS : va_S A0 s.heap s.heap [] := va_S.rf
  have hP : va_P (gD g) vwCl (wX g ad σ) s.heap := hP
  have hl := lv_entry ([.ref (ad 0)]) (n := 2) (Nat.le_of_ble_eq_true rfl)
  rw [lg_entry_eq]
  generalize (lg_sl ([.ref (ad 0)]) ++ List.replicate (2 - (lg_sl ([.ref (ad 0)])).length) Slot.unset).toArray = ls at hl ⊢
  have hl : lv_has ls 2 [(0, .ref (ad 0))] := hl
  have hv := hv (fun (x1 : Int32) => ∀ (H : Heap) (locs : List Loc) (ls : Array Slot), va_P (gD g) vwCl (wX g ad σ) H → va_S A0 s.heap H locs → lv_has ls 2 [(0, .ref (ad 0)), (1, .int x1)] → W p l e { frames := 1, cells := 0, slots := 0, locals := 21 } s m ([.ref (ad 0)] : List Value).toArray below meth c H locs 0 0 (MQ below (va_Qi (fun r (_ : Unit) => Post r) (fun _ _ => True) A0) ([.ref (ad 0)] : List Value).toArray s 0 0 A0) (F0 m 2 ls []))
  have hv := hv (by
    intro x1 hv H locs ls hP hS hl
    refine lv_iload_n hx hb dX2_firstWrongInRow_2 rfl (lv_at hl 1 rfl) ?_
    refine lv_aload_n hx hb dX2_firstWrongInRow_3 rfl (lv_at hl 0 rfl) ?_
    refine va_get (D := gD g) (ci := 2) (v := .int (xRowLen σ)) (C := RX2) (T := TX2) (N := 9) hx hb hts hi2 hown hK hP 0 rfl rfl 7 (by decide) k0 (fun _ h9 => h9) rfl dX2_firstWrongInRow_4 ?_
    refine lv_icmp_ge (tgt := 47) hx hb dX2_firstWrongInRow_7 (by decide) (fun c7 => ?_) (fun c7 => ?_)
    · have hv := hv.1 c7
      refine lv_bipush (v := (-9)) hx hb dX2_firstWrongInRow_47 (by decide) ?_
      exact W.iret (v := (-9)) hx hb hr (fun t ht hW => ⟨⟨(-9), (), rfl, hv, trivial⟩, hS.F ht⟩) hS.2.2 dX2_firstWrongInRow_49
    · have hv := hv.2 c7
      refine lv_aload_n hx hb dX2_firstWrongInRow_10 rfl (lv_at hl 0 rfl) ?_
      refine va_get (D := gD g) (ci := 2) (v := .ref (ad 4)) (C := RX2) (T := TX2) (N := 9) hx hb hts hi2 hown hK hP 0 rfl rfl 0 (by decide) k1 (fun _ h9 => h9) rfl dX2_firstWrongInRow_11 ?_
      refine lv_iload_n hx hb dX2_firstWrongInRow_14 rfl (lv_at hl 1 rfl) ?_
      have hPc : va_P (gD g) vwCl (wC g ad 4 (xNow σ)) H := hP.sub [4, 5, 6, 7, 8, 9, 10, 11, 12, 13, 14, 15, 16] rfl
      refine ro_int (va_runV (As := [.int x1]) (rest := []) ⟨hx, hb, hml, hown, hts⟩ (h_X0_hasPlace g ad 4 (xNow σ) x1) (cwV 1 hts gX2_firstWrongInRow_X0_hasPlace rfl rfl rfl (by decide +kernel) ⟨Nat.le_of_ble_eq_true rfl, Nat.le_of_ble_eq_true rfl⟩) ⟨RO_blind, va_recv hK hP (ci := 0) (q0 := 4) rfl rfl, fun U hU hW => ⟨rfl, by rw [hU]; exact hPc, va_K.moved hW.alike hK, hE.call hW hU hS (fun _ h => h.elim)⟩⟩ rfl rfl hl.1 rfl (lv_room (Nat.le_of_ble_eq_true rfl)) dX2_firstWrongInRow_15 ⟨Nat.le_of_ble_eq_true rfl, Nat.le_of_ble_eq_true rfl⟩) hS hP (fun r H locs hw hP hS => ?_)
      subst r
      refine lv_if_eq (tgt := 39) hx hb dX2_firstWrongInRow_18 (by decide) (fun c18 => ?_) (fun c18 => ?_)
      · have hv := hv.1 c18
        refine lv_iload_n hx hb dX2_firstWrongInRow_39 rfl (lv_at hl 1 rfl) ?_
        exact W.iret (v := x1) hx hb hr (fun t ht hW => ⟨⟨x1, (), rfl, hv, trivial⟩, hS.F ht⟩) hS.2.2 dX2_firstWrongInRow_40
      · have hv := hv.2 c18
        refine lv_aload_n hx hb dX2_firstWrongInRow_21 rfl (lv_at hl 0 rfl) ?_
        refine va_get (D := gD g) (ci := 2) (v := .ref (ad 4)) (C := RX2) (T := TX2) (N := 9) hx hb hts hi2 hown hK hP 0 rfl rfl 0 (by decide) k1 (fun _ h9 => h9) rfl dX2_firstWrongInRow_22 ?_
        refine va_get (D := gD g) (ci := 0) (v := .ref (ad 15)) (C := RX0) (T := TX0) (N := 17) hx hb hts hi0 hown hK hP 4 rfl rfl 15 (by decide) k2 (fun _ h9 => h9) rfl dX2_firstWrongInRow_25 ?_
        refine lv_iload_n hx hb dX2_firstWrongInRow_28 rfl (lv_at hl 1 rfl) ?_
        have h9 := hv.1
        have hv := hv.2
        refine va_iald (f := (sSaid (cS (xNow σ)))) (n := 12) hx hb hK hP 15 0 rfl rfl h9 dX2_firstWrongInRow_29 ?_
        refine lv_aload_n hx hb dX2_firstWrongInRow_30 rfl (lv_at hl 0 rfl) ?_
        refine va_get (D := gD g) (ci := 2) (v := .ref (ad 1)) (C := RX2) (T := TX2) (N := 9) hx hb hts hi2 hown hK hP 0 rfl rfl 4 (by decide) k3 (fun _ h9 => h9) rfl dX2_firstWrongInRow_31 ?_
        refine lv_iload_n hx hb dX2_firstWrongInRow_34 rfl (lv_at hl 1 rfl) ?_
        have h9 := hv.1
        have hv := hv.2
        refine va_iald (f := (xRow σ)) (n := 12) hx hb hK hP 1 0 rfl rfl h9 dX2_firstWrongInRow_35 ?_
        refine lv_icmp_eq (tgt := 41) hx hb dX2_firstWrongInRow_36 (by decide) (fun c36 => ?_) (fun c36 => ?_)
        · have hv := hv.1 c36
          refine lv_iinc (v := (x1 + 1)) (lv' := [(1, .int (x1 + 1)), (0, .ref (ad 0))]) hx hb dX2_firstWrongInRow_41 hl (k := 1) rfl (by first | rfl | exact congrArg _ (by decide)) (by decide) rfl (fun ls hl => ?_)
          refine lv_goto (tgt := 2) hx hb dX2_firstWrongInRow_44 (by decide) ?_
          exact hv H locs ls hP hS (lv_sub hl [1, 0] rfl)
        · have hv := hv.2 c36
          refine lv_iload_n hx hb dX2_firstWrongInRow_39 rfl (lv_at hl 1 rfl) ?_
          exact W.iret (v := x1) hx hb hr (fun t ht hW => ⟨⟨x1, (), rfl, hv, trivial⟩, hS.F ht⟩) hS.2.2 dX2_firstWrongInRow_40)
  obtain ⟨H, hH⟩ : ∃ z, z = s.heap := ⟨_, rfl⟩
  obtain ⟨locs, hL⟩ : ∃ z : List Loc, z = [] := ⟨_, rfl⟩
  rw [← hL] at hS ⊢
  have hS : va_S A0 s.heap H locs := by rw [hH]; exact hS
  rw [← hH] at hP ⊢
  clear hH hL
  refine lv_iconst (v := 0) hx hb dX2_firstWrongInRow_0 (by decide) ?_
  refine lv_istore_n (lv' := [(1, .int 0), (0, .ref (ad 0))]) hx hb dX2_firstWrongInRow_1 rfl hl (by decide) rfl (fun ls hl => ?_)
  exact hv H locs ls hP hS (lv_sub hl [1, 0] rfl)

set_option maxHeartbeats 4000000 in
set_option maxRecDepth 100000 in
theorem m_X2_sessions (l : Launch) (h_J13_bitCount_95d88 : C_J13_bitCount_95d88 l) (h_X0_ask : C_X0_ask l) (h_X0_becomes_30_4 : C_X0_becomes_30_4 l) (h_X0_fitting : C_X0_fitting l) (h_X2_drawBelow : C_X2_drawBelow l) (h_X2_drawOn : C_X2_drawOn l) (g : CX) (ad : Nat → Nat) (σ : KX) (p0 : Int32) (p1 : Int32) (p2 : Int32) (Post : Int32 → KX → Prop) (hv : vc_X2_sessions σ p0 p1 p2 Post) : Met l yX2_sessions wsX2_sessions { frames := 5, cells := 0, slots := 0, locals := 114 } (va_Pc [.ref (ad 0), .int p0, .int p1, .int p2] (RW g (AD ad 0 45) (wX g ad σ))) (va_Qi (fun (r : Int32) (u : KX) => Post r u) (fun u t => va_P (gD g) vwCl (wX g ad u) t.heap) (AD ad 0 45)) 0 0 (AD ad 0 45) := by
  unfold vc_X2_sessions at hv
  refine Met.ofW (cc := cX2_sessions) (maxL := 10) (ret := (some .int)) (by decide) rfl ?_
  intro p e s m args below meth c s₁ B hml hv0
  obtain ⟨rfl, hP, hK, hE, hD⟩ := hv0
  have hx := B.exec
  have hb := B.bytes
  have hr := B.returns
  have hts := atoms_spec (ws := wsX2_sessions) B.pre
  have hown : s.vm.findClass RX2 = some m.cls := findClass_of_methodNamed B.named
  have hlocks := B.notSynchronized
  have hi0 : ∀ w ∈ wsX00, w ∈ wsX2_sessions := by decide +kernel
  have hi2 : ∀ w ∈ wsX20, w ∈ wsX2_sessions := by decide +kernel
  have k0 := hts (.fieldLink RX2 19 "JuryHearsAnswers" "trial" "LJuryHearsAnswers$Court;") (by decide +kernel)
  have k1 := hts (.fieldLink RX2 10 "JuryHearsAnswers" "now" "LJuryHearsAnswers$Court;") (by decide +kernel)
  have k2 := hts (.fieldLink RX2 152 "JuryHearsAnswers$Court" "witnesses" "I") (by decide +kernel)
  have k3 := hts (.fieldLink RX2 179 "JuryHearsAnswers$Court" "questions" "I") (by decide +kernel)
  have hS : va_S (AD ad 0 45) s.heap s.heap [] := va_S.rf
  have hP : va_P (gD g) vwCl (wX g ad σ) s.heap := hP
  have hl := lv_entry ([.ref (ad 0), .int p0, .int p1, .int p2]) (n := 10) (Nat.le_of_ble_eq_true rfl)
  rw [lg_entry_eq]
  generalize (lg_sl ([.ref (ad 0), .int p0, .int p1, .int p2]) ++ List.replicate (10 - (lg_sl ([.ref (ad 0), .int p0, .int p1, .int p2])).length) Slot.unset).toArray = ls at hl ⊢
  have hl : lv_has ls 10 [(0, .ref (ad 0)), (1, .int p0), (2, .int p1), (3, .int p2)] := hl
  have hv := hv (fun (x4 : Int32) (x5 : Int32) (x6 : Int32) (x7 : Int32) (s_trial : KC) => ∀ (H : Heap) (locs : List Loc) (ls : Array Slot), va_P (gD g) vwCl (wX g ad ((xNow σ), (xTaken σ), s_trial, (xScr σ), (xRow σ), (xRefus σ), (xKept σ), (xRowLen σ), (xIsTaken σ))) H → va_D (AD ad 0 45) (wX g ad ((xNow σ), (xTaken σ), s_trial, (xScr σ), (xRow σ), (xRefus σ), (xKept σ), (xRowLen σ), (xIsTaken σ))) → va_S (AD ad 0 45) s.heap H locs → lv_has ls 10 [(0, .ref (ad 0)), (1, .int p0), (3, .int p2), (4, .int x4), (5, .int x5), (6, .int x6), (7, .int x7)] → W p l e { frames := 5, cells := 0, slots := 0, locals := 114 } s m ([.ref (ad 0), .int p0, .int p1, .int p2] : List Value).toArray below meth c H locs 0 0 (MQ below (va_Qi (fun (r : Int32) (u : KX) => Post r u) (fun u t => va_P (gD g) vwCl (wX g ad u) t.heap) (AD ad 0 45)) ([.ref (ad 0), .int p0, .int p1, .int p2] : List Value).toArray s 0 0 (AD ad 0 45)) (F0 m 12 ls []))
  have hv := hv (fun (x4 : Int32) (x5 : Int32) (x6 : Int32) (x7 : Int32) (x8 : Int32) (s_trial : KC) => ∀ (H : Heap) (locs : List Loc) (ls : Array Slot), va_P (gD g) vwCl (wX g ad ((xNow σ), (xTaken σ), s_trial, (xScr σ), (xRow σ), (xRefus σ), (xKept σ), (xRowLen σ), (xIsTaken σ))) H → va_D (AD ad 0 45) (wX g ad ((xNow σ), (xTaken σ), s_trial, (xScr σ), (xRow σ), (xRefus σ), (xKept σ), (xRowLen σ), (xIsTaken σ))) → va_S (AD ad 0 45) s.heap H locs → lv_has ls 10 [(0, .ref (ad 0)), (1, .int p0), (3, .int p2), (4, .int x4), (5, .int x5), (6, .int x6), (7, .int x7), (8, .int x8)] → W p l e { frames := 5, cells := 0, slots := 0, locals := 114 } s m ([.ref (ad 0), .int p0, .int p1, .int p2] : List Value).toArray below meth c H locs 0 0 (MQ below (va_Qi (fun (r : Int32) (u : KX) => Post r u) (fun u t => va_P (gD g) vwCl (wX g ad u) t.heap) (AD ad 0 45)) ([.ref (ad 0), .int p0, .int p1, .int p2] : List Value).toArray s 0 0 (AD ad 0 45)) (F0 m 32 ls []))
  have hv := hv (by
    intro x4 x5 x6 x7 s_trial hv H locs ls hP hD hS hl
    refine lv_iload hx hb dX2_sessions_12 (lv_at hl 6 rfl) ?_
    refine lv_iload_n hx hb dX2_sessions_14 rfl (lv_at hl 1 rfl) ?_
    refine lv_icmp_ge (tgt := 122) hx hb dX2_sessions_15 (by decide) (fun c15 => ?_) (fun c15 => ?_)
    · have hv := hv.1 c15
      refine lv_iload_n hx hb dX2_sessions_122 rfl (lv_at hl 2 rfl) ?_
      refine lv_if_ne (tgt := 131) hx hb dX2_sessions_123 (by decide) (fun c123 => ?_) (fun c123 => ?_)
      · have hv := hv.1 c123
        refine lv_iload hx hb dX2_sessions_131 (lv_at hl 5 rfl) ?_
        exact W.iret (v := x6) hx hb hr (fun t ht hW => ⟨⟨x6, ((xNow σ), (xTaken σ), s_trial, (xScr σ), (xRow σ), (xRefus σ), (xKept σ), (xRowLen σ), (xIsTaken σ)), rfl, hv, P_at ht hP⟩, hS.F ht⟩) hS.2.2 dX2_sessions_133
      · have hv := hv.2 c123
        refine lv_iload hx hb dX2_sessions_126 (lv_at hl 4 rfl) ?_
        refine lv_goto (tgt := 133) hx hb dX2_sessions_128 (by decide) ?_
        exact W.iret (v := x5) hx hb hr (fun t ht hW => ⟨⟨x5, ((xNow σ), (xTaken σ), s_trial, (xScr σ), (xRow σ), (xRefus σ), (xKept σ), (xRowLen σ), (xIsTaken σ)), rfl, hv, P_at ht hP⟩, hS.F ht⟩) hS.2.2 dX2_sessions_133
    · have hv := hv.2 c15
      refine lv_aload_n hx hb dX2_sessions_18 rfl (lv_at hl 0 rfl) ?_
      refine va_get (D := gD g) (ci := 2) (v := .ref (ad 30)) (C := RX2) (T := TX2) (N := 9) hx hb hts hi2 hown hK hP 0 rfl rfl 2 (by decide) k0 (fun _ h9 => h9) rfl dX2_sessions_19 ?_
      refine lv_aload_n hx hb dX2_sessions_22 rfl (lv_at hl 0 rfl) ?_
      refine va_get (D := gD g) (ci := 2) (v := .ref (ad 4)) (C := RX2) (T := TX2) (N := 9) hx hb hts hi2 hown hK hP 0 rfl rfl 0 (by decide) k1 (fun _ h9 => h9) rfl dX2_sessions_23 ?_
      have h8 := hv.1
      have hv := hv.2
      have hPc : va_P (gD g) vwCl (wT g ad ((xNow σ), (xTaken σ), s_trial)) H := hP.sub [4, 5, 6, 7, 8, 9, 10, 11, 12, 13, 14, 15, 16, 17, 18, 19, 20, 21, 22, 23, 24, 25, 26, 27, 28, 29, 30, 31, 32, 33, 34, 35, 36, 37, 38, 39, 40, 41, 42] rfl
      have hDc : va_D (AD ad 4 39) (wT g ad ((xNow σ), (xTaken σ), s_trial)) := ⟨(hD.sub [4, 5, 6, 7, 8, 9, 10, 11, 12, 13, 14, 15, 16, 17, 18, 19, 20, 21, 22, 23, 24, 25, 26, 27, 28, 29, 30, 31, 32, 33, 34, 35, 36, 37, 38, 39, 40, 41, 42] (by decide) rfl).1, AD_of rfl⟩
      have hAc : ∀ q, (AD ad 4 39) q → (AD ad 0 45) q := AD_sub (by decide) (by decide)
      refine rw_void (va_runV (As := [.ref (ad 4)]) (rest := []) ⟨hx, hb, hml, hown, hts⟩ (h_X0_becomes_30_4 g ad ((xNow σ), (xTaken σ), s_trial) h8) (cwV 1 hts gX2_sessions_X0_becomes rfl rfl rfl (by decide +kernel) ⟨Nat.le_of_ble_eq_true rfl, Nat.le_of_ble_eq_true rfl⟩) ⟨RW_blind, va_recv hK hP (ci := 0) (q0 := 30) rfl rfl, fun U hU hW => ⟨rfl, by rw [hU]; exact hPc, va_K.moved hW.alike hK, hE.call hW hU hS hAc, hDc⟩⟩ rfl rfl hl.1 rfl (lv_room (Nat.le_of_ble_eq_true rfl)) dX2_sessions_26 ⟨Nat.le_of_ble_eq_true rfl, Nat.le_of_ble_eq_true rfl⟩) hS hAc (fun u H1 locs hw hP1 hk hS => ?_)
      subst u
      have hP := mid_at hP hD 4 39 (b := wT g ad ((xNow σ), (xTaken σ), s_trial)) rfl (AD_at rfl) hk hP1 rfl
      generalize H1 = H at hP hS ⊢
      have hP : va_P (gD g) vwCl (wX g ad ((xNow σ), (xTaken σ), ((xNow σ)), (xScr σ), (xRow σ), (xRefus σ), (xKept σ), (xRowLen σ), (xIsTaken σ))) H := hP
      have hD : va_D (AD ad 0 45) (wX g ad ((xNow σ), (xTaken σ), ((xNow σ)), (xScr σ), (xRow σ), (xRefus σ), (xKept σ), (xRowLen σ), (xIsTaken σ))) := hD.addr (by rfl)
      refine lv_iconst (v := 0) hx hb dX2_sessions_29 (by decide) ?_
      refine lv_istore (lv' := [(8, .int 0), (0, .ref (ad 0)), (1, .int p0), (3, .int p2), (4, .int x4), (5, .int x5), (6, .int x6), (7, .int x7)]) hx hb dX2_sessions_30 hl (by decide) rfl (fun ls hl => ?_)
      exact hv H locs ls hP hD hS (lv_sub hl [1, 2, 3, 4, 5, 6, 7, 0] rfl))
  have hv := hv (by
    intro x4 x5 x6 x7 x8 s_trial hv H locs ls hP hD hS hl
    refine lv_iload hx hb dX2_sessions_32 (lv_at hl 7 rfl) ?_
    refine lv_bipush (v := 6) hx hb dX2_sessions_34 (by decide) ?_
    refine lv_icmp_ge (tgt := 101) hx hb dX2_sessions_36 (by decide) (fun c36 => ?_) (fun c36 => ?_)
    · have hv := hv.1 c36
      refine lv_iload hx hb dX2_sessions_101 (lv_at hl 5 rfl) ?_
      refine lv_aload_n hx hb dX2_sessions_103 rfl (lv_at hl 0 rfl) ?_
      refine va_get (D := gD g) (ci := 2) (v := .ref (ad 30)) (C := RX2) (T := TX2) (N := 9) hx hb hts hi2 hown hK hP 0 rfl rfl 2 (by decide) k0 (fun _ h9 => h9) rfl dX2_sessions_104 ?_
      have h8 := hv.1
      have hv := hv.2
      have hPc : va_P (gD g) vwCl (wC g ad 30 s_trial) H := hP.sub [30, 31, 32, 33, 34, 35, 36, 37, 38, 39, 40, 41, 42] rfl
      refine ro_long (va_runV (As := []) (rest := [.int x6]) ⟨hx, hb, hml, hown, hts⟩ (h_X0_fitting g ad 30 s_trial h8) (cwV 0 hts gX2_sessions_X0_fitting rfl rfl rfl (by decide +kernel) ⟨Nat.le_of_ble_eq_true rfl, Nat.le_of_ble_eq_true rfl⟩) ⟨RO_blind, va_recv hK hP (ci := 0) (q0 := 30) rfl rfl, fun U hU hW => ⟨rfl, by rw [hU]; exact hPc, va_K.moved hW.alike hK, hE.call hW hU hS (fun _ h => h.elim)⟩⟩ rfl rfl hl.1 rfl (lv_room (Nat.le_of_ble_eq_true rfl)) dX2_sessions_107 ⟨Nat.le_of_ble_eq_true rfl, Nat.le_of_ble_eq_true rfl⟩) hS hP (fun r H locs hw hP hS => ?_)
      subst r
      have hPc : va_P (gD g) vwCl [] H := fun k q h => by simp at h
      refine ro_int (va_runS (As := [.long (fittingL s_trial)]) (rest := [.int x6]) ⟨hx, hb, hml, hown, hts⟩ (h_J13_bitCount_95d88 g (fittingL s_trial)) (va_cwS 1 hts gX2_sessions_J13_bitCount_95d88 rfl rfl rfl (by decide +kernel) ⟨Nat.le_of_ble_eq_true rfl, Nat.le_of_ble_eq_true rfl⟩) ⟨RO_blind, fun U hU hW => ⟨rfl, by rw [hU]; exact hPc, va_K.moved hW.alike hK, hE.call hW hU hS (fun _ h => h.elim)⟩⟩ rfl rfl hl.1 rfl (lv_room (Nat.le_of_ble_eq_true rfl)) dX2_sessions_110 ⟨Nat.le_of_ble_eq_true rfl, Nat.le_of_ble_eq_true rfl⟩) hS hP (fun r H locs hw hP hS => ?_)
      subst r
      refine lv_iadd hx hb dX2_sessions_113 ?_
      refine lv_istore (lv' := [(6, .int (x6 + (popc (fittingL s_trial)))), (0, .ref (ad 0)), (1, .int p0), (3, .int p2), (4, .int x4), (5, .int x5), (7, .int x7), (8, .int x8)]) hx hb dX2_sessions_114 hl (by decide) rfl (fun ls hl => ?_)
      refine lv_iinc (v := (x7 + 1)) (lv' := [(7, .int (x7 + 1)), (6, .int (x6 + (popc (fittingL s_trial)))), (0, .ref (ad 0)), (1, .int p0), (3, .int p2), (4, .int x4), (5, .int x5), (8, .int x8)]) hx hb dX2_sessions_116 hl (k := 6) rfl (by first | rfl | exact congrArg _ (by decide)) (by decide) rfl (fun ls hl => ?_)
      refine lv_goto (tgt := 12) hx hb dX2_sessions_119 (by decide) ?_
      exact hv H locs ls hP hD hS (lv_sub hl [2, 3, 4, 5, 6, 1, 0] rfl)
    · have hv := hv.2 c36
      refine lv_iload hx hb dX2_sessions_39 (lv_at hl 3 rfl) ?_
      have hPc : va_P (gD g) vwCl [] H := fun k q h => by simp at h
      refine ro_int (va_runS (As := [.int x4]) (rest := []) ⟨hx, hb, hml, hown, hts⟩ (h_X2_drawOn g x4) (va_cwS 1 hts gX2_sessions_X2_drawOn rfl rfl rfl (by decide +kernel) ⟨Nat.le_of_ble_eq_true rfl, Nat.le_of_ble_eq_true rfl⟩) ⟨RO_blind, fun U hU hW => ⟨rfl, by rw [hU]; exact hPc, va_K.moved hW.alike hK, hE.call hW hU hS (fun _ h => h.elim)⟩⟩ rfl rfl hl.1 rfl (lv_room (Nat.le_of_ble_eq_true rfl)) dX2_sessions_41 ⟨Nat.le_of_ble_eq_true rfl, Nat.le_of_ble_eq_true rfl⟩) hS hP (fun r H locs hw hP hS => ?_)
      subst r
      refine lv_istore (lv' := [(4, .int (drawOnI x4)), (0, .ref (ad 0)), (1, .int p0), (3, .int p2), (5, .int x5), (6, .int x6), (7, .int x7), (8, .int x8)]) hx hb dX2_sessions_44 hl (by decide) rfl (fun ls hl => ?_)
      refine lv_iload hx hb dX2_sessions_46 (lv_at hl 0 rfl) ?_
      refine lv_aload_n hx hb dX2_sessions_48 rfl (lv_at hl 1 rfl) ?_
      refine va_get (D := gD g) (ci := 2) (v := .ref (ad 4)) (C := RX2) (T := TX2) (N := 9) hx hb hts hi2 hown hK hP 0 rfl rfl 0 (by decide) k1 (fun _ h9 => h9) rfl dX2_sessions_49 ?_
      refine va_get (D := gD g) (ci := 0) (v := .int (sNw (cS (xNow σ)))) (C := RX0) (T := TX0) (N := 17) hx hb hts hi0 hown hK hP 4 rfl rfl 3 (by decide) k2 (fun _ h9 => h9) rfl dX2_sessions_52 ?_
      have hPc : va_P (gD g) vwCl [] H := fun k q h => by simp at h
      refine ro_int (va_runS (As := [.int (drawOnI x4), .int (sNw (cS (xNow σ)))]) (rest := []) ⟨hx, hb, hml, hown, hts⟩ (h_X2_drawBelow g (drawOnI x4) (sNw (cS (xNow σ)))) (va_cwS 2 hts gX2_sessions_X2_drawBelow rfl rfl rfl (by decide +kernel) ⟨Nat.le_of_ble_eq_true rfl, Nat.le_of_ble_eq_true rfl⟩) ⟨RO_blind, fun U hU hW => ⟨rfl, by rw [hU]; exact hPc, va_K.moved hW.alike hK, hE.call hW hU hS (fun _ h => h.elim)⟩⟩ rfl rfl hl.1 rfl (lv_room (Nat.le_of_ble_eq_true rfl)) dX2_sessions_55 ⟨Nat.le_of_ble_eq_true rfl, Nat.le_of_ble_eq_true rfl⟩) hS hP (fun r H locs hw hP hS => ?_)
      subst r
      refine lv_istore (lv' := [(9, .int (drawBelowI (drawOnI x4) (sNw (cS (xNow σ))))), (4, .int (drawOnI x4)), (0, .ref (ad 0)), (1, .int p0), (3, .int p2), (5, .int x5), (6, .int x6), (7, .int x7), (8, .int x8)]) hx hb dX2_sessions_58 hl (by decide) rfl (fun ls hl => ?_)
      refine lv_iload hx hb dX2_sessions_60 (lv_at hl 1 rfl) ?_
      have hPc : va_P (gD g) vwCl [] H := fun k q h => by simp at h
      refine ro_int (va_runS (As := [.int (drawOnI x4)]) (rest := []) ⟨hx, hb, hml, hown, hts⟩ (h_X2_drawOn g (drawOnI x4)) (va_cwS 1 hts gX2_sessions_X2_drawOn rfl rfl rfl (by decide +kernel) ⟨Nat.le_of_ble_eq_true rfl, Nat.le_of_ble_eq_true rfl⟩) ⟨RO_blind, fun U hU hW => ⟨rfl, by rw [hU]; exact hPc, va_K.moved hW.alike hK, hE.call hW hU hS (fun _ h => h.elim)⟩⟩ rfl rfl hl.1 rfl (lv_room (Nat.le_of_ble_eq_true rfl)) dX2_sessions_62 ⟨Nat.le_of_ble_eq_true rfl, Nat.le_of_ble_eq_true rfl⟩) hS hP (fun r H locs hw hP hS => ?_)
      subst r
      refine lv_istore (lv' := [(4, .int (drawOnI (drawOnI x4))), (9, .int (drawBelowI (drawOnI x4) (sNw (cS (xNow σ))))), (0, .ref (ad 0)), (1, .int p0), (3, .int p2), (5, .int x5), (6, .int x6), (7, .int x7), (8, .int x8)]) hx hb dX2_sessions_65 hl (by decide) rfl (fun ls hl => ?_)
      refine lv_aload_n hx hb dX2_sessions_67 rfl (lv_at hl 2 rfl) ?_
      refine va_get (D := gD g) (ci := 2) (v := .ref (ad 30)) (C := RX2) (T := TX2) (N := 9) hx hb hts hi2 hown hK hP 0 rfl rfl 2 (by decide) k0 (fun _ h9 => h9) rfl dX2_sessions_68 ?_
      refine lv_iload hx hb dX2_sessions_71 (lv_at hl 1 rfl) ?_
      refine lv_iload hx hb dX2_sessions_73 (lv_at hl 0 rfl) ?_
      refine lv_aload_n hx hb dX2_sessions_75 rfl (lv_at hl 2 rfl) ?_
      refine va_get (D := gD g) (ci := 2) (v := .ref (ad 4)) (C := RX2) (T := TX2) (N := 9) hx hb hts hi2 hown hK hP 0 rfl rfl 0 (by decide) k1 (fun _ h9 => h9) rfl dX2_sessions_76 ?_
      refine va_get (D := gD g) (ci := 0) (v := .int (sNq (cS (xNow σ)))) (C := RX0) (T := TX0) (N := 17) hx hb hts hi0 hown hK hP 4 rfl rfl 2 (by decide) k3 (fun _ h9 => h9) rfl dX2_sessions_79 ?_
      have hPc : va_P (gD g) vwCl [] H := fun k q h => by simp at h
      refine ro_int (va_runS (As := [.int (drawOnI (drawOnI x4)), .int (sNq (cS (xNow σ)))]) (rest := [.int (drawBelowI (drawOnI x4) (sNw (cS (xNow σ)))), .ref (ad 30)]) ⟨hx, hb, hml, hown, hts⟩ (h_X2_drawBelow g (drawOnI (drawOnI x4)) (sNq (cS (xNow σ)))) (va_cwS 2 hts gX2_sessions_X2_drawBelow rfl rfl rfl (by decide +kernel) ⟨Nat.le_of_ble_eq_true rfl, Nat.le_of_ble_eq_true rfl⟩) ⟨RO_blind, fun U hU hW => ⟨rfl, by rw [hU]; exact hPc, va_K.moved hW.alike hK, hE.call hW hU hS (fun _ h => h.elim)⟩⟩ rfl rfl hl.1 rfl (lv_room (Nat.le_of_ble_eq_true rfl)) dX2_sessions_82 ⟨Nat.le_of_ble_eq_true rfl, Nat.le_of_ble_eq_true rfl⟩) hS hP (fun r H locs hw hP hS => ?_)
      subst r
      have h8 := hv.1
      have hv := hv.2
      have hPc : va_P (gD g) vwCl (wC g ad 30 s_trial) H := hP.sub [30, 31, 32, 33, 34, 35, 36, 37, 38, 39, 40, 41, 42] rfl
      have hDc : va_D (AD ad 30 13) (wC g ad 30 s_trial) := ⟨(hD.sub [30, 31, 32, 33, 34, 35, 36, 37, 38, 39, 40, 41, 42] (by decide) rfl).1, AD_of rfl⟩
      have hAc : ∀ q, (AD ad 30 13) q → (AD ad 0 45) q := AD_sub (by decide) (by decide)
      refine rw_int (va_runV (As := [.int (drawBelowI (drawOnI x4) (sNw (cS (xNow σ)))), .int (drawBelowI (drawOnI (drawOnI x4)) (sNq (cS (xNow σ))))]) (rest := []) ⟨hx, hb, hml, hown, hts⟩ (h_X0_ask g ad 30 s_trial (drawBelowI (drawOnI x4) (sNw (cS (xNow σ)))) (drawBelowI (drawOnI (drawOnI x4)) (sNq (cS (xNow σ)))) h8) (cwV 2 hts gX2_sessions_X0_ask rfl rfl rfl (by decide +kernel) ⟨Nat.le_of_ble_eq_true rfl, Nat.le_of_ble_eq_true rfl⟩) ⟨RW_blind, va_recv hK hP (ci := 0) (q0 := 30) rfl rfl, fun U hU hW => ⟨rfl, by rw [hU]; exact hPc, va_K.moved hW.alike hK, hE.call hW hU hS hAc, hDc⟩⟩ rfl rfl hl.1 rfl (lv_room (Nat.le_of_ble_eq_true rfl)) dX2_sessions_85 ⟨Nat.le_of_ble_eq_true rfl, Nat.le_of_ble_eq_true rfl⟩) hS hAc (fun r u H1 locs hw hP1 hk hS => ?_)
      obtain ⟨hw1, hw⟩ := hw; subst r; subst u
      have hP := mid_at hP hD 30 13 (b := wC g ad 30 s_trial) rfl (AD_at rfl) hk hP1 rfl
      generalize H1 = H at hP hS ⊢
      have hP : va_P (gD g) vwCl (wX g ad ((xNow σ), (xTaken σ), ((askS (cS s_trial) (drawBelowI (drawOnI x4) (sNw (cS (xNow σ)))) (drawBelowI (drawOnI (drawOnI x4)) (sNq (cS (xNow σ))))), (cNeeded s_trial), (cTruth s_trial)), (xScr σ), (xRow σ), (xRefus σ), (xKept σ), (xRowLen σ), (xIsTaken σ))) H := hP
      have hD : va_D (AD ad 0 45) (wX g ad ((xNow σ), (xTaken σ), ((askS (cS s_trial) (drawBelowI (drawOnI x4) (sNw (cS (xNow σ)))) (drawBelowI (drawOnI (drawOnI x4)) (sNq (cS (xNow σ))))), (cNeeded s_trial), (cTruth s_trial)), (xScr σ), (xRow σ), (xRefus σ), (xKept σ), (xRowLen σ), (xIsTaken σ))) := hD.addr (by rfl)
      refine lv_iconst (v := 1) hx hb dX2_sessions_88 (by decide) ?_
      refine lv_icmp_ne (tgt := 95) hx hb dX2_sessions_89 (by decide) (fun c89 => ?_) (fun c89 => ?_)
      · have hv := hv.1 c89
        refine lv_iinc (v := (x8 + 1)) (lv' := [(8, .int (x8 + 1)), (4, .int (drawOnI (drawOnI x4))), (9, .int (drawBelowI (drawOnI x4) (sNw (cS (xNow σ))))), (0, .ref (ad 0)), (1, .int p0), (3, .int p2), (5, .int x5), (6, .int x6), (7, .int x7)]) hx hb dX2_sessions_95 hl (k := 8) rfl (by first | rfl | exact congrArg _ (by decide)) (by decide) rfl (fun ls hl => ?_)
        refine lv_goto (tgt := 32) hx hb dX2_sessions_98 (by decide) ?_
        exact hv H locs ls hP hD hS (lv_sub hl [3, 4, 5, 1, 6, 7, 8, 0] rfl)
      · have hv := hv.2 c89
        refine lv_iinc (v := (x5 + 1)) (lv' := [(5, .int (x5 + 1)), (4, .int (drawOnI (drawOnI x4))), (9, .int (drawBelowI (drawOnI x4) (sNw (cS (xNow σ))))), (0, .ref (ad 0)), (1, .int p0), (3, .int p2), (6, .int x6), (7, .int x7), (8, .int x8)]) hx hb dX2_sessions_92 hl (k := 5) rfl (by first | rfl | exact congrArg _ (by decide)) (by decide) rfl (fun ls hl => ?_)
        refine lv_iinc (v := (x8 + 1)) (lv' := [(8, .int (x8 + 1)), (5, .int (x5 + 1)), (4, .int (drawOnI (drawOnI x4))), (9, .int (drawBelowI (drawOnI x4) (sNw (cS (xNow σ))))), (0, .ref (ad 0)), (1, .int p0), (3, .int p2), (6, .int x6), (7, .int x7)]) hx hb dX2_sessions_95 hl (k := 8) rfl (by first | rfl | exact congrArg _ (by decide)) (by decide) rfl (fun ls hl => ?_)
        refine lv_goto (tgt := 32) hx hb dX2_sessions_98 (by decide) ?_
        exact hv H locs ls hP hD hS (lv_sub hl [4, 5, 6, 2, 1, 7, 8, 0] rfl))
  obtain ⟨H, hH⟩ : ∃ z, z = s.heap := ⟨_, rfl⟩
  obtain ⟨locs, hL⟩ : ∃ z : List Loc, z = [] := ⟨_, rfl⟩
  rw [← hL] at hS ⊢
  have hS : va_S (AD ad 0 45) s.heap H locs := by rw [hH]; exact hS
  rw [← hH] at hP ⊢
  clear hH hL
  refine lv_iload_n hx hb dX2_sessions_0 rfl (lv_at hl 2 rfl) ?_
  refine lv_istore (lv' := [(4, .int p1), (0, .ref (ad 0)), (1, .int p0), (2, .int p1), (3, .int p2)]) hx hb dX2_sessions_1 hl (by decide) rfl (fun ls hl => ?_)
  refine lv_iconst (v := 0) hx hb dX2_sessions_3 (by decide) ?_
  refine lv_istore (lv' := [(5, .int 0), (4, .int p1), (0, .ref (ad 0)), (1, .int p0), (2, .int p1), (3, .int p2)]) hx hb dX2_sessions_4 hl (by decide) rfl (fun ls hl => ?_)
  refine lv_iconst (v := 0) hx hb dX2_sessions_6 (by decide) ?_
  refine lv_istore (lv' := [(6, .int 0), (5, .int 0), (4, .int p1), (0, .ref (ad 0)), (1, .int p0), (2, .int p1), (3, .int p2)]) hx hb dX2_sessions_7 hl (by decide) rfl (fun ls hl => ?_)
  refine lv_iconst (v := 0) hx hb dX2_sessions_9 (by decide) ?_
  refine lv_istore (lv' := [(7, .int 0), (6, .int 0), (5, .int 0), (4, .int p1), (0, .ref (ad 0)), (1, .int p0), (2, .int p1), (3, .int p2)]) hx hb dX2_sessions_10 hl (by decide) rfl (fun ls hl => ?_)
  exact hv H locs ls hP hD hS (lv_sub hl [4, 5, 7, 3, 2, 1, 0] rfl)

set_option maxHeartbeats 4000000 in
set_option maxRecDepth 100000 in
theorem m_X2_letter (l : Launch) (h_X1_add : C_X1_add l) (h_X2_refused : C_X2_refused l) (g : CX) (ad : Nat → Nat) (σ : KX) (p0 : Int32) (Post : Int32 → KX → Prop) (hv : vc_X2_letter σ p0 Post) : Met l yX2_letter wsX2_letter { frames := 1, cells := 0, slots := 0, locals := 21 } (va_Pc [.ref (ad 0), .int p0] (RW g (AD ad 0 45) (wX g ad σ))) (va_Qi (fun (r : Int32) (u : KX) => Post r u) (fun u t => va_P (gD g) vwCl (wX g ad u) t.heap) (AD ad 0 45)) 0 0 (AD ad 0 45) := by
  unfold vc_X2_letter at hv
  refine Met.ofW (cc := cX2_letter) (maxL := 2) (ret := (some .int)) (by decide) rfl ?_
  intro p e s m args below meth c s₁ B hml hv0
  obtain ⟨rfl, hP, hK, hE, hD⟩ := hv0
  have hx := B.exec
  have hb := B.bytes
  have hr := B.returns
  have hts := atoms_spec (ws := wsX2_letter) B.pre
  have hown : s.vm.findClass RX2 = some m.cls := findClass_of_methodNamed B.named
  have hlocks := B.notSynchronized
  have hi1 : ∀ w ∈ wsX10, w ∈ wsX2_letter := by decide +kernel
  have hi2 : ∀ w ∈ wsX20, w ∈ wsX2_letter := by decide +kernel
  have k0 := hts (.fieldLink RX2 25 "JuryHearsAnswers" "script" "LJuryHearsAnswers$Script;") (by decide +kernel)
  have k1 := hts (.fieldLink RX2 44 "JuryHearsAnswers$Script" "length" "I") (by decide +kernel)
  have hS : va_S (AD ad 0 45) s.heap s.heap [] := va_S.rf
  have hP : va_P (gD g) vwCl (wX g ad σ) s.heap := hP
  have hl := lv_entry ([.ref (ad 0), .int p0]) (n := 2) (Nat.le_of_ble_eq_true rfl)
  rw [lg_entry_eq]
  generalize (lg_sl ([.ref (ad 0), .int p0]) ++ List.replicate (2 - (lg_sl ([.ref (ad 0), .int p0])).length) Slot.unset).toArray = ls at hl ⊢
  have hl : lv_has ls 2 [(0, .ref (ad 0)), (1, .int p0)] := hl
  obtain ⟨H, hH⟩ : ∃ z, z = s.heap := ⟨_, rfl⟩
  obtain ⟨locs, hL⟩ : ∃ z : List Loc, z = [] := ⟨_, rfl⟩
  rw [← hL] at hS ⊢
  have hS : va_S (AD ad 0 45) s.heap H locs := by rw [hH]; exact hS
  rw [← hH] at hP ⊢
  clear hH hL
  refine lv_iload_n hx hb dX2_letter_0 rfl (lv_at hl 1 rfl) ?_
  refine lv_if_ge (tgt := 11) hx hb dX2_letter_1 (by decide) (fun c1 => ?_) (fun c1 => ?_)
  · have hv := hv.1 c1
    refine lv_iload_n hx hb dX2_letter_11 rfl (lv_at hl 1 rfl) ?_
    refine lv_sipush (v := 255) hx hb dX2_letter_12 (by decide) ?_
    refine lv_icmp_gt (tgt := 30) hx hb dX2_letter_15 (by decide) (fun c15 => ?_) (fun c15 => ?_)
    · have hv := hv.1 c15
      refine lv_aload_n hx hb dX2_letter_30 rfl (lv_at hl 0 rfl) ?_
      refine lv_bipush (v := (-6)) hx hb dX2_letter_31 (by decide) ?_
      have h8 := hv.1
      have hv := hv.2
      have hPc := hP
      have hDc := hD
      refine rw_int (va_runV (As := [.int (-6)]) (rest := []) ⟨hx, hb, hml, hown, hts⟩ (h_X2_refused g ad σ (-6) h8) (cwV 1 hts gX2_letter_X2_refused rfl rfl rfl (by decide +kernel) ⟨Nat.le_of_ble_eq_true rfl, Nat.le_of_ble_eq_true rfl⟩) ⟨RW_blind, va_recv hK hP (ci := 2) (q0 := 0) rfl rfl, fun U hU hW => ⟨rfl, by rw [hU]; exact hPc, va_K.moved hW.alike hK, hE.call hW hU hS (fun _ h => h), hDc⟩⟩ rfl rfl hl.1 rfl (lv_room (Nat.le_of_ble_eq_true rfl)) dX2_letter_33 ⟨Nat.le_of_ble_eq_true rfl, Nat.le_of_ble_eq_true rfl⟩) hS (fun _ h => h) (fun r u H1 locs hw hP1 hk hS => ?_)
      obtain ⟨hw1, hw⟩ := hw; subst r; subst u
      have hP := hP1
      generalize H1 = H at hP hS ⊢
      have hP : va_P (gD g) vwCl (wX g ad ((xNow σ), (xTaken σ), (xTrial σ), (xScr σ), (xRow σ), (refuX (xRefus σ) ((-6) : Int32)), (xKept σ), (xRowLen σ), (xIsTaken σ))) H := hP
      have hD : va_D (AD ad 0 45) (wX g ad ((xNow σ), (xTaken σ), (xTrial σ), (xScr σ), (xRow σ), (refuX (xRefus σ) ((-6) : Int32)), (xKept σ), (xRowLen σ), (xIsTaken σ))) := hD.addr (by rfl)
      exact W.iret (v := (((-6) : Int32))) hx hb hr (fun t ht hW => ⟨⟨(((-6) : Int32)), ((xNow σ), (xTaken σ), (xTrial σ), (xScr σ), (xRow σ), (refuX (xRefus σ) ((-6) : Int32)), (xKept σ), (xRowLen σ), (xIsTaken σ)), rfl, hv, P_at ht hP⟩, hS.F ht⟩) hS.2.2 dX2_letter_36
    · have hv := hv.2 c15
      refine lv_aload_n hx hb dX2_letter_18 rfl (lv_at hl 0 rfl) ?_
      refine va_get (D := gD g) (ci := 2) (v := .ref (ad 43)) (C := RX2) (T := TX2) (N := 9) hx hb hts hi2 hown hK hP 0 rfl rfl 3 (by decide) k0 (fun _ h9 => h9) rfl dX2_letter_19 ?_
      refine va_get (D := gD g) (ci := 1) (v := .int (zLen (xScr σ))) (C := RX1) (T := TX1) (N := 2) hx hb hts hi1 hown hK hP 43 rfl rfl 0 (by decide) k1 (fun _ h9 => h9) rfl dX2_letter_22 ?_
      refine lv_bipush (v := 96) hx hb dX2_letter_25 (by decide) ?_
      refine lv_icmp_lt (tgt := 37) hx hb dX2_letter_27 (by decide) (fun c27 => ?_) (fun c27 => ?_)
      · have hv := hv.1 c27
        refine lv_aload_n hx hb dX2_letter_37 rfl (lv_at hl 0 rfl) ?_
        refine va_get (D := gD g) (ci := 2) (v := .ref (ad 43)) (C := RX2) (T := TX2) (N := 9) hx hb hts hi2 hown hK hP 0 rfl rfl 3 (by decide) k0 (fun _ h9 => h9) rfl dX2_letter_38 ?_
        refine lv_iload_n hx hb dX2_letter_41 rfl (lv_at hl 1 rfl) ?_
        refine lv_i2c hx hb dX2_letter_42 rfl ?_
        have h8 := hv.1
        have hv := hv.2
        have hPc : va_P (gD g) vwCl (wZ g ad 43 (xScr σ)) H := hP.sub [43, 44] rfl
        have hDc : va_D (AD ad 43 2) (wZ g ad 43 (xScr σ)) := ⟨(hD.sub [43, 44] (by decide) rfl).1, AD_of rfl⟩
        have hAc : ∀ q, (AD ad 43 2) q → (AD ad 0 45) q := AD_sub (by decide) (by decide)
        refine rw_void (va_runV (As := [.int (((p0).toUInt32 % 65536).toInt32)]) (rest := []) ⟨hx, hb, hml, hown, hts⟩ (h_X1_add g ad 43 (xScr σ) (((p0).toUInt32 % 65536).toInt32) h8) (cwV 1 hts gX2_letter_X1_add rfl rfl rfl (by decide +kernel) ⟨Nat.le_of_ble_eq_true rfl, Nat.le_of_ble_eq_true rfl⟩) ⟨RW_blind, va_recv hK hP (ci := 1) (q0 := 43) rfl rfl, fun U hU hW => ⟨rfl, by rw [hU]; exact hPc, va_K.moved hW.alike hK, hE.call hW hU hS hAc, hDc⟩⟩ rfl rfl hl.1 rfl (lv_room (Nat.le_of_ble_eq_true rfl)) dX2_letter_43 ⟨Nat.le_of_ble_eq_true rfl, Nat.le_of_ble_eq_true rfl⟩) hS hAc (fun u H1 locs hw hP1 hk hS => ?_)
        subst u
        have hP := mid_at hP hD 43 2 (b := wZ g ad 43 (xScr σ)) rfl (AD_at rfl) hk hP1 rfl
        generalize H1 = H at hP hS ⊢
        have hP : va_P (gD g) vwCl (wX g ad ((xNow σ), (xTaken σ), (xTrial σ), (if zLen (xScr σ) < 96 then (zLen (xScr σ) + 1, upd (zText (xScr σ)) (zLen (xScr σ)).toNatClampNeg (vp_nar .char (((p0).toUInt32 % 65536).toInt32))) else (xScr σ)), (xRow σ), (xRefus σ), (xKept σ), (xRowLen σ), (xIsTaken σ))) H := hP
        have hD : va_D (AD ad 0 45) (wX g ad ((xNow σ), (xTaken σ), (xTrial σ), (if zLen (xScr σ) < 96 then (zLen (xScr σ) + 1, upd (zText (xScr σ)) (zLen (xScr σ)).toNatClampNeg (vp_nar .char (((p0).toUInt32 % 65536).toInt32))) else (xScr σ)), (xRow σ), (xRefus σ), (xKept σ), (xRowLen σ), (xIsTaken σ))) := hD.addr (by rfl)
        refine lv_aload_n hx hb dX2_letter_46 rfl (lv_at hl 0 rfl) ?_
        refine va_get (D := gD g) (ci := 2) (v := .ref (ad 43)) (C := RX2) (T := TX2) (N := 9) hx hb hts hi2 hown hK hP 0 rfl rfl 3 (by decide) k0 (fun _ h9 => h9) rfl dX2_letter_47 ?_
        refine va_get (D := gD g) (ci := 1) (v := .int (zLen (if zLen (xScr σ) < 96 then (zLen (xScr σ) + 1, upd (zText (xScr σ)) (zLen (xScr σ)).toNatClampNeg (vp_nar .char (((p0).toUInt32 % 65536).toInt32))) else (xScr σ)))) (C := RX1) (T := TX1) (N := 2) hx hb hts hi1 hown hK hP 43 rfl rfl 0 (by decide) k1 (fun _ h9 => h9) rfl dX2_letter_50 ?_
        exact W.iret (v := (zLen (if zLen (xScr σ) < 96 then (zLen (xScr σ) + 1, upd (zText (xScr σ)) (zLen (xScr σ)).toNatClampNeg (vp_nar .char (((p0).toUInt32 % 65536).toInt32))) else (xScr σ)))) hx hb hr (fun t ht hW => ⟨⟨(zLen (if zLen (xScr σ) < 96 then (zLen (xScr σ) + 1, upd (zText (xScr σ)) (zLen (xScr σ)).toNatClampNeg (vp_nar .char (((p0).toUInt32 % 65536).toInt32))) else (xScr σ))), ((xNow σ), (xTaken σ), (xTrial σ), (if zLen (xScr σ) < 96 then (zLen (xScr σ) + 1, upd (zText (xScr σ)) (zLen (xScr σ)).toNatClampNeg (vp_nar .char (((p0).toUInt32 % 65536).toInt32))) else (xScr σ)), (xRow σ), (xRefus σ), (xKept σ), (xRowLen σ), (xIsTaken σ)), rfl, hv, P_at ht hP⟩, hS.F ht⟩) hS.2.2 dX2_letter_53
      · have hv := hv.2 c27
        refine lv_aload_n hx hb dX2_letter_30 rfl (lv_at hl 0 rfl) ?_
        refine lv_bipush (v := (-6)) hx hb dX2_letter_31 (by decide) ?_
        have h8 := hv.1
        have hv := hv.2
        have hPc := hP
        have hDc := hD
        refine rw_int (va_runV (As := [.int (-6)]) (rest := []) ⟨hx, hb, hml, hown, hts⟩ (h_X2_refused g ad σ (-6) h8) (cwV 1 hts gX2_letter_X2_refused rfl rfl rfl (by decide +kernel) ⟨Nat.le_of_ble_eq_true rfl, Nat.le_of_ble_eq_true rfl⟩) ⟨RW_blind, va_recv hK hP (ci := 2) (q0 := 0) rfl rfl, fun U hU hW => ⟨rfl, by rw [hU]; exact hPc, va_K.moved hW.alike hK, hE.call hW hU hS (fun _ h => h), hDc⟩⟩ rfl rfl hl.1 rfl (lv_room (Nat.le_of_ble_eq_true rfl)) dX2_letter_33 ⟨Nat.le_of_ble_eq_true rfl, Nat.le_of_ble_eq_true rfl⟩) hS (fun _ h => h) (fun r u H1 locs hw hP1 hk hS => ?_)
        obtain ⟨hw1, hw⟩ := hw; subst r; subst u
        have hP := hP1
        generalize H1 = H at hP hS ⊢
        have hP : va_P (gD g) vwCl (wX g ad ((xNow σ), (xTaken σ), (xTrial σ), (xScr σ), (xRow σ), (refuX (xRefus σ) ((-6) : Int32)), (xKept σ), (xRowLen σ), (xIsTaken σ))) H := hP
        have hD : va_D (AD ad 0 45) (wX g ad ((xNow σ), (xTaken σ), (xTrial σ), (xScr σ), (xRow σ), (refuX (xRefus σ) ((-6) : Int32)), (xKept σ), (xRowLen σ), (xIsTaken σ))) := hD.addr (by rfl)
        exact W.iret (v := (((-6) : Int32))) hx hb hr (fun t ht hW => ⟨⟨(((-6) : Int32)), ((xNow σ), (xTaken σ), (xTrial σ), (xScr σ), (xRow σ), (refuX (xRefus σ) ((-6) : Int32)), (xKept σ), (xRowLen σ), (xIsTaken σ)), rfl, hv, P_at ht hP⟩, hS.F ht⟩) hS.2.2 dX2_letter_36
  · have hv := hv.2 c1
    refine lv_aload_n hx hb dX2_letter_4 rfl (lv_at hl 0 rfl) ?_
    refine lv_bipush (v := (-4)) hx hb dX2_letter_5 (by decide) ?_
    have h8 := hv.1
    have hv := hv.2
    have hPc := hP
    have hDc := hD
    refine rw_int (va_runV (As := [.int (-4)]) (rest := []) ⟨hx, hb, hml, hown, hts⟩ (h_X2_refused g ad σ (-4) h8) (cwV 1 hts gX2_letter_X2_refused rfl rfl rfl (by decide +kernel) ⟨Nat.le_of_ble_eq_true rfl, Nat.le_of_ble_eq_true rfl⟩) ⟨RW_blind, va_recv hK hP (ci := 2) (q0 := 0) rfl rfl, fun U hU hW => ⟨rfl, by rw [hU]; exact hPc, va_K.moved hW.alike hK, hE.call hW hU hS (fun _ h => h), hDc⟩⟩ rfl rfl hl.1 rfl (lv_room (Nat.le_of_ble_eq_true rfl)) dX2_letter_7 ⟨Nat.le_of_ble_eq_true rfl, Nat.le_of_ble_eq_true rfl⟩) hS (fun _ h => h) (fun r u H1 locs hw hP1 hk hS => ?_)
    obtain ⟨hw1, hw⟩ := hw; subst r; subst u
    have hP := hP1
    generalize H1 = H at hP hS ⊢
    have hP : va_P (gD g) vwCl (wX g ad ((xNow σ), (xTaken σ), (xTrial σ), (xScr σ), (xRow σ), (refuX (xRefus σ) ((-4) : Int32)), (xKept σ), (xRowLen σ), (xIsTaken σ))) H := hP
    have hD : va_D (AD ad 0 45) (wX g ad ((xNow σ), (xTaken σ), (xTrial σ), (xScr σ), (xRow σ), (refuX (xRefus σ) ((-4) : Int32)), (xKept σ), (xRowLen σ), (xIsTaken σ))) := hD.addr (by rfl)
    exact W.iret (v := (((-4) : Int32))) hx hb hr (fun t ht hW => ⟨⟨(((-4) : Int32)), ((xNow σ), (xTaken σ), (xTrial σ), (xScr σ), (xRow σ), (refuX (xRefus σ) ((-4) : Int32)), (xKept σ), (xRowLen σ), (xIsTaken σ)), rfl, hv, P_at ht hP⟩, hS.F ht⟩) hS.2.2 dX2_letter_10

set_option maxHeartbeats 4000000 in
set_option maxRecDepth 100000 in
theorem m_X2_fact (l : Launch) (h_X2_isFact : C_X2_isFact l) (h_X2_refused : C_X2_refused l) (g : CX) (ad : Nat → Nat) (σ : KX) (p0 : Int32) (Post : Int32 → KX → Prop) (hv : vc_X2_fact σ p0 Post) : Met l yX2_fact wsX2_fact { frames := 1, cells := 0, slots := 0, locals := 21 } (va_Pc [.ref (ad 0), .int p0] (RW g (AD ad 0 45) (wX g ad σ))) (va_Qi (fun (r : Int32) (u : KX) => Post r u) (fun u t => va_P (gD g) vwCl (wX g ad u) t.heap) (AD ad 0 45)) 0 0 (AD ad 0 45) := by
  unfold vc_X2_fact at hv
  refine Met.ofW (cc := cX2_fact) (maxL := 2) (ret := (some .int)) (by decide) rfl ?_
  intro p e s m args below meth c s₁ B hml hv0
  obtain ⟨rfl, hP, hK, hE, hD⟩ := hv0
  have hx := B.exec
  have hb := B.bytes
  have hr := B.returns
  have hts := atoms_spec (ws := wsX2_fact) B.pre
  have hown : s.vm.findClass RX2 = some m.cls := findClass_of_methodNamed B.named
  have hlocks := B.notSynchronized
  have hi0 : ∀ w ∈ wsX00, w ∈ wsX2_fact := by decide +kernel
  have hi2 : ∀ w ∈ wsX20, w ∈ wsX2_fact := by decide +kernel
  have k0 := hts (.fieldLink RX2 10 "JuryHearsAnswers" "now" "LJuryHearsAnswers$Court;") (by decide +kernel)
  have k1 := hts (.fieldLink RX2 60 "JuryHearsAnswers$Court" "caseNow" "I") (by decide +kernel)
  have hS : va_S (AD ad 0 45) s.heap s.heap [] := va_S.rf
  have hP : va_P (gD g) vwCl (wX g ad σ) s.heap := hP
  have hl := lv_entry ([.ref (ad 0), .int p0]) (n := 2) (Nat.le_of_ble_eq_true rfl)
  rw [lg_entry_eq]
  generalize (lg_sl ([.ref (ad 0), .int p0]) ++ List.replicate (2 - (lg_sl ([.ref (ad 0), .int p0])).length) Slot.unset).toArray = ls at hl ⊢
  have hl : lv_has ls 2 [(0, .ref (ad 0)), (1, .int p0)] := hl
  obtain ⟨H, hH⟩ : ∃ z, z = s.heap := ⟨_, rfl⟩
  obtain ⟨locs, hL⟩ : ∃ z : List Loc, z = [] := ⟨_, rfl⟩
  rw [← hL] at hS ⊢
  have hS : va_S (AD ad 0 45) s.heap H locs := by rw [hH]; exact hS
  rw [← hH] at hP ⊢
  clear hH hL
  refine lv_iload_n hx hb dX2_fact_0 rfl (lv_at hl 1 rfl) ?_
  have hPc : va_P (gD g) vwCl [] H := fun k q h => by simp at h
  refine ro_int (va_runS (As := [.int p0]) (rest := []) ⟨hx, hb, hml, hown, hts⟩ (h_X2_isFact g p0) (va_cwS 1 hts gX2_fact_X2_isFact rfl rfl rfl (by decide +kernel) ⟨Nat.le_of_ble_eq_true rfl, Nat.le_of_ble_eq_true rfl⟩) ⟨RO_blind, fun U hU hW => ⟨rfl, by rw [hU]; exact hPc, va_K.moved hW.alike hK, hE.call hW hU hS (fun _ h => h.elim)⟩⟩ rfl rfl hl.1 rfl (lv_room (Nat.le_of_ble_eq_true rfl)) dX2_fact_1 ⟨Nat.le_of_ble_eq_true rfl, Nat.le_of_ble_eq_true rfl⟩) hS hP (fun r H locs hw hP hS => ?_)
  subst r
  refine lv_if_ne (tgt := 13) hx hb dX2_fact_4 (by decide) (fun c4 => ?_) (fun c4 => ?_)
  · have hv := hv.1 c4
    refine lv_aload_n hx hb dX2_fact_13 rfl (lv_at hl 0 rfl) ?_
    refine va_get (D := gD g) (ci := 2) (v := .ref (ad 4)) (C := RX2) (T := TX2) (N := 9) hx hb hts hi2 hown hK hP 0 rfl rfl 0 (by decide) k0 (fun _ h9 => h9) rfl dX2_fact_14 ?_
    refine va_get (D := gD g) (ci := 0) (v := .int (sCase (cS (xNow σ)))) (C := RX0) (T := TX0) (N := 17) hx hb hts hi0 hown hK hP 4 rfl rfl 0 (by decide) k1 (fun _ h9 => h9) rfl dX2_fact_17 ?_
    refine lv_iload_n hx hb dX2_fact_20 rfl (lv_at hl 1 rfl) ?_
    refine lv_ishr hx hb dX2_fact_21 ?_
    refine lv_iconst (v := 1) hx hb dX2_fact_22 (by decide) ?_
    refine lv_iand hx hb dX2_fact_23 ?_
    exact W.iret (v := (((sCase (cS (xNow σ))) >>> (p0 &&& 31)) &&& 1)) hx hb hr (fun t ht hW => ⟨⟨(((sCase (cS (xNow σ))) >>> (p0 &&& 31)) &&& 1), σ, rfl, hv, P_at ht hP⟩, hS.F ht⟩) hS.2.2 dX2_fact_24
  · have hv := hv.2 c4
    refine lv_aload_n hx hb dX2_fact_7 rfl (lv_at hl 0 rfl) ?_
    refine lv_iconst (v := (-1)) hx hb dX2_fact_8 (by decide) ?_
    have h8 := hv.1
    have hv := hv.2
    have hPc := hP
    have hDc := hD
    refine rw_int (va_runV (As := [.int (-1)]) (rest := []) ⟨hx, hb, hml, hown, hts⟩ (h_X2_refused g ad σ (-1) h8) (cwV 1 hts gX2_fact_X2_refused rfl rfl rfl (by decide +kernel) ⟨Nat.le_of_ble_eq_true rfl, Nat.le_of_ble_eq_true rfl⟩) ⟨RW_blind, va_recv hK hP (ci := 2) (q0 := 0) rfl rfl, fun U hU hW => ⟨rfl, by rw [hU]; exact hPc, va_K.moved hW.alike hK, hE.call hW hU hS (fun _ h => h), hDc⟩⟩ rfl rfl hl.1 rfl (lv_room (Nat.le_of_ble_eq_true rfl)) dX2_fact_9 ⟨Nat.le_of_ble_eq_true rfl, Nat.le_of_ble_eq_true rfl⟩) hS (fun _ h => h) (fun r u H1 locs hw hP1 hk hS => ?_)
    obtain ⟨hw1, hw⟩ := hw; subst r; subst u
    have hP := hP1
    generalize H1 = H at hP hS ⊢
    have hP : va_P (gD g) vwCl (wX g ad ((xNow σ), (xTaken σ), (xTrial σ), (xScr σ), (xRow σ), (refuX (xRefus σ) ((-1) : Int32)), (xKept σ), (xRowLen σ), (xIsTaken σ))) H := hP
    have hD : va_D (AD ad 0 45) (wX g ad ((xNow σ), (xTaken σ), (xTrial σ), (xScr σ), (xRow σ), (refuX (xRefus σ) ((-1) : Int32)), (xKept σ), (xRowLen σ), (xIsTaken σ))) := hD.addr (by rfl)
    exact W.iret (v := (((-1) : Int32))) hx hb hr (fun t ht hW => ⟨⟨(((-1) : Int32)), ((xNow σ), (xTaken σ), (xTrial σ), (xScr σ), (xRow σ), (refuX (xRefus σ) ((-1) : Int32)), (xKept σ), (xRowLen σ), (xIsTaken σ)), rfl, hv, P_at ht hP⟩, hS.F ht⟩) hS.2.2 dX2_fact_12

set_option maxHeartbeats 4000000 in
set_option maxRecDepth 100000 in
theorem m_X2_question (l : Launch) (h_X0_hasQuestion : C_X0_hasQuestion l) (h_X0_isSo : C_X0_isSo l) (h_X2_refused : C_X2_refused l) (g : CX) (ad : Nat → Nat) (σ : KX) (p0 : Int32) (p1 : Int32) (Post : Int32 → KX → Prop) (hv : vc_X2_question σ p0 p1 Post) : Met l yX2_question wsX2_question { frames := 3, cells := 0, slots := 0, locals := 63 } (va_Pc [.ref (ad 0), .int p0, .int p1] (RW g (AD ad 0 45) (wX g ad σ))) (va_Qi (fun (r : Int32) (u : KX) => Post r u) (fun u t => va_P (gD g) vwCl (wX g ad u) t.heap) (AD ad 0 45)) 0 0 (AD ad 0 45) := by
  unfold vc_X2_question at hv
  refine Met.ofW (cc := cX2_question) (maxL := 3) (ret := (some .int)) (by decide) rfl ?_
  intro p e s m args below meth c s₁ B hml hv0
  obtain ⟨rfl, hP, hK, hE, hD⟩ := hv0
  have hx := B.exec
  have hb := B.bytes
  have hr := B.returns
  have hts := atoms_spec (ws := wsX2_question) B.pre
  have hown : s.vm.findClass RX2 = some m.cls := findClass_of_methodNamed B.named
  have hlocks := B.notSynchronized
  have hi0 : ∀ w ∈ wsX00, w ∈ wsX2_question := by decide +kernel
  have hi2 : ∀ w ∈ wsX20, w ∈ wsX2_question := by decide +kernel
  have k0 := hts (.fieldLink RX2 10 "JuryHearsAnswers" "now" "LJuryHearsAnswers$Court;") (by decide +kernel)
  have k1 := hts (.fieldLink RX2 66 "JuryHearsAnswers$Court" "form" "[I") (by decide +kernel)
  have k2 := hts (.fieldLink RX2 69 "JuryHearsAnswers$Court" "first" "[I") (by decide +kernel)
  have k3 := hts (.fieldLink RX2 72 "JuryHearsAnswers$Court" "second" "[I") (by decide +kernel)
  have hS : va_S (AD ad 0 45) s.heap s.heap [] := va_S.rf
  have hP : va_P (gD g) vwCl (wX g ad σ) s.heap := hP
  have hl := lv_entry ([.ref (ad 0), .int p0, .int p1]) (n := 3) (Nat.le_of_ble_eq_true rfl)
  rw [lg_entry_eq]
  generalize (lg_sl ([.ref (ad 0), .int p0, .int p1]) ++ List.replicate (3 - (lg_sl ([.ref (ad 0), .int p0, .int p1])).length) Slot.unset).toArray = ls at hl ⊢
  have hl : lv_has ls 3 [(0, .ref (ad 0)), (1, .int p0), (2, .int p1)] := hl
  obtain ⟨H, hH⟩ : ∃ z, z = s.heap := ⟨_, rfl⟩
  obtain ⟨locs, hL⟩ : ∃ z : List Loc, z = [] := ⟨_, rfl⟩
  rw [← hL] at hS ⊢
  have hS : va_S (AD ad 0 45) s.heap H locs := by rw [hH]; exact hS
  rw [← hH] at hP ⊢
  clear hH hL
  refine lv_aload_n hx hb dX2_question_0 rfl (lv_at hl 0 rfl) ?_
  refine va_get (D := gD g) (ci := 2) (v := .ref (ad 4)) (C := RX2) (T := TX2) (N := 9) hx hb hts hi2 hown hK hP 0 rfl rfl 0 (by decide) k0 (fun _ h9 => h9) rfl dX2_question_1 ?_
  refine lv_iload_n hx hb dX2_question_4 rfl (lv_at hl 1 rfl) ?_
  have hPc : va_P (gD g) vwCl (wC g ad 4 (xNow σ)) H := hP.sub [4, 5, 6, 7, 8, 9, 10, 11, 12, 13, 14, 15, 16] rfl
  refine ro_int (va_runV (As := [.int p0]) (rest := []) ⟨hx, hb, hml, hown, hts⟩ (h_X0_hasQuestion g ad 4 (xNow σ) p0) (cwV 1 hts gX2_question_X0_hasQuestion rfl rfl rfl (by decide +kernel) ⟨Nat.le_of_ble_eq_true rfl, Nat.le_of_ble_eq_true rfl⟩) ⟨RO_blind, va_recv hK hP (ci := 0) (q0 := 4) rfl rfl, fun U hU hW => ⟨rfl, by rw [hU]; exact hPc, va_K.moved hW.alike hK, hE.call hW hU hS (fun _ h => h.elim)⟩⟩ rfl rfl hl.1 rfl (lv_room (Nat.le_of_ble_eq_true rfl)) dX2_question_5 ⟨Nat.le_of_ble_eq_true rfl, Nat.le_of_ble_eq_true rfl⟩) hS hP (fun r H locs hw hP hS => ?_)
  subst r
  refine lv_if_ne (tgt := 17) hx hb dX2_question_8 (by decide) (fun c8 => ?_) (fun c8 => ?_)
  · have hv := hv.1 c8
    refine lv_iload_n hx hb dX2_question_17 rfl (lv_at hl 2 rfl) ?_
    by_cases d18_0 : p1 = 0
    · have hv := hv.1 d18_0
      refine lv_tableIn (off := 30) (tgt := 48) hx hb dX2_question_18 (by rw [d18_0]; decide) (by rw [d18_0]; decide) (by rw [d18_0]; rfl) (by decide) ?_
      refine lv_aload_n hx hb dX2_question_48 rfl (lv_at hl 0 rfl) ?_
      refine va_get (D := gD g) (ci := 2) (v := .ref (ad 4)) (C := RX2) (T := TX2) (N := 9) hx hb hts hi2 hown hK hP 0 rfl rfl 0 (by decide) k0 (fun _ h9 => h9) rfl dX2_question_49 ?_
      refine va_get (D := gD g) (ci := 0) (v := .ref (ad 5)) (C := RX0) (T := TX0) (N := 17) hx hb hts hi0 hown hK hP 4 rfl rfl 5 (by decide) k1 (fun _ h9 => h9) rfl dX2_question_52 ?_
      refine lv_iload_n hx hb dX2_question_55 rfl (lv_at hl 1 rfl) ?_
      have h9 := hv.1
      have hv := hv.2
      refine va_iald (f := (sForm (cS (xNow σ)))) (n := 8) hx hb hK hP 5 0 rfl rfl h9 dX2_question_56 ?_
      exact W.iret (v := ((sForm (cS (xNow σ))) (p0).toNatClampNeg)) hx hb hr (fun t ht hW => ⟨⟨((sForm (cS (xNow σ))) (p0).toNatClampNeg), σ, rfl, hv, P_at ht hP⟩, hS.F ht⟩) hS.2.2 dX2_question_57
    · have hv := hv.2 d18_0
      by_cases d18_1 : p1 = 1
      · have hv := hv.1 d18_1
        refine lv_tableIn (off := 40) (tgt := 58) hx hb dX2_question_18 (by rw [d18_1]; decide) (by rw [d18_1]; decide) (by rw [d18_1]; rfl) (by decide) ?_
        refine lv_aload_n hx hb dX2_question_58 rfl (lv_at hl 0 rfl) ?_
        refine va_get (D := gD g) (ci := 2) (v := .ref (ad 4)) (C := RX2) (T := TX2) (N := 9) hx hb hts hi2 hown hK hP 0 rfl rfl 0 (by decide) k0 (fun _ h9 => h9) rfl dX2_question_59 ?_
        refine va_get (D := gD g) (ci := 0) (v := .ref (ad 6)) (C := RX0) (T := TX0) (N := 17) hx hb hts hi0 hown hK hP 4 rfl rfl 6 (by decide) k2 (fun _ h9 => h9) rfl dX2_question_62 ?_
        refine lv_iload_n hx hb dX2_question_65 rfl (lv_at hl 1 rfl) ?_
        have h9 := hv.1
        have hv := hv.2
        refine va_iald (f := (sFirst (cS (xNow σ)))) (n := 8) hx hb hK hP 6 0 rfl rfl h9 dX2_question_66 ?_
        exact W.iret (v := ((sFirst (cS (xNow σ))) (p0).toNatClampNeg)) hx hb hr (fun t ht hW => ⟨⟨((sFirst (cS (xNow σ))) (p0).toNatClampNeg), σ, rfl, hv, P_at ht hP⟩, hS.F ht⟩) hS.2.2 dX2_question_67
      · have hv := hv.2 d18_1
        by_cases d18_2 : p1 = 2
        · have hv := hv.1 d18_2
          refine lv_tableIn (off := 50) (tgt := 68) hx hb dX2_question_18 (by rw [d18_2]; decide) (by rw [d18_2]; decide) (by rw [d18_2]; rfl) (by decide) ?_
          refine lv_aload_n hx hb dX2_question_68 rfl (lv_at hl 0 rfl) ?_
          refine va_get (D := gD g) (ci := 2) (v := .ref (ad 4)) (C := RX2) (T := TX2) (N := 9) hx hb hts hi2 hown hK hP 0 rfl rfl 0 (by decide) k0 (fun _ h9 => h9) rfl dX2_question_69 ?_
          refine va_get (D := gD g) (ci := 0) (v := .ref (ad 7)) (C := RX0) (T := TX0) (N := 17) hx hb hts hi0 hown hK hP 4 rfl rfl 7 (by decide) k3 (fun _ h9 => h9) rfl dX2_question_72 ?_
          refine lv_iload_n hx hb dX2_question_75 rfl (lv_at hl 1 rfl) ?_
          have h9 := hv.1
          have hv := hv.2
          refine va_iald (f := (sSecond (cS (xNow σ)))) (n := 8) hx hb hK hP 7 0 rfl rfl h9 dX2_question_76 ?_
          exact W.iret (v := ((sSecond (cS (xNow σ))) (p0).toNatClampNeg)) hx hb hr (fun t ht hW => ⟨⟨((sSecond (cS (xNow σ))) (p0).toNatClampNeg), σ, rfl, hv, P_at ht hP⟩, hS.F ht⟩) hS.2.2 dX2_question_77
        · have hv := hv.2 d18_2
          by_cases d18_3 : p1 = 3
          · have hv := hv.1 d18_3
            refine lv_tableIn (off := 60) (tgt := 78) hx hb dX2_question_18 (by rw [d18_3]; decide) (by rw [d18_3]; decide) (by rw [d18_3]; rfl) (by decide) ?_
            refine lv_aload_n hx hb dX2_question_78 rfl (lv_at hl 0 rfl) ?_
            refine va_get (D := gD g) (ci := 2) (v := .ref (ad 4)) (C := RX2) (T := TX2) (N := 9) hx hb hts hi2 hown hK hP 0 rfl rfl 0 (by decide) k0 (fun _ h9 => h9) rfl dX2_question_79 ?_
            refine lv_iload_n hx hb dX2_question_82 rfl (lv_at hl 1 rfl) ?_
            have hPc : va_P (gD g) vwCl (wC g ad 4 (xNow σ)) H := hP.sub [4, 5, 6, 7, 8, 9, 10, 11, 12, 13, 14, 15, 16] rfl
            refine ro_int (va_runV (As := [.int p0]) (rest := []) ⟨hx, hb, hml, hown, hts⟩ (h_X0_isSo g ad 4 (xNow σ) p0) (cwV 1 hts gX2_question_X0_isSo rfl rfl rfl (by decide +kernel) ⟨Nat.le_of_ble_eq_true rfl, Nat.le_of_ble_eq_true rfl⟩) ⟨RO_blind, va_recv hK hP (ci := 0) (q0 := 4) rfl rfl, fun U hU hW => ⟨rfl, by rw [hU]; exact hPc, va_K.moved hW.alike hK, hE.call hW hU hS (fun _ h => h.elim)⟩⟩ rfl rfl hl.1 rfl (lv_room (Nat.le_of_ble_eq_true rfl)) dX2_question_83 ⟨Nat.le_of_ble_eq_true rfl, Nat.le_of_ble_eq_true rfl⟩) hS hP (fun r H locs hw hP hS => ?_)
            subst r
            refine lv_if_eq (tgt := 93) hx hb dX2_question_86 (by decide) (fun c86 => ?_) (fun c86 => ?_)
            · have hv := hv.1 c86
              refine lv_iconst (v := 0) hx hb dX2_question_93 (by decide) ?_
              exact W.iret (v := 0) hx hb hr (fun t ht hW => ⟨⟨0, σ, rfl, hv, P_at ht hP⟩, hS.F ht⟩) hS.2.2 dX2_question_94
            · have hv := hv.2 c86
              refine lv_iconst (v := 1) hx hb dX2_question_89 (by decide) ?_
              refine lv_goto (tgt := 94) hx hb dX2_question_90 (by decide) ?_
              exact W.iret (v := 1) hx hb hr (fun t ht hW => ⟨⟨1, σ, rfl, hv, P_at ht hP⟩, hS.F ht⟩) hS.2.2 dX2_question_94
          · have hv := hv.2 d18_3
            refine lv_tableOut (tgt := 95) hx hb dX2_question_18 (by have n0 := lv_neT (a := 0) d18_0 (by decide); have n1 := lv_neT (a := 1) d18_1 (by decide); have n2 := lv_neT (a := 2) d18_2 (by decide); have n3 := lv_neT (a := 3) d18_3 (by decide); omega) (by decide) ?_
            refine lv_aload_n hx hb dX2_question_95 rfl (lv_at hl 0 rfl) ?_
            refine lv_bipush (v := (-2)) hx hb dX2_question_96 (by decide) ?_
            have h8 := hv.1
            have hv := hv.2
            have hPc := hP
            have hDc := hD
            refine rw_int (va_runV (As := [.int (-2)]) (rest := []) ⟨hx, hb, hml, hown, hts⟩ (h_X2_refused g ad σ (-2) h8) (cwV 1 hts gX2_question_X2_refused rfl rfl rfl (by decide +kernel) ⟨Nat.le_of_ble_eq_true rfl, Nat.le_of_ble_eq_true rfl⟩) ⟨RW_blind, va_recv hK hP (ci := 2) (q0 := 0) rfl rfl, fun U hU hW => ⟨rfl, by rw [hU]; exact hPc, va_K.moved hW.alike hK, hE.call hW hU hS (fun _ h => h), hDc⟩⟩ rfl rfl hl.1 rfl (lv_room (Nat.le_of_ble_eq_true rfl)) dX2_question_98 ⟨Nat.le_of_ble_eq_true rfl, Nat.le_of_ble_eq_true rfl⟩) hS (fun _ h => h) (fun r u H1 locs hw hP1 hk hS => ?_)
            obtain ⟨hw1, hw⟩ := hw; subst r; subst u
            have hP := hP1
            generalize H1 = H at hP hS ⊢
            have hP : va_P (gD g) vwCl (wX g ad ((xNow σ), (xTaken σ), (xTrial σ), (xScr σ), (xRow σ), (refuX (xRefus σ) ((-2) : Int32)), (xKept σ), (xRowLen σ), (xIsTaken σ))) H := hP
            have hD : va_D (AD ad 0 45) (wX g ad ((xNow σ), (xTaken σ), (xTrial σ), (xScr σ), (xRow σ), (refuX (xRefus σ) ((-2) : Int32)), (xKept σ), (xRowLen σ), (xIsTaken σ))) := hD.addr (by rfl)
            exact W.iret (v := (((-2) : Int32))) hx hb hr (fun t ht hW => ⟨⟨(((-2) : Int32)), ((xNow σ), (xTaken σ), (xTrial σ), (xScr σ), (xRow σ), (refuX (xRefus σ) ((-2) : Int32)), (xKept σ), (xRowLen σ), (xIsTaken σ)), rfl, hv, P_at ht hP⟩, hS.F ht⟩) hS.2.2 dX2_question_101
  · have hv := hv.2 c8
    refine lv_aload_n hx hb dX2_question_11 rfl (lv_at hl 0 rfl) ?_
    refine lv_iconst (v := (-1)) hx hb dX2_question_12 (by decide) ?_
    have h8 := hv.1
    have hv := hv.2
    have hPc := hP
    have hDc := hD
    refine rw_int (va_runV (As := [.int (-1)]) (rest := []) ⟨hx, hb, hml, hown, hts⟩ (h_X2_refused g ad σ (-1) h8) (cwV 1 hts gX2_question_X2_refused rfl rfl rfl (by decide +kernel) ⟨Nat.le_of_ble_eq_true rfl, Nat.le_of_ble_eq_true rfl⟩) ⟨RW_blind, va_recv hK hP (ci := 2) (q0 := 0) rfl rfl, fun U hU hW => ⟨rfl, by rw [hU]; exact hPc, va_K.moved hW.alike hK, hE.call hW hU hS (fun _ h => h), hDc⟩⟩ rfl rfl hl.1 rfl (lv_room (Nat.le_of_ble_eq_true rfl)) dX2_question_13 ⟨Nat.le_of_ble_eq_true rfl, Nat.le_of_ble_eq_true rfl⟩) hS (fun _ h => h) (fun r u H1 locs hw hP1 hk hS => ?_)
    obtain ⟨hw1, hw⟩ := hw; subst r; subst u
    have hP := hP1
    generalize H1 = H at hP hS ⊢
    have hP : va_P (gD g) vwCl (wX g ad ((xNow σ), (xTaken σ), (xTrial σ), (xScr σ), (xRow σ), (refuX (xRefus σ) ((-1) : Int32)), (xKept σ), (xRowLen σ), (xIsTaken σ))) H := hP
    have hD : va_D (AD ad 0 45) (wX g ad ((xNow σ), (xTaken σ), (xTrial σ), (xScr σ), (xRow σ), (refuX (xRefus σ) ((-1) : Int32)), (xKept σ), (xRowLen σ), (xIsTaken σ))) := hD.addr (by rfl)
    exact W.iret (v := (((-1) : Int32))) hx hb hr (fun t ht hW => ⟨⟨(((-1) : Int32)), ((xNow σ), (xTaken σ), (xTrial σ), (xScr σ), (xRow σ), (refuX (xRefus σ) ((-1) : Int32)), (xKept σ), (xRowLen σ), (xIsTaken σ)), rfl, hv, P_at ht hP⟩, hS.F ht⟩) hS.2.2 dX2_question_16

set_option maxHeartbeats 4000000 in
set_option maxRecDepth 100000 in
theorem m_X2_witness (l : Launch) (h_X0_hasWitness : C_X0_hasWitness l) (h_X2_refused : C_X2_refused l) (g : CX) (ad : Nat → Nat) (σ : KX) (p0 : Int32) (p1 : Int32) (Post : Int32 → KX → Prop) (hv : vc_X2_witness σ p0 p1 Post) : Met l yX2_witness wsX2_witness { frames := 1, cells := 0, slots := 0, locals := 21 } (va_Pc [.ref (ad 0), .int p0, .int p1] (RW g (AD ad 0 45) (wX g ad σ))) (va_Qi (fun (r : Int32) (u : KX) => Post r u) (fun u t => va_P (gD g) vwCl (wX g ad u) t.heap) (AD ad 0 45)) 0 0 (AD ad 0 45) := by
  unfold vc_X2_witness at hv
  refine Met.ofW (cc := cX2_witness) (maxL := 3) (ret := (some .int)) (by decide) rfl ?_
  intro p e s m args below meth c s₁ B hml hv0
  obtain ⟨rfl, hP, hK, hE, hD⟩ := hv0
  have hx := B.exec
  have hb := B.bytes
  have hr := B.returns
  have hts := atoms_spec (ws := wsX2_witness) B.pre
  have hown : s.vm.findClass RX2 = some m.cls := findClass_of_methodNamed B.named
  have hlocks := B.notSynchronized
  have hi0 : ∀ w ∈ wsX00, w ∈ wsX2_witness := by decide +kernel
  have hi2 : ∀ w ∈ wsX20, w ∈ wsX2_witness := by decide +kernel
  have k0 := hts (.fieldLink RX2 10 "JuryHearsAnswers" "now" "LJuryHearsAnswers$Court;") (by decide +kernel)
  have k1 := hts (.fieldLink RX2 81 "JuryHearsAnswers$Court" "kind" "[I") (by decide +kernel)
  have k2 := hts (.fieldLink RX2 84 "JuryHearsAnswers$Court" "figure" "[I") (by decide +kernel)
  have k3 := hts (.fieldLink RX2 87 "JuryHearsAnswers$Court" "known" "[I") (by decide +kernel)
  have hS : va_S (AD ad 0 45) s.heap s.heap [] := va_S.rf
  have hP : va_P (gD g) vwCl (wX g ad σ) s.heap := hP
  have hl := lv_entry ([.ref (ad 0), .int p0, .int p1]) (n := 3) (Nat.le_of_ble_eq_true rfl)
  rw [lg_entry_eq]
  generalize (lg_sl ([.ref (ad 0), .int p0, .int p1]) ++ List.replicate (3 - (lg_sl ([.ref (ad 0), .int p0, .int p1])).length) Slot.unset).toArray = ls at hl ⊢
  have hl : lv_has ls 3 [(0, .ref (ad 0)), (1, .int p0), (2, .int p1)] := hl
  obtain ⟨H, hH⟩ : ∃ z, z = s.heap := ⟨_, rfl⟩
  obtain ⟨locs, hL⟩ : ∃ z : List Loc, z = [] := ⟨_, rfl⟩
  rw [← hL] at hS ⊢
  have hS : va_S (AD ad 0 45) s.heap H locs := by rw [hH]; exact hS
  rw [← hH] at hP ⊢
  clear hH hL
  refine lv_aload_n hx hb dX2_witness_0 rfl (lv_at hl 0 rfl) ?_
  refine va_get (D := gD g) (ci := 2) (v := .ref (ad 4)) (C := RX2) (T := TX2) (N := 9) hx hb hts hi2 hown hK hP 0 rfl rfl 0 (by decide) k0 (fun _ h9 => h9) rfl dX2_witness_1 ?_
  refine lv_iload_n hx hb dX2_witness_4 rfl (lv_at hl 1 rfl) ?_
  have hPc : va_P (gD g) vwCl (wC g ad 4 (xNow σ)) H := hP.sub [4, 5, 6, 7, 8, 9, 10, 11, 12, 13, 14, 15, 16] rfl
  refine ro_int (va_runV (As := [.int p0]) (rest := []) ⟨hx, hb, hml, hown, hts⟩ (h_X0_hasWitness g ad 4 (xNow σ) p0) (cwV 1 hts gX2_witness_X0_hasWitness rfl rfl rfl (by decide +kernel) ⟨Nat.le_of_ble_eq_true rfl, Nat.le_of_ble_eq_true rfl⟩) ⟨RO_blind, va_recv hK hP (ci := 0) (q0 := 4) rfl rfl, fun U hU hW => ⟨rfl, by rw [hU]; exact hPc, va_K.moved hW.alike hK, hE.call hW hU hS (fun _ h => h.elim)⟩⟩ rfl rfl hl.1 rfl (lv_room (Nat.le_of_ble_eq_true rfl)) dX2_witness_5 ⟨Nat.le_of_ble_eq_true rfl, Nat.le_of_ble_eq_true rfl⟩) hS hP (fun r H locs hw hP hS => ?_)
  subst r
  refine lv_if_ne (tgt := 17) hx hb dX2_witness_8 (by decide) (fun c8 => ?_) (fun c8 => ?_)
  · have hv := hv.1 c8
    refine lv_iload_n hx hb dX2_witness_17 rfl (lv_at hl 2 rfl) ?_
    by_cases d18_0 : p1 = 0
    · have hv := hv.1 d18_0
      refine lv_tableIn (off := 26) (tgt := 44) hx hb dX2_witness_18 (by rw [d18_0]; decide) (by rw [d18_0]; decide) (by rw [d18_0]; rfl) (by decide) ?_
      refine lv_aload_n hx hb dX2_witness_44 rfl (lv_at hl 0 rfl) ?_
      refine va_get (D := gD g) (ci := 2) (v := .ref (ad 4)) (C := RX2) (T := TX2) (N := 9) hx hb hts hi2 hown hK hP 0 rfl rfl 0 (by decide) k0 (fun _ h9 => h9) rfl dX2_witness_45 ?_
      refine va_get (D := gD g) (ci := 0) (v := .ref (ad 10)) (C := RX0) (T := TX0) (N := 17) hx hb hts hi0 hown hK hP 4 rfl rfl 10 (by decide) k1 (fun _ h9 => h9) rfl dX2_witness_48 ?_
      refine lv_iload_n hx hb dX2_witness_51 rfl (lv_at hl 1 rfl) ?_
      have h9 := hv.1
      have hv := hv.2
      refine va_iald (f := (sKind (cS (xNow σ)))) (n := 5) hx hb hK hP 10 0 rfl rfl h9 dX2_witness_52 ?_
      exact W.iret (v := ((sKind (cS (xNow σ))) (p0).toNatClampNeg)) hx hb hr (fun t ht hW => ⟨⟨((sKind (cS (xNow σ))) (p0).toNatClampNeg), σ, rfl, hv, P_at ht hP⟩, hS.F ht⟩) hS.2.2 dX2_witness_53
    · have hv := hv.2 d18_0
      by_cases d18_1 : p1 = 1
      · have hv := hv.1 d18_1
        refine lv_tableIn (off := 36) (tgt := 54) hx hb dX2_witness_18 (by rw [d18_1]; decide) (by rw [d18_1]; decide) (by rw [d18_1]; rfl) (by decide) ?_
        refine lv_aload_n hx hb dX2_witness_54 rfl (lv_at hl 0 rfl) ?_
        refine va_get (D := gD g) (ci := 2) (v := .ref (ad 4)) (C := RX2) (T := TX2) (N := 9) hx hb hts hi2 hown hK hP 0 rfl rfl 0 (by decide) k0 (fun _ h9 => h9) rfl dX2_witness_55 ?_
        refine va_get (D := gD g) (ci := 0) (v := .ref (ad 11)) (C := RX0) (T := TX0) (N := 17) hx hb hts hi0 hown hK hP 4 rfl rfl 11 (by decide) k2 (fun _ h9 => h9) rfl dX2_witness_58 ?_
        refine lv_iload_n hx hb dX2_witness_61 rfl (lv_at hl 1 rfl) ?_
        have h9 := hv.1
        have hv := hv.2
        refine va_iald (f := (sFigure (cS (xNow σ)))) (n := 5) hx hb hK hP 11 0 rfl rfl h9 dX2_witness_62 ?_
        exact W.iret (v := ((sFigure (cS (xNow σ))) (p0).toNatClampNeg)) hx hb hr (fun t ht hW => ⟨⟨((sFigure (cS (xNow σ))) (p0).toNatClampNeg), σ, rfl, hv, P_at ht hP⟩, hS.F ht⟩) hS.2.2 dX2_witness_63
      · have hv := hv.2 d18_1
        by_cases d18_2 : p1 = 2
        · have hv := hv.1 d18_2
          refine lv_tableIn (off := 46) (tgt := 64) hx hb dX2_witness_18 (by rw [d18_2]; decide) (by rw [d18_2]; decide) (by rw [d18_2]; rfl) (by decide) ?_
          refine lv_aload_n hx hb dX2_witness_64 rfl (lv_at hl 0 rfl) ?_
          refine va_get (D := gD g) (ci := 2) (v := .ref (ad 4)) (C := RX2) (T := TX2) (N := 9) hx hb hts hi2 hown hK hP 0 rfl rfl 0 (by decide) k0 (fun _ h9 => h9) rfl dX2_witness_65 ?_
          refine va_get (D := gD g) (ci := 0) (v := .ref (ad 12)) (C := RX0) (T := TX0) (N := 17) hx hb hts hi0 hown hK hP 4 rfl rfl 12 (by decide) k3 (fun _ h9 => h9) rfl dX2_witness_68 ?_
          refine lv_iload_n hx hb dX2_witness_71 rfl (lv_at hl 1 rfl) ?_
          have h9 := hv.1
          have hv := hv.2
          refine va_iald (f := (sKnows (cS (xNow σ)))) (n := 5) hx hb hK hP 12 0 rfl rfl h9 dX2_witness_72 ?_
          exact W.iret (v := ((sKnows (cS (xNow σ))) (p0).toNatClampNeg)) hx hb hr (fun t ht hW => ⟨⟨((sKnows (cS (xNow σ))) (p0).toNatClampNeg), σ, rfl, hv, P_at ht hP⟩, hS.F ht⟩) hS.2.2 dX2_witness_73
        · have hv := hv.2 d18_2
          refine lv_tableOut (tgt := 74) hx hb dX2_witness_18 (by have n0 := lv_neT (a := 0) d18_0 (by decide); have n1 := lv_neT (a := 1) d18_1 (by decide); have n2 := lv_neT (a := 2) d18_2 (by decide); omega) (by decide) ?_
          refine lv_aload_n hx hb dX2_witness_74 rfl (lv_at hl 0 rfl) ?_
          refine lv_bipush (v := (-2)) hx hb dX2_witness_75 (by decide) ?_
          have h8 := hv.1
          have hv := hv.2
          have hPc := hP
          have hDc := hD
          refine rw_int (va_runV (As := [.int (-2)]) (rest := []) ⟨hx, hb, hml, hown, hts⟩ (h_X2_refused g ad σ (-2) h8) (cwV 1 hts gX2_witness_X2_refused rfl rfl rfl (by decide +kernel) ⟨Nat.le_of_ble_eq_true rfl, Nat.le_of_ble_eq_true rfl⟩) ⟨RW_blind, va_recv hK hP (ci := 2) (q0 := 0) rfl rfl, fun U hU hW => ⟨rfl, by rw [hU]; exact hPc, va_K.moved hW.alike hK, hE.call hW hU hS (fun _ h => h), hDc⟩⟩ rfl rfl hl.1 rfl (lv_room (Nat.le_of_ble_eq_true rfl)) dX2_witness_77 ⟨Nat.le_of_ble_eq_true rfl, Nat.le_of_ble_eq_true rfl⟩) hS (fun _ h => h) (fun r u H1 locs hw hP1 hk hS => ?_)
          obtain ⟨hw1, hw⟩ := hw; subst r; subst u
          have hP := hP1
          generalize H1 = H at hP hS ⊢
          have hP : va_P (gD g) vwCl (wX g ad ((xNow σ), (xTaken σ), (xTrial σ), (xScr σ), (xRow σ), (refuX (xRefus σ) ((-2) : Int32)), (xKept σ), (xRowLen σ), (xIsTaken σ))) H := hP
          have hD : va_D (AD ad 0 45) (wX g ad ((xNow σ), (xTaken σ), (xTrial σ), (xScr σ), (xRow σ), (refuX (xRefus σ) ((-2) : Int32)), (xKept σ), (xRowLen σ), (xIsTaken σ))) := hD.addr (by rfl)
          exact W.iret (v := (((-2) : Int32))) hx hb hr (fun t ht hW => ⟨⟨(((-2) : Int32)), ((xNow σ), (xTaken σ), (xTrial σ), (xScr σ), (xRow σ), (refuX (xRefus σ) ((-2) : Int32)), (xKept σ), (xRowLen σ), (xIsTaken σ)), rfl, hv, P_at ht hP⟩, hS.F ht⟩) hS.2.2 dX2_witness_80
  · have hv := hv.2 c8
    refine lv_aload_n hx hb dX2_witness_11 rfl (lv_at hl 0 rfl) ?_
    refine lv_iconst (v := (-1)) hx hb dX2_witness_12 (by decide) ?_
    have h8 := hv.1
    have hv := hv.2
    have hPc := hP
    have hDc := hD
    refine rw_int (va_runV (As := [.int (-1)]) (rest := []) ⟨hx, hb, hml, hown, hts⟩ (h_X2_refused g ad σ (-1) h8) (cwV 1 hts gX2_witness_X2_refused rfl rfl rfl (by decide +kernel) ⟨Nat.le_of_ble_eq_true rfl, Nat.le_of_ble_eq_true rfl⟩) ⟨RW_blind, va_recv hK hP (ci := 2) (q0 := 0) rfl rfl, fun U hU hW => ⟨rfl, by rw [hU]; exact hPc, va_K.moved hW.alike hK, hE.call hW hU hS (fun _ h => h), hDc⟩⟩ rfl rfl hl.1 rfl (lv_room (Nat.le_of_ble_eq_true rfl)) dX2_witness_13 ⟨Nat.le_of_ble_eq_true rfl, Nat.le_of_ble_eq_true rfl⟩) hS (fun _ h => h) (fun r u H1 locs hw hP1 hk hS => ?_)
    obtain ⟨hw1, hw⟩ := hw; subst r; subst u
    have hP := hP1
    generalize H1 = H at hP hS ⊢
    have hP : va_P (gD g) vwCl (wX g ad ((xNow σ), (xTaken σ), (xTrial σ), (xScr σ), (xRow σ), (refuX (xRefus σ) ((-1) : Int32)), (xKept σ), (xRowLen σ), (xIsTaken σ))) H := hP
    have hD : va_D (AD ad 0 45) (wX g ad ((xNow σ), (xTaken σ), (xTrial σ), (xScr σ), (xRow σ), (refuX (xRefus σ) ((-1) : Int32)), (xKept σ), (xRowLen σ), (xIsTaken σ))) := hD.addr (by rfl)
    exact W.iret (v := (((-1) : Int32))) hx hb hr (fun t ht hW => ⟨⟨(((-1) : Int32)), ((xNow σ), (xTaken σ), (xTrial σ), (xScr σ), (xRow σ), (refuX (xRefus σ) ((-1) : Int32)), (xKept σ), (xRowLen σ), (xIsTaken σ)), rfl, hv, P_at ht hP⟩, hS.F ht⟩) hS.2.2 dX2_witness_16

