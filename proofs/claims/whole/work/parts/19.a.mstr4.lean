set_option maxHeartbeats 4000000 in
set_option maxRecDepth 100000 in
theorem m_X1_play (l : Launch) (h_X0_addQuestion : C_X0_addQuestion l) (h_X0_ask : C_X0_ask l) (h_X0_canAsk : C_X0_canAsk l) (h_X0_flipFact : C_X0_flipFact l) (h_X0_flipKnown : C_X0_flipKnown l) (h_X1_digit : C_X1_digit l) (h_X1_playWitness : C_X1_playWitness l) (h_X1_sign : C_X1_sign l) (g : CX) (ad : Nat → Nat) (σ : KP) (p0 : Int32) (Post : Int32 → KP → Prop) (hv : vc_X1_play σ p0 Post) : Met l yX1_play wsX1_play { frames := 5, cells := 0, slots := 0, locals := 129 } (va_Pc [.ref (ad 43), .int p0, .ref (ad 30)] (RW g (AD ad 30 15) (wP g ad σ))) (va_Qi (fun (r : Int32) (u : KP) => Post r u) (fun u t => va_P (gD g) vwCl (wP g ad u) t.heap) (AD ad 30 15)) 0 0 (AD ad 30 15) := by
  unfold vc_X1_play at hv
  refine Met.ofW (cc := cX1_play) (maxL := 5) (ret := (some .boolean)) (by decide) rfl ?_
  intro p e s m args below meth c s₁ B hml hv0
  obtain ⟨rfl, hP, hK, hE, hD⟩ := hv0
  have hx := B.exec
  have hb := B.bytes
  have hr := B.returns
  have hts := atoms_spec (ws := wsX1_play) B.pre
  have hown : s.vm.findClass RX1 = some m.cls := findClass_of_methodNamed B.named
  have hlocks := B.notSynchronized
  have hi0 : ∀ w ∈ wsX00, w ∈ wsX1_play := by decide +kernel
  have k0 := hts (.fieldLink RX1 89 "JuryHearsAnswers$Court" "heardLength" "I") (by decide +kernel)
  have hS : va_S (AD ad 30 15) s.heap s.heap [] := va_S.rf
  have hP : va_P (gD g) vwCl (wP g ad σ) s.heap := hP
  have hl := lv_entry ([.ref (ad 43), .int p0, .ref (ad 30)]) (n := 5) (Nat.le_of_ble_eq_true rfl)
  rw [lg_entry_eq]
  generalize (lg_sl ([.ref (ad 43), .int p0, .ref (ad 30)]) ++ List.replicate (5 - (lg_sl ([.ref (ad 43), .int p0, .ref (ad 30)])).length) Slot.unset).toArray = ls at hl ⊢
  have hl : lv_has ls 5 [(0, .ref (ad 43)), (1, .int p0), (2, .ref (ad 30))] := hl
  obtain ⟨H, hH⟩ : ∃ z, z = s.heap := ⟨_, rfl⟩
  obtain ⟨locs, hL⟩ : ∃ z : List Loc, z = [] := ⟨_, rfl⟩
  rw [← hL] at hS ⊢
  have hS : va_S (AD ad 30 15) s.heap H locs := by rw [hH]; exact hS
  rw [← hH] at hP ⊢
  clear hH hL
  refine lv_aload_n hx hb dX1_play_0 rfl (lv_at hl 0 rfl) ?_
  refine lv_iload_n hx hb dX1_play_1 rfl (lv_at hl 1 rfl) ?_
  refine lv_iconst (v := 1) hx hb dX1_play_2 (by decide) ?_
  refine lv_iadd hx hb dX1_play_3 ?_
  have h8 := hv.1
  have hv := hv.2
  have hPc : va_P (gD g) vwCl (wZ g ad 43 (qScr σ)) H := hP.sub [13, 14] rfl
  refine ro_int (va_runV (As := [.int (p0 + 1)]) (rest := []) ⟨hx, hb, hml, hown, hts⟩ (h_X1_digit g ad 43 (qScr σ) (p0 + 1) h8) (cwV 1 hts gX1_play_X1_digit rfl rfl rfl (by decide +kernel) ⟨Nat.le_of_ble_eq_true rfl, Nat.le_of_ble_eq_true rfl⟩) ⟨RO_blind, va_recv hK hP (ci := 1) (q0 := 13) rfl rfl, fun U hU hW => ⟨rfl, by rw [hU]; exact hPc, va_K.moved hW.alike hK, hE.call hW hU hS (fun _ h => h.elim)⟩⟩ rfl rfl hl.1 rfl (lv_room (Nat.le_of_ble_eq_true rfl)) dX1_play_4 ⟨Nat.le_of_ble_eq_true rfl, Nat.le_of_ble_eq_true rfl⟩) hS hP (fun r H locs hw hP hS => ?_)
  subst r
  refine lv_istore_n (lv' := [(3, .int (digV (qScr σ) (p0 + 1))), (0, .ref (ad 43)), (1, .int p0), (2, .ref (ad 30))]) hx hb dX1_play_7 rfl hl (by decide) rfl (fun ls hl => ?_)
  refine lv_aload_n hx hb dX1_play_8 rfl (lv_at hl 1 rfl) ?_
  refine lv_iload_n hx hb dX1_play_9 rfl (lv_at hl 2 rfl) ?_
  refine lv_iconst (v := 2) hx hb dX1_play_10 (by decide) ?_
  refine lv_iadd hx hb dX1_play_11 ?_
  have h8 := hv.1
  have hv := hv.2
  have hPc : va_P (gD g) vwCl (wZ g ad 43 (qScr σ)) H := hP.sub [13, 14] rfl
  refine ro_int (va_runV (As := [.int (p0 + 2)]) (rest := []) ⟨hx, hb, hml, hown, hts⟩ (h_X1_digit g ad 43 (qScr σ) (p0 + 2) h8) (cwV 1 hts gX1_play_X1_digit rfl rfl rfl (by decide +kernel) ⟨Nat.le_of_ble_eq_true rfl, Nat.le_of_ble_eq_true rfl⟩) ⟨RO_blind, va_recv hK hP (ci := 1) (q0 := 13) rfl rfl, fun U hU hW => ⟨rfl, by rw [hU]; exact hPc, va_K.moved hW.alike hK, hE.call hW hU hS (fun _ h => h.elim)⟩⟩ rfl rfl hl.1 rfl (lv_room (Nat.le_of_ble_eq_true rfl)) dX1_play_12 ⟨Nat.le_of_ble_eq_true rfl, Nat.le_of_ble_eq_true rfl⟩) hS hP (fun r H locs hw hP hS => ?_)
  subst r
  refine lv_istore (lv' := [(4, .int (digV (qScr σ) (p0 + 2))), (3, .int (digV (qScr σ) (p0 + 1))), (0, .ref (ad 43)), (1, .int p0), (2, .ref (ad 30))]) hx hb dX1_play_15 hl (by decide) rfl (fun ls hl => ?_)
  refine lv_aload_n hx hb dX1_play_17 rfl (lv_at hl 2 rfl) ?_
  refine lv_iload_n hx hb dX1_play_18 rfl (lv_at hl 3 rfl) ?_
  have h8 := hv.1
  have hv := hv.2
  have hPc : va_P (gD g) vwCl (wZ g ad 43 (qScr σ)) H := hP.sub [13, 14] rfl
  refine ro_int (va_runV (As := [.int p0]) (rest := []) ⟨hx, hb, hml, hown, hts⟩ (h_X1_sign g ad 43 (qScr σ) p0 h8) (cwV 1 hts gX1_play_X1_sign rfl rfl rfl (by decide +kernel) ⟨Nat.le_of_ble_eq_true rfl, Nat.le_of_ble_eq_true rfl⟩) ⟨RO_blind, va_recv hK hP (ci := 1) (q0 := 13) rfl rfl, fun U hU hW => ⟨rfl, by rw [hU]; exact hPc, va_K.moved hW.alike hK, hE.call hW hU hS (fun _ h => h.elim)⟩⟩ rfl rfl hl.1 rfl (lv_room (Nat.le_of_ble_eq_true rfl)) dX1_play_19 ⟨Nat.le_of_ble_eq_true rfl, Nat.le_of_ble_eq_true rfl⟩) hS hP (fun r H locs hw hP hS => ?_)
  subst r
  by_cases d22_97 : (signI (qScr σ) p0) = 97
  · have hv := hv.1 d22_97
    refine lv_lookup (off := 94) (tgt := 116) hx hb dX1_play_22 (by decide +kernel) (by rw [d22_97]; decide +kernel) (by decide) ?_
    refine lv_aload_n hx hb dX1_play_116 rfl (lv_at hl 4 rfl) ?_
    refine lv_iload_n hx hb dX1_play_117 rfl (lv_at hl 1 rfl) ?_
    refine lv_iload hx hb dX1_play_118 (lv_at hl 0 rfl) ?_
    have hPc : va_P (gD g) vwCl (wC g ad 30 (qCourt σ)) H := hP.sub [0, 1, 2, 3, 4, 5, 6, 7, 8, 9, 10, 11, 12] rfl
    refine ro_int (va_runV (As := [.int (digV (qScr σ) (p0 + 1)), .int (digV (qScr σ) (p0 + 2))]) (rest := []) ⟨hx, hb, hml, hown, hts⟩ (h_X0_canAsk g ad 30 (qCourt σ) (digV (qScr σ) (p0 + 1)) (digV (qScr σ) (p0 + 2))) (cwV 2 hts gX1_play_X0_canAsk rfl rfl rfl (by decide +kernel) ⟨Nat.le_of_ble_eq_true rfl, Nat.le_of_ble_eq_true rfl⟩) ⟨RO_blind, va_recv hK hP (ci := 0) (q0 := 0) rfl rfl, fun U hU hW => ⟨rfl, by rw [hU]; exact hPc, va_K.moved hW.alike hK, hE.call hW hU hS (fun _ h => h.elim)⟩⟩ rfl rfl hl.1 rfl (lv_room (Nat.le_of_ble_eq_true rfl)) dX1_play_120 ⟨Nat.le_of_ble_eq_true rfl, Nat.le_of_ble_eq_true rfl⟩) hS hP (fun r H locs hw hP hS => ?_)
    subst r
    refine lv_if_ne (tgt := 128) hx hb dX1_play_123 (by decide) (fun c123 => ?_) (fun c123 => ?_)
    · have hv := hv.1 c123
      refine lv_aload_n hx hb dX1_play_128 rfl (lv_at hl 4 rfl) ?_
      refine lv_iload_n hx hb dX1_play_129 rfl (lv_at hl 1 rfl) ?_
      refine lv_iload hx hb dX1_play_130 (lv_at hl 0 rfl) ?_
      have h8 := hv.1
      have hv := hv.2
      have hPc : va_P (gD g) vwCl (wC g ad 30 (qCourt σ)) H := hP.sub [0, 1, 2, 3, 4, 5, 6, 7, 8, 9, 10, 11, 12] rfl
      have hDc : va_D (AD ad 30 13) (wC g ad 30 (qCourt σ)) := ⟨(hD.sub [0, 1, 2, 3, 4, 5, 6, 7, 8, 9, 10, 11, 12] (by decide) rfl).1, AD_of rfl⟩
      have hAc : ∀ q, (AD ad 30 13) q → (AD ad 30 15) q := AD_sub (by decide) (by decide)
      refine rw_int (va_runV (As := [.int (digV (qScr σ) (p0 + 1)), .int (digV (qScr σ) (p0 + 2))]) (rest := []) ⟨hx, hb, hml, hown, hts⟩ (h_X0_ask g ad 30 (qCourt σ) (digV (qScr σ) (p0 + 1)) (digV (qScr σ) (p0 + 2)) h8) (cwV 2 hts gX1_play_X0_ask rfl rfl rfl (by decide +kernel) ⟨Nat.le_of_ble_eq_true rfl, Nat.le_of_ble_eq_true rfl⟩) ⟨RW_blind, va_recv hK hP (ci := 0) (q0 := 0) rfl rfl, fun U hU hW => ⟨rfl, by rw [hU]; exact hPc, va_K.moved hW.alike hK, hE.call hW hU hS hAc, hDc⟩⟩ rfl rfl hl.1 rfl (lv_room (Nat.le_of_ble_eq_true rfl)) dX1_play_132 ⟨Nat.le_of_ble_eq_true rfl, Nat.le_of_ble_eq_true rfl⟩) hS hAc (fun r u H1 locs hw hP1 hk hS => ?_)
      obtain ⟨hw1, hw⟩ := hw; subst r; subst u
      have hP := mid_at hP hD 0 13 (b := wC g ad 30 (qCourt σ)) rfl (AD_at rfl) hk hP1 (wC_len.trans wC_len.symm)
      generalize H1 = H at hP hS ⊢
      have hP : va_P (gD g) vwCl (wP g ad (((askS (cS (qCourt σ)) (digV (qScr σ) (p0 + 1)) (digV (qScr σ) (p0 + 2))), (cNeeded (qCourt σ)), (cTruth (qCourt σ))), (qScr σ))) H := wP_set0 hP
      have hD : va_D (AD ad 30 15) (wP g ad (((askS (cS (qCourt σ)) (digV (qScr σ) (p0 + 1)) (digV (qScr σ) (p0 + 2))), (cNeeded (qCourt σ)), (cTruth (qCourt σ))), (qScr σ))) := hD.addr wP_addr
      refine lv_pop hx hb dX1_play_135 rfl ?_
      refine lv_iconst (v := 1) hx hb dX1_play_136 (by decide) ?_
      exact W.zret (v := 1) hx hb hr rfl (fun t ht hW => ⟨⟨1, (((askS (cS (qCourt σ)) (digV (qScr σ) (p0 + 1)) (digV (qScr σ) (p0 + 2))), (cNeeded (qCourt σ)), (cTruth (qCourt σ))), (qScr σ)), rfl, hv, P_at ht hP⟩, hS.F ht⟩) hS.2.2 dX1_play_137
    · have hv := hv.2 c123
      refine lv_iconst (v := 0) hx hb dX1_play_126 (by decide) ?_
      exact W.zret (v := 0) hx hb hr rfl (fun t ht hW => ⟨⟨0, σ, rfl, hv, P_at ht hP⟩, hS.F ht⟩) hS.2.2 dX1_play_127
  · have hv := hv.2 d22_97
    by_cases d22_102 : (signI (qScr σ) p0) = 102
    · have hv := hv.1 d22_102
      refine lv_lookup (off := 58) (tgt := 80) hx hb dX1_play_22 (by decide +kernel) (by rw [d22_102]; decide +kernel) (by decide) ?_
      refine lv_aload_n hx hb dX1_play_80 rfl (lv_at hl 4 rfl) ?_
      refine lv_iload_n hx hb dX1_play_81 rfl (lv_at hl 1 rfl) ?_
      have hPc : va_P (gD g) vwCl (wC g ad 30 (qCourt σ)) H := hP.sub [0, 1, 2, 3, 4, 5, 6, 7, 8, 9, 10, 11, 12] rfl
      have hDc : va_D (AD ad 30 13) (wC g ad 30 (qCourt σ)) := ⟨(hD.sub [0, 1, 2, 3, 4, 5, 6, 7, 8, 9, 10, 11, 12] (by decide) rfl).1, AD_of rfl⟩
      have hAc : ∀ q, (AD ad 30 13) q → (AD ad 30 15) q := AD_sub (by decide) (by decide)
      refine rw_int (va_runV (As := [.int (digV (qScr σ) (p0 + 1))]) (rest := []) ⟨hx, hb, hml, hown, hts⟩ (h_X0_flipFact g ad 30 (qCourt σ) (digV (qScr σ) (p0 + 1))) (cwV 1 hts gX1_play_X0_flipFact rfl rfl rfl (by decide +kernel) ⟨Nat.le_of_ble_eq_true rfl, Nat.le_of_ble_eq_true rfl⟩) ⟨RW_blind, va_recv hK hP (ci := 0) (q0 := 0) rfl rfl, fun U hU hW => ⟨rfl, by rw [hU]; exact hPc, va_K.moved hW.alike hK, hE.call hW hU hS hAc, hDc⟩⟩ rfl rfl hl.1 rfl (lv_room (Nat.le_of_ble_eq_true rfl)) dX1_play_82 ⟨Nat.le_of_ble_eq_true rfl, Nat.le_of_ble_eq_true rfl⟩) hS hAc (fun r u H1 locs hw hP1 hk hS => ?_)
      obtain ⟨hw1, hw⟩ := hw; subst r; subst u
      have hP := mid_at hP hD 0 13 (b := wC g ad 30 (qCourt σ)) rfl (AD_at rfl) hk hP1 (wC_len.trans wC_len.symm)
      generalize H1 = H at hP hS ⊢
      have hP : va_P (gD g) vwCl (wP g ad (((if isFactI (digV (qScr σ) (p0 + 1)) = 0 then cS (qCourt σ) else sSetCase (cS (qCourt σ)) (sCase (cS (qCourt σ)) ^^^ (1 <<< ((digV (qScr σ) (p0 + 1)) &&& 31)))), (cNeeded (qCourt σ)), (cTruth (qCourt σ))), (qScr σ))) H := wP_set0 hP
      have hD : va_D (AD ad 30 15) (wP g ad (((if isFactI (digV (qScr σ) (p0 + 1)) = 0 then cS (qCourt σ) else sSetCase (cS (qCourt σ)) (sCase (cS (qCourt σ)) ^^^ (1 <<< ((digV (qScr σ) (p0 + 1)) &&& 31)))), (cNeeded (qCourt σ)), (cTruth (qCourt σ))), (qScr σ))) := hD.addr wP_addr
      have hn := hv.1
      have hv := hv.2
      exact W.zret (v := (isFactI (digV (qScr σ) (p0 + 1)))) hx hb hr hn (fun t ht hW => ⟨⟨(isFactI (digV (qScr σ) (p0 + 1))), (((if isFactI (digV (qScr σ) (p0 + 1)) = 0 then cS (qCourt σ) else sSetCase (cS (qCourt σ)) (sCase (cS (qCourt σ)) ^^^ (1 <<< ((digV (qScr σ) (p0 + 1)) &&& 31)))), (cNeeded (qCourt σ)), (cTruth (qCourt σ))), (qScr σ)), rfl, hv, P_at ht hP⟩, hS.F ht⟩) hS.2.2 dX1_play_85
    · have hv := hv.2 d22_102
      by_cases d22_107 : (signI (qScr σ) p0) = 107
      · have hv := hv.1 d22_107
        refine lv_lookup (off := 86) (tgt := 108) hx hb dX1_play_22 (by decide +kernel) (by rw [d22_107]; decide +kernel) (by decide) ?_
        refine lv_aload_n hx hb dX1_play_108 rfl (lv_at hl 4 rfl) ?_
        refine lv_iload_n hx hb dX1_play_109 rfl (lv_at hl 1 rfl) ?_
        refine lv_iload hx hb dX1_play_110 (lv_at hl 0 rfl) ?_
        have hPc : va_P (gD g) vwCl (wC g ad 30 (qCourt σ)) H := hP.sub [0, 1, 2, 3, 4, 5, 6, 7, 8, 9, 10, 11, 12] rfl
        have hDc : va_D (AD ad 30 13) (wC g ad 30 (qCourt σ)) := ⟨(hD.sub [0, 1, 2, 3, 4, 5, 6, 7, 8, 9, 10, 11, 12] (by decide) rfl).1, AD_of rfl⟩
        have hAc : ∀ q, (AD ad 30 13) q → (AD ad 30 15) q := AD_sub (by decide) (by decide)
        refine rw_int (va_runV (As := [.int (digV (qScr σ) (p0 + 1)), .int (digV (qScr σ) (p0 + 2))]) (rest := []) ⟨hx, hb, hml, hown, hts⟩ (h_X0_flipKnown g ad 30 (qCourt σ) (digV (qScr σ) (p0 + 1)) (digV (qScr σ) (p0 + 2))) (cwV 2 hts gX1_play_X0_flipKnown rfl rfl rfl (by decide +kernel) ⟨Nat.le_of_ble_eq_true rfl, Nat.le_of_ble_eq_true rfl⟩) ⟨RW_blind, va_recv hK hP (ci := 0) (q0 := 0) rfl rfl, fun U hU hW => ⟨rfl, by rw [hU]; exact hPc, va_K.moved hW.alike hK, hE.call hW hU hS hAc, hDc⟩⟩ rfl rfl hl.1 rfl (lv_room (Nat.le_of_ble_eq_true rfl)) dX1_play_112 ⟨Nat.le_of_ble_eq_true rfl, Nat.le_of_ble_eq_true rfl⟩) hS hAc (fun r u H1 locs hw hP1 hk hS => ?_)
        obtain ⟨hw1, hw⟩ := hw; subst r; subst u
        have hP := mid_at hP hD 0 13 (b := wC g ad 30 (qCourt σ)) rfl (AD_at rfl) hk hP1 (wC_len.trans wC_len.symm)
        generalize H1 = H at hP hS ⊢
        have hP : va_P (gD g) vwCl (wP g ad (((if flipKI (cS (qCourt σ)) (digV (qScr σ) (p0 + 1)) (digV (qScr σ) (p0 + 2)) = 0 then cS (qCourt σ) else sSetKnows (cS (qCourt σ)) (upd (sKnows (cS (qCourt σ))) (digV (qScr σ) (p0 + 1)).toNatClampNeg (sKnows (cS (qCourt σ)) (digV (qScr σ) (p0 + 1)).toNatClampNeg ^^^ (1 <<< ((digV (qScr σ) (p0 + 2)) &&& 31))))), (cNeeded (qCourt σ)), (cTruth (qCourt σ))), (qScr σ))) H := wP_set0 hP
        have hD : va_D (AD ad 30 15) (wP g ad (((if flipKI (cS (qCourt σ)) (digV (qScr σ) (p0 + 1)) (digV (qScr σ) (p0 + 2)) = 0 then cS (qCourt σ) else sSetKnows (cS (qCourt σ)) (upd (sKnows (cS (qCourt σ))) (digV (qScr σ) (p0 + 1)).toNatClampNeg (sKnows (cS (qCourt σ)) (digV (qScr σ) (p0 + 1)).toNatClampNeg ^^^ (1 <<< ((digV (qScr σ) (p0 + 2)) &&& 31))))), (cNeeded (qCourt σ)), (cTruth (qCourt σ))), (qScr σ))) := hD.addr wP_addr
        have hn := hv.1
        have hv := hv.2
        exact W.zret (v := (flipKI (cS (qCourt σ)) (digV (qScr σ) (p0 + 1)) (digV (qScr σ) (p0 + 2)))) hx hb hr hn (fun t ht hW => ⟨⟨(flipKI (cS (qCourt σ)) (digV (qScr σ) (p0 + 1)) (digV (qScr σ) (p0 + 2))), (((if flipKI (cS (qCourt σ)) (digV (qScr σ) (p0 + 1)) (digV (qScr σ) (p0 + 2)) = 0 then cS (qCourt σ) else sSetKnows (cS (qCourt σ)) (upd (sKnows (cS (qCourt σ))) (digV (qScr σ) (p0 + 1)).toNatClampNeg (sKnows (cS (qCourt σ)) (digV (qScr σ) (p0 + 1)).toNatClampNeg ^^^ (1 <<< ((digV (qScr σ) (p0 + 2)) &&& 31))))), (cNeeded (qCourt σ)), (cTruth (qCourt σ))), (qScr σ)), rfl, hv, P_at ht hP⟩, hS.F ht⟩) hS.2.2 dX1_play_115
      · have hv := hv.2 d22_107
        by_cases d22_110 : (signI (qScr σ) p0) = 110
        · have hv := hv.1 d22_110
          refine lv_lookup (off := 116) (tgt := 138) hx hb dX1_play_22 (by decide +kernel) (by rw [d22_110]; decide +kernel) (by decide) ?_
          refine lv_aload_n hx hb dX1_play_138 rfl (lv_at hl 4 rfl) ?_
          refine lv_iconst (v := 0) hx hb dX1_play_139 (by decide) ?_
          refine va_put (D := gD g) (ci := 0) (v := .int 0) (ty := .int) (C := RX0) (T := TX0) (N := 17) hx hb hts hi0 tyX0 tyX0_ok nmX0 hown hK hP hD hS 0 rfl rfl 4 (by decide) k0 (fun _ h9 => h9) rfl (by decide +kernel) rfl rfl (Nat.le_of_ble_eq_true rfl) dX1_play_140 (fun H locs hP hD hS => ?_)
          have hP : va_P (gD g) vwCl (wP g ad ((((sCase (cS (qCourt σ))), (sAsked (cS (qCourt σ))), (sNq (cS (qCourt σ))), (sNw (cS (qCourt σ))), 0, (sForm (cS (qCourt σ))), (sFirst (cS (qCourt σ))), (sSecond (cS (qCourt σ))), (sKind (cS (qCourt σ))), (sFigure (cS (qCourt σ))), (sKnows (cS (qCourt σ))), (sWhom (cS (qCourt σ))), (sWhat (cS (qCourt σ))), (sSaid (cS (qCourt σ))), (sWhen (cS (qCourt σ)))), (cNeeded (qCourt σ)), (cTruth (qCourt σ))), (qScr σ))) H := hP
          have hD : va_D (AD ad 30 15) (wP g ad ((((sCase (cS (qCourt σ))), (sAsked (cS (qCourt σ))), (sNq (cS (qCourt σ))), (sNw (cS (qCourt σ))), 0, (sForm (cS (qCourt σ))), (sFirst (cS (qCourt σ))), (sSecond (cS (qCourt σ))), (sKind (cS (qCourt σ))), (sFigure (cS (qCourt σ))), (sKnows (cS (qCourt σ))), (sWhom (cS (qCourt σ))), (sWhat (cS (qCourt σ))), (sSaid (cS (qCourt σ))), (sWhen (cS (qCourt σ)))), (cNeeded (qCourt σ)), (cTruth (qCourt σ))), (qScr σ))) := hD
          refine lv_iconst (v := 1) hx hb dX1_play_143 (by decide) ?_
          exact W.zret (v := 1) hx hb hr rfl (fun t ht hW => ⟨⟨1, ((((sCase (cS (qCourt σ))), (sAsked (cS (qCourt σ))), (sNq (cS (qCourt σ))), (sNw (cS (qCourt σ))), 0, (sForm (cS (qCourt σ))), (sFirst (cS (qCourt σ))), (sSecond (cS (qCourt σ))), (sKind (cS (qCourt σ))), (sFigure (cS (qCourt σ))), (sKnows (cS (qCourt σ))), (sWhom (cS (qCourt σ))), (sWhat (cS (qCourt σ))), (sSaid (cS (qCourt σ))), (sWhen (cS (qCourt σ)))), (cNeeded (qCourt σ)), (cTruth (qCourt σ))), (qScr σ)), rfl, hv, P_at ht hP⟩, hS.F ht⟩) hS.2.2 dX1_play_144
        · have hv := hv.2 d22_110
          by_cases d22_113 : (signI (qScr σ) p0) = 113
          · have hv := hv.1 d22_113
            refine lv_lookup (off := 64) (tgt := 86) hx hb dX1_play_22 (by decide +kernel) (by rw [d22_113]; decide +kernel) (by decide) ?_
            refine lv_aload_n hx hb dX1_play_86 rfl (lv_at hl 4 rfl) ?_
            refine lv_iload_n hx hb dX1_play_87 rfl (lv_at hl 1 rfl) ?_
            refine lv_iload hx hb dX1_play_88 (lv_at hl 0 rfl) ?_
            refine lv_aload_n hx hb dX1_play_90 rfl (lv_at hl 2 rfl) ?_
            refine lv_iload_n hx hb dX1_play_91 rfl (lv_at hl 3 rfl) ?_
            refine lv_iconst (v := 3) hx hb dX1_play_92 (by decide) ?_
            refine lv_iadd hx hb dX1_play_93 ?_
            have h8 := hv.1
            have hv := hv.2
            have hPc : va_P (gD g) vwCl (wZ g ad 43 (qScr σ)) H := hP.sub [13, 14] rfl
            refine ro_int (va_runV (As := [.int (p0 + 3)]) (rest := [.int (digV (qScr σ) (p0 + 2)), .int (digV (qScr σ) (p0 + 1)), .ref (ad 30)]) ⟨hx, hb, hml, hown, hts⟩ (h_X1_digit g ad 43 (qScr σ) (p0 + 3) h8) (cwV 1 hts gX1_play_X1_digit rfl rfl rfl (by decide +kernel) ⟨Nat.le_of_ble_eq_true rfl, Nat.le_of_ble_eq_true rfl⟩) ⟨RO_blind, va_recv hK hP (ci := 1) (q0 := 13) rfl rfl, fun U hU hW => ⟨rfl, by rw [hU]; exact hPc, va_K.moved hW.alike hK, hE.call hW hU hS (fun _ h => h.elim)⟩⟩ rfl rfl hl.1 rfl (lv_room (Nat.le_of_ble_eq_true rfl)) dX1_play_94 ⟨Nat.le_of_ble_eq_true rfl, Nat.le_of_ble_eq_true rfl⟩) hS hP (fun r H locs hw hP hS => ?_)
            subst r
            have h8 := hv.1
            have hv := hv.2
            have hPc : va_P (gD g) vwCl (wC g ad 30 (qCourt σ)) H := hP.sub [0, 1, 2, 3, 4, 5, 6, 7, 8, 9, 10, 11, 12] rfl
            have hDc : va_D (AD ad 30 13) (wC g ad 30 (qCourt σ)) := ⟨(hD.sub [0, 1, 2, 3, 4, 5, 6, 7, 8, 9, 10, 11, 12] (by decide) rfl).1, AD_of rfl⟩
            have hAc : ∀ q, (AD ad 30 13) q → (AD ad 30 15) q := AD_sub (by decide) (by decide)
            refine rw_int (va_runV (As := [.int (digV (qScr σ) (p0 + 1)), .int (digV (qScr σ) (p0 + 2)), .int (digV (qScr σ) (p0 + 3))]) (rest := []) ⟨hx, hb, hml, hown, hts⟩ (h_X0_addQuestion g ad 30 (qCourt σ) (digV (qScr σ) (p0 + 1)) (digV (qScr σ) (p0 + 2)) (digV (qScr σ) (p0 + 3)) h8) (cwV 3 hts gX1_play_X0_addQuestion rfl rfl rfl (by decide +kernel) ⟨Nat.le_of_ble_eq_true rfl, Nat.le_of_ble_eq_true rfl⟩) ⟨RW_blind, va_recv hK hP (ci := 0) (q0 := 0) rfl rfl, fun U hU hW => ⟨rfl, by rw [hU]; exact hPc, va_K.moved hW.alike hK, hE.call hW hU hS hAc, hDc⟩⟩ rfl rfl hl.1 rfl (lv_room (Nat.le_of_ble_eq_true rfl)) dX1_play_97 ⟨Nat.le_of_ble_eq_true rfl, Nat.le_of_ble_eq_true rfl⟩) hS hAc (fun r u H1 locs hw hP1 hk hS => ?_)
            obtain ⟨hw1, hw⟩ := hw; subst r; subst u
            have hP := mid_at hP hD 0 13 (b := wC g ad 30 (qCourt σ)) rfl (AD_at rfl) hk hP1 (wC_len.trans wC_len.symm)
            generalize H1 = H at hP hS ⊢
            have hP : va_P (gD g) vwCl (wP g ad ((if qOkB (cS (qCourt σ)) (digV (qScr σ) (p0 + 1)) (digV (qScr σ) (p0 + 2)) (digV (qScr σ) (p0 + 3)) then addQC (qCourt σ) (digV (qScr σ) (p0 + 1)) (digV (qScr σ) (p0 + 2)) (digV (qScr σ) (p0 + 3)) else (qCourt σ)), (qScr σ))) H := wP_set0 hP
            have hD : va_D (AD ad 30 15) (wP g ad ((if qOkB (cS (qCourt σ)) (digV (qScr σ) (p0 + 1)) (digV (qScr σ) (p0 + 2)) (digV (qScr σ) (p0 + 3)) then addQC (qCourt σ) (digV (qScr σ) (p0 + 1)) (digV (qScr σ) (p0 + 2)) (digV (qScr σ) (p0 + 3)) else (qCourt σ)), (qScr σ))) := hD.addr wP_addr
            have hn := hv.1
            have hv := hv.2
            exact W.zret (v := (b2i (qOkB (cS (qCourt σ)) (digV (qScr σ) (p0 + 1)) (digV (qScr σ) (p0 + 2)) (digV (qScr σ) (p0 + 3))))) hx hb hr hn (fun t ht hW => ⟨⟨(b2i (qOkB (cS (qCourt σ)) (digV (qScr σ) (p0 + 1)) (digV (qScr σ) (p0 + 2)) (digV (qScr σ) (p0 + 3)))), ((if qOkB (cS (qCourt σ)) (digV (qScr σ) (p0 + 1)) (digV (qScr σ) (p0 + 2)) (digV (qScr σ) (p0 + 3)) then addQC (qCourt σ) (digV (qScr σ) (p0 + 1)) (digV (qScr σ) (p0 + 2)) (digV (qScr σ) (p0 + 3)) else (qCourt σ)), (qScr σ)), rfl, hv, P_at ht hP⟩, hS.F ht⟩) hS.2.2 dX1_play_100
          · have hv := hv.2 d22_113
            by_cases d22_119 : (signI (qScr σ) p0) = 119
            · have hv := hv.1 d22_119
              refine lv_lookup (off := 79) (tgt := 101) hx hb dX1_play_22 (by decide +kernel) (by rw [d22_119]; decide +kernel) (by decide) ?_
              refine lv_aload_n hx hb dX1_play_101 rfl (lv_at hl 2 rfl) ?_
              refine lv_iload_n hx hb dX1_play_102 rfl (lv_at hl 3 rfl) ?_
              refine lv_aload_n hx hb dX1_play_103 rfl (lv_at hl 4 rfl) ?_
              have h8 := hv.1
              have hv := hv.2
              have hPc := hP
              have hDc := hD
              refine rw_int (va_runV (As := [.int p0, .ref (ad 30)]) (rest := []) ⟨hx, hb, hml, hown, hts⟩ (h_X1_playWitness g ad σ p0 h8) (cwV 2 hts gX1_play_X1_playWitness rfl rfl rfl (by decide +kernel) ⟨Nat.le_of_ble_eq_true rfl, Nat.le_of_ble_eq_true rfl⟩) ⟨RW_blind, va_recv hK hP (ci := 1) (q0 := 13) rfl rfl, fun U hU hW => ⟨rfl, by rw [hU]; exact hPc, va_K.moved hW.alike hK, hE.call hW hU hS (fun _ h => h), hDc⟩⟩ rfl rfl hl.1 rfl (lv_room (Nat.le_of_ble_eq_true rfl)) dX1_play_104 ⟨Nat.le_of_ble_eq_true rfl, Nat.le_of_ble_eq_true rfl⟩) hS (fun _ h => h) (fun r u H1 locs hw hP1 hk hS => ?_)
              obtain ⟨hw1, hw⟩ := hw; subst r; subst u
              have hP := hP1
              generalize H1 = H at hP hS ⊢
              have hP : va_P (gD g) vwCl (wP g ad (((playWC (qScr σ) (qCourt σ) p0).2), (qScr σ))) H := hP
              have hD : va_D (AD ad 30 15) (wP g ad (((playWC (qScr σ) (qCourt σ) p0).2), (qScr σ))) := hD.addr wP_addr
              have hn := hv.1
              have hv := hv.2
              exact W.zret (v := ((playWC (qScr σ) (qCourt σ) p0).1)) hx hb hr hn (fun t ht hW => ⟨⟨((playWC (qScr σ) (qCourt σ) p0).1), (((playWC (qScr σ) (qCourt σ) p0).2), (qScr σ)), rfl, hv, P_at ht hP⟩, hS.F ht⟩) hS.2.2 dX1_play_107
            · have hv := hv.2 d22_119
              refine lv_lookup (off := 123) (tgt := 145) hx hb dX1_play_22 (by decide +kernel) (by first | (rw [lv_osw d22_97 (by decide), lv_osw d22_102 (by decide), lv_osw d22_107 (by decide), lv_osw d22_110 (by decide), lv_osw d22_113 (by decide), lv_osw d22_119 (by decide)]; rfl) | (show Op.lookupswitch.offset [(97, 94), (102, 58), (107, 86), (110, 116), (113, 64), (119, 79)] 123 _ = _; rw [lv_osw d22_97 (by decide), lv_osw d22_102 (by decide), lv_osw d22_107 (by decide), lv_osw d22_110 (by decide), lv_osw d22_113 (by decide), lv_osw d22_119 (by decide)]; rfl)) (by decide) ?_
              refine lv_iconst (v := 0) hx hb dX1_play_145 (by decide) ?_
              exact W.zret (v := 0) hx hb hr rfl (fun t ht hW => ⟨⟨0, σ, rfl, hv, P_at ht hP⟩, hS.F ht⟩) hS.2.2 dX1_play_146

set_option maxHeartbeats 4000000 in
set_option maxRecDepth 100000 in
theorem m_X2_playScript (l : Launch) (h_X0_becomes_30_4 : C_X0_becomes_30_4 l) (h_X0_becomes_4_30 : C_X0_becomes_4_30 l) (h_X1_brokenPlace : C_X1_brokenPlace l) (h_X1_play : C_X1_play l) (h_X1_statementLength : C_X1_statementLength l) (g : CX) (ad : Nat → Nat) (σ : KX)  (Post : Int32 → KX → Prop) (hv : vc_X2_playScript σ Post) : Met l yX2_playScript wsX2_playScript { frames := 6, cells := 0, slots := 0, locals := 153 } (va_Pc [.ref (ad 0)] (RW g (AD ad 0 45) (wX g ad σ))) (va_Qi (fun (r : Int32) (u : KX) => Post r u) (fun u t => va_P (gD g) vwCl (wX g ad u) t.heap) (AD ad 0 45)) 0 0 (AD ad 0 45) := by
  unfold vc_X2_playScript at hv
  refine Met.ofW (cc := cX2_playScript) (maxL := 4) (ret := (some .int)) (by decide) rfl ?_
  intro p e s m args below meth c s₁ B hml hv0
  obtain ⟨rfl, hP, hK, hE, hD⟩ := hv0
  have hx := B.exec
  have hb := B.bytes
  have hr := B.returns
  have hts := atoms_spec (ws := wsX2_playScript) B.pre
  have hown : s.vm.findClass RX2 = some m.cls := findClass_of_methodNamed B.named
  have hlocks := B.notSynchronized
  have hi1 : ∀ w ∈ wsX10, w ∈ wsX2_playScript := by decide +kernel
  have hi2 : ∀ w ∈ wsX20, w ∈ wsX2_playScript := by decide +kernel
  have k0 := hts (.fieldLink RX2 25 "JuryHearsAnswers" "script" "LJuryHearsAnswers$Script;") (by decide +kernel)
  have k1 := hts (.fieldLink RX2 19 "JuryHearsAnswers" "trial" "LJuryHearsAnswers$Court;") (by decide +kernel)
  have k2 := hts (.fieldLink RX2 10 "JuryHearsAnswers" "now" "LJuryHearsAnswers$Court;") (by decide +kernel)
  have k3 := hts (.fieldLink RX2 44 "JuryHearsAnswers$Script" "length" "I") (by decide +kernel)
  have hS : va_S (AD ad 0 45) s.heap s.heap [] := va_S.rf
  have hP : va_P (gD g) vwCl (wX g ad σ) s.heap := hP
  have hl := lv_entry ([.ref (ad 0)]) (n := 4) (Nat.le_of_ble_eq_true rfl)
  rw [lg_entry_eq]
  generalize (lg_sl ([.ref (ad 0)]) ++ List.replicate (4 - (lg_sl ([.ref (ad 0)])).length) Slot.unset).toArray = ls at hl ⊢
  have hl : lv_has ls 4 [(0, .ref (ad 0))] := hl
  have hv := hv (fun (x2 : Int32) (x3 : Int32) (s_now : KC) (s_trial : KC) => ∀ (H : Heap) (locs : List Loc) (ls : Array Slot), va_P (gD g) vwCl (wX g ad (s_now, (xTaken σ), s_trial, (xScr σ), (xRow σ), (xRefus σ), (xKept σ), (xRowLen σ), (xIsTaken σ))) H → va_D (AD ad 0 45) (wX g ad (s_now, (xTaken σ), s_trial, (xScr σ), (xRow σ), (xRefus σ), (xKept σ), (xRowLen σ), (xIsTaken σ))) → va_S (AD ad 0 45) s.heap H locs → lv_has ls 4 [(0, .ref (ad 0)), (2, .int x2), (3, .int x3)] → W p l e { frames := 6, cells := 0, slots := 0, locals := 153 } s m ([.ref (ad 0)] : List Value).toArray below meth c H locs 0 0 (MQ below (va_Qi (fun (r : Int32) (u : KX) => Post r u) (fun u t => va_P (gD g) vwCl (wX g ad u) t.heap) (AD ad 0 45)) ([.ref (ad 0)] : List Value).toArray s 0 0 (AD ad 0 45)) (F0 m 33 ls []))
  have hv := hv (by
    intro x2 x3 s_now s_trial hv H locs ls hP hD hS hl
    refine lv_iload_n hx hb dX2_playScript_33 rfl (lv_at hl 1 rfl) ?_
    refine lv_aload_n hx hb dX2_playScript_34 rfl (lv_at hl 0 rfl) ?_
    refine va_get (D := gD g) (ci := 2) (v := .ref (ad 43)) (C := RX2) (T := TX2) (N := 9) hx hb hts hi2 hown hK hP 0 rfl rfl 3 (by decide) k0 (fun _ h9 => h9) rfl dX2_playScript_35 ?_
    refine va_get (D := gD g) (ci := 1) (v := .int (zLen (xScr σ))) (C := RX1) (T := TX1) (N := 2) hx hb hts hi1 hown hK hP 43 rfl rfl 0 (by decide) k3 (fun _ h9 => h9) rfl dX2_playScript_38 ?_
    refine lv_icmp_ge (tgt := 88) hx hb dX2_playScript_41 (by decide) (fun c41 => ?_) (fun c41 => ?_)
    · have hv := hv.1 c41
      refine lv_aload_n hx hb dX2_playScript_88 rfl (lv_at hl 0 rfl) ?_
      refine va_get (D := gD g) (ci := 2) (v := .ref (ad 4)) (C := RX2) (T := TX2) (N := 9) hx hb hts hi2 hown hK hP 0 rfl rfl 0 (by decide) k2 (fun _ h9 => h9) rfl dX2_playScript_89 ?_
      refine lv_aload_n hx hb dX2_playScript_92 rfl (lv_at hl 0 rfl) ?_
      refine va_get (D := gD g) (ci := 2) (v := .ref (ad 30)) (C := RX2) (T := TX2) (N := 9) hx hb hts hi2 hown hK hP 0 rfl rfl 2 (by decide) k1 (fun _ h9 => h9) rfl dX2_playScript_93 ?_
      have h8 := hv.1
      have hv := hv.2
      have hPc : va_P (gD g) vwCl (wT g ad (s_now, (xTaken σ), s_trial)) H := hP.sub [4, 5, 6, 7, 8, 9, 10, 11, 12, 13, 14, 15, 16, 17, 18, 19, 20, 21, 22, 23, 24, 25, 26, 27, 28, 29, 30, 31, 32, 33, 34, 35, 36, 37, 38, 39, 40, 41, 42] rfl
      have hDc : va_D (AD ad 4 39) (wT g ad (s_now, (xTaken σ), s_trial)) := ⟨(hD.sub [4, 5, 6, 7, 8, 9, 10, 11, 12, 13, 14, 15, 16, 17, 18, 19, 20, 21, 22, 23, 24, 25, 26, 27, 28, 29, 30, 31, 32, 33, 34, 35, 36, 37, 38, 39, 40, 41, 42] (by decide) rfl).1, AD_of rfl⟩
      have hAc : ∀ q, (AD ad 4 39) q → (AD ad 0 45) q := AD_sub (by decide) (by decide)
      refine rw_void (va_runV (As := [.ref (ad 30)]) (rest := []) ⟨hx, hb, hml, hown, hts⟩ (h_X0_becomes_4_30 g ad (s_now, (xTaken σ), s_trial) h8) (cwV 1 hts gX2_playScript_X0_becomes rfl rfl rfl (by decide +kernel) ⟨Nat.le_of_ble_eq_true rfl, Nat.le_of_ble_eq_true rfl⟩) ⟨RW_blind, va_recv hK hP (ci := 0) (q0 := 4) rfl rfl, fun U hU hW => ⟨rfl, by rw [hU]; exact hPc, va_K.moved hW.alike hK, hE.call hW hU hS hAc, hDc⟩⟩ rfl rfl hl.1 rfl (lv_room (Nat.le_of_ble_eq_true rfl)) dX2_playScript_96 ⟨Nat.le_of_ble_eq_true rfl, Nat.le_of_ble_eq_true rfl⟩) hS hAc (fun u H1 locs hw hP1 hk hS => ?_)
      subst u
      have hP := mid_at hP hD 4 39 (b := wT g ad (s_now, (xTaken σ), s_trial)) rfl (AD_at rfl) hk hP1 (wT_len.trans wT_len.symm)
      generalize H1 = H at hP hS ⊢
      have hP : va_P (gD g) vwCl (wX g ad ((s_trial), (xTaken σ), s_trial, (xScr σ), (xRow σ), (xRefus σ), (xKept σ), (xRowLen σ), (xIsTaken σ))) H := hP
      have hD : va_D (AD ad 0 45) (wX g ad ((s_trial), (xTaken σ), s_trial, (xScr σ), (xRow σ), (xRefus σ), (xKept σ), (xRowLen σ), (xIsTaken σ))) := hD.addr wX_addr
      refine lv_iload_n hx hb dX2_playScript_99 rfl (lv_at hl 2 rfl) ?_
      exact W.iret (v := x3) hx hb hr (fun t ht hW => ⟨⟨x3, ((s_trial), (xTaken σ), s_trial, (xScr σ), (xRow σ), (xRefus σ), (xKept σ), (xRowLen σ), (xIsTaken σ)), rfl, hv, P_at ht hP⟩, hS.F ht⟩) hS.2.2 dX2_playScript_100
    · have hv := hv.2 c41
      refine lv_iload_n hx hb dX2_playScript_44 rfl (lv_at hl 2 rfl) ?_
      refine lv_bipush (v := 96) hx hb dX2_playScript_45 (by decide) ?_
      refine lv_icmp_ge (tgt := 88) hx hb dX2_playScript_47 (by decide) (fun c47 => ?_) (fun c47 => ?_)
      · have hv := hv.1 c47
        refine lv_aload_n hx hb dX2_playScript_88 rfl (lv_at hl 0 rfl) ?_
        refine va_get (D := gD g) (ci := 2) (v := .ref (ad 4)) (C := RX2) (T := TX2) (N := 9) hx hb hts hi2 hown hK hP 0 rfl rfl 0 (by decide) k2 (fun _ h9 => h9) rfl dX2_playScript_89 ?_
        refine lv_aload_n hx hb dX2_playScript_92 rfl (lv_at hl 0 rfl) ?_
        refine va_get (D := gD g) (ci := 2) (v := .ref (ad 30)) (C := RX2) (T := TX2) (N := 9) hx hb hts hi2 hown hK hP 0 rfl rfl 2 (by decide) k1 (fun _ h9 => h9) rfl dX2_playScript_93 ?_
        have h8 := hv.1
        have hv := hv.2
        have hPc : va_P (gD g) vwCl (wT g ad (s_now, (xTaken σ), s_trial)) H := hP.sub [4, 5, 6, 7, 8, 9, 10, 11, 12, 13, 14, 15, 16, 17, 18, 19, 20, 21, 22, 23, 24, 25, 26, 27, 28, 29, 30, 31, 32, 33, 34, 35, 36, 37, 38, 39, 40, 41, 42] rfl
        have hDc : va_D (AD ad 4 39) (wT g ad (s_now, (xTaken σ), s_trial)) := ⟨(hD.sub [4, 5, 6, 7, 8, 9, 10, 11, 12, 13, 14, 15, 16, 17, 18, 19, 20, 21, 22, 23, 24, 25, 26, 27, 28, 29, 30, 31, 32, 33, 34, 35, 36, 37, 38, 39, 40, 41, 42] (by decide) rfl).1, AD_of rfl⟩
        have hAc : ∀ q, (AD ad 4 39) q → (AD ad 0 45) q := AD_sub (by decide) (by decide)
        refine rw_void (va_runV (As := [.ref (ad 30)]) (rest := []) ⟨hx, hb, hml, hown, hts⟩ (h_X0_becomes_4_30 g ad (s_now, (xTaken σ), s_trial) h8) (cwV 1 hts gX2_playScript_X0_becomes rfl rfl rfl (by decide +kernel) ⟨Nat.le_of_ble_eq_true rfl, Nat.le_of_ble_eq_true rfl⟩) ⟨RW_blind, va_recv hK hP (ci := 0) (q0 := 4) rfl rfl, fun U hU hW => ⟨rfl, by rw [hU]; exact hPc, va_K.moved hW.alike hK, hE.call hW hU hS hAc, hDc⟩⟩ rfl rfl hl.1 rfl (lv_room (Nat.le_of_ble_eq_true rfl)) dX2_playScript_96 ⟨Nat.le_of_ble_eq_true rfl, Nat.le_of_ble_eq_true rfl⟩) hS hAc (fun u H1 locs hw hP1 hk hS => ?_)
        subst u
        have hP := mid_at hP hD 4 39 (b := wT g ad (s_now, (xTaken σ), s_trial)) rfl (AD_at rfl) hk hP1 (wT_len.trans wT_len.symm)
        generalize H1 = H at hP hS ⊢
        have hP : va_P (gD g) vwCl (wX g ad ((s_trial), (xTaken σ), s_trial, (xScr σ), (xRow σ), (xRefus σ), (xKept σ), (xRowLen σ), (xIsTaken σ))) H := hP
        have hD : va_D (AD ad 0 45) (wX g ad ((s_trial), (xTaken σ), s_trial, (xScr σ), (xRow σ), (xRefus σ), (xKept σ), (xRowLen σ), (xIsTaken σ))) := hD.addr wX_addr
        refine lv_iload_n hx hb dX2_playScript_99 rfl (lv_at hl 2 rfl) ?_
        exact W.iret (v := x3) hx hb hr (fun t ht hW => ⟨⟨x3, ((s_trial), (xTaken σ), s_trial, (xScr σ), (xRow σ), (xRefus σ), (xKept σ), (xRowLen σ), (xIsTaken σ)), rfl, hv, P_at ht hP⟩, hS.F ht⟩) hS.2.2 dX2_playScript_100
      · have hv := hv.2 c47
        refine lv_aload_n hx hb dX2_playScript_50 rfl (lv_at hl 0 rfl) ?_
        refine va_get (D := gD g) (ci := 2) (v := .ref (ad 43)) (C := RX2) (T := TX2) (N := 9) hx hb hts hi2 hown hK hP 0 rfl rfl 3 (by decide) k0 (fun _ h9 => h9) rfl dX2_playScript_51 ?_
        refine lv_iload_n hx hb dX2_playScript_54 rfl (lv_at hl 1 rfl) ?_
        refine lv_aload_n hx hb dX2_playScript_55 rfl (lv_at hl 0 rfl) ?_
        refine va_get (D := gD g) (ci := 2) (v := .ref (ad 30)) (C := RX2) (T := TX2) (N := 9) hx hb hts hi2 hown hK hP 0 rfl rfl 2 (by decide) k1 (fun _ h9 => h9) rfl dX2_playScript_56 ?_
        have h8 := hv.1
        have hv := hv.2
        have hPc : va_P (gD g) vwCl (wP g ad (s_trial, (xScr σ))) H := hP.sub [30, 31, 32, 33, 34, 35, 36, 37, 38, 39, 40, 41, 42, 43, 44] rfl
        have hDc : va_D (AD ad 30 15) (wP g ad (s_trial, (xScr σ))) := ⟨(hD.sub [30, 31, 32, 33, 34, 35, 36, 37, 38, 39, 40, 41, 42, 43, 44] (by decide) rfl).1, AD_of rfl⟩
        have hAc : ∀ q, (AD ad 30 15) q → (AD ad 0 45) q := AD_sub (by decide) (by decide)
        refine rw_int (va_runV (As := [.int x2, .ref (ad 30)]) (rest := []) ⟨hx, hb, hml, hown, hts⟩ (h_X1_play g ad (s_trial, (xScr σ)) x2 h8) (cwV 2 hts gX2_playScript_X1_play rfl rfl rfl (by decide +kernel) ⟨Nat.le_of_ble_eq_true rfl, Nat.le_of_ble_eq_true rfl⟩) ⟨RW_blind, va_recv hK hP (ci := 1) (q0 := 43) rfl rfl, fun U hU hW => ⟨rfl, by rw [hU]; exact hPc, va_K.moved hW.alike hK, hE.call hW hU hS hAc, hDc⟩⟩ rfl rfl hl.1 rfl (lv_room (Nat.le_of_ble_eq_true rfl)) dX2_playScript_59 ⟨Nat.le_of_ble_eq_true rfl, Nat.le_of_ble_eq_true rfl⟩) hS hAc (fun r u H1 locs hw hP1 hk hS => ?_)
        obtain ⟨hw1, hw⟩ := hw; subst r; subst u
        have hP := mid_at hP hD 30 15 (b := wP g ad (s_trial, (xScr σ))) rfl (AD_at rfl) hk hP1 (wP_len.trans wP_len.symm)
        generalize H1 = H at hP hS ⊢
        have hP : va_P (gD g) vwCl (wX g ad (s_now, (xTaken σ), ((playC (xScr σ) s_trial x2).2), (xScr σ), (xRow σ), (xRefus σ), (xKept σ), (xRowLen σ), (xIsTaken σ))) H := wX_setP hP
        have hD : va_D (AD ad 0 45) (wX g ad (s_now, (xTaken σ), ((playC (xScr σ) s_trial x2).2), (xScr σ), (xRow σ), (xRefus σ), (xKept σ), (xRowLen σ), (xIsTaken σ))) := hD.addr wX_addr
        refine lv_if_ne (tgt := 71) hx hb dX2_playScript_62 (by decide) (fun c62 => ?_) (fun c62 => ?_)
        · have hv := hv.1 c62
          refine lv_iload_n hx hb dX2_playScript_71 rfl (lv_at hl 1 rfl) ?_
          refine lv_aload_n hx hb dX2_playScript_72 rfl (lv_at hl 0 rfl) ?_
          refine va_get (D := gD g) (ci := 2) (v := .ref (ad 43)) (C := RX2) (T := TX2) (N := 9) hx hb hts hi2 hown hK hP 0 rfl rfl 3 (by decide) k0 (fun _ h9 => h9) rfl dX2_playScript_73 ?_
          refine lv_iload_n hx hb dX2_playScript_76 rfl (lv_at hl 1 rfl) ?_
          have h8 := hv.1
          have hv := hv.2
          have hPc : va_P (gD g) vwCl (wZ g ad 43 (xScr σ)) H := hP.sub [43, 44] rfl
          refine ro_int (va_runV (As := [.int x2]) (rest := [.int x2]) ⟨hx, hb, hml, hown, hts⟩ (h_X1_statementLength g ad 43 (xScr σ) x2 h8) (cwV 1 hts gX2_playScript_X1_statementLength rfl rfl rfl (by decide +kernel) ⟨Nat.le_of_ble_eq_true rfl, Nat.le_of_ble_eq_true rfl⟩) ⟨RO_blind, va_recv hK hP (ci := 1) (q0 := 43) rfl rfl, fun U hU hW => ⟨rfl, by rw [hU]; exact hPc, va_K.moved hW.alike hK, hE.call hW hU hS (fun _ h => h.elim)⟩⟩ rfl rfl hl.1 rfl (lv_room (Nat.le_of_ble_eq_true rfl)) dX2_playScript_77 ⟨Nat.le_of_ble_eq_true rfl, Nat.le_of_ble_eq_true rfl⟩) hS hP (fun r H locs hw hP hS => ?_)
          subst r
          refine lv_iadd hx hb dX2_playScript_80 ?_
          refine lv_istore_n (lv' := [(2, .int (x2 + (stLenV (xScr σ) x2))), (0, .ref (ad 0)), (3, .int x3)]) hx hb dX2_playScript_81 rfl hl (by decide) rfl (fun ls hl => ?_)
          refine lv_iinc (v := (x3 + 1)) (lv' := [(3, .int (x3 + 1)), (2, .int (x2 + (stLenV (xScr σ) x2))), (0, .ref (ad 0))]) hx hb dX2_playScript_82 hl (k := 2) rfl (by first | rfl | exact congrArg _ (by decide)) (by decide) rfl (fun ls hl => ?_)
          refine lv_goto (tgt := 33) hx hb dX2_playScript_85 (by decide) ?_
          exact hv H locs ls hP hD hS (lv_sub hl [2, 1, 0] rfl)
        · have hv := hv.2 c62
          refine lv_sipush (v := (-2000)) hx hb dX2_playScript_65 (by decide) ?_
          refine lv_iload_n hx hb dX2_playScript_68 rfl (lv_at hl 1 rfl) ?_
          refine lv_isub hx hb dX2_playScript_69 ?_
          exact W.iret (v := ((-2000) - x2)) hx hb hr (fun t ht hW => ⟨⟨((-2000) - x2), (s_now, (xTaken σ), ((playC (xScr σ) s_trial x2).2), (xScr σ), (xRow σ), (xRefus σ), (xKept σ), (xRowLen σ), (xIsTaken σ)), rfl, hv, P_at ht hP⟩, hS.F ht⟩) hS.2.2 dX2_playScript_70)
  obtain ⟨H, hH⟩ : ∃ z, z = s.heap := ⟨_, rfl⟩
  obtain ⟨locs, hL⟩ : ∃ z : List Loc, z = [] := ⟨_, rfl⟩
  rw [← hL] at hS ⊢
  have hS : va_S (AD ad 0 45) s.heap H locs := by rw [hH]; exact hS
  rw [← hH] at hP ⊢
  clear hH hL
  refine lv_aload_n hx hb dX2_playScript_0 rfl (lv_at hl 0 rfl) ?_
  refine va_get (D := gD g) (ci := 2) (v := .ref (ad 43)) (C := RX2) (T := TX2) (N := 9) hx hb hts hi2 hown hK hP 0 rfl rfl 3 (by decide) k0 (fun _ h9 => h9) rfl dX2_playScript_1 ?_
  have h8 := hv.1
  have hv := hv.2
  have hPc : va_P (gD g) vwCl (wZ g ad 43 (xScr σ)) H := hP.sub [43, 44] rfl
  refine ro_int (va_runV (As := []) (rest := []) ⟨hx, hb, hml, hown, hts⟩ (h_X1_brokenPlace g ad 43 (xScr σ) h8) (cwV 0 hts gX2_playScript_X1_brokenPlace rfl rfl rfl (by decide +kernel) ⟨Nat.le_of_ble_eq_true rfl, Nat.le_of_ble_eq_true rfl⟩) ⟨RO_blind, va_recv hK hP (ci := 1) (q0 := 43) rfl rfl, fun U hU hW => ⟨rfl, by rw [hU]; exact hPc, va_K.moved hW.alike hK, hE.call hW hU hS (fun _ h => h.elim)⟩⟩ rfl rfl hl.1 rfl (lv_room (Nat.le_of_ble_eq_true rfl)) dX2_playScript_4 ⟨Nat.le_of_ble_eq_true rfl, Nat.le_of_ble_eq_true rfl⟩) hS hP (fun r H locs hw hP hS => ?_)
  subst r
  refine lv_istore_n (lv' := [(1, .int (brokenV (xScr σ))), (0, .ref (ad 0))]) hx hb dX2_playScript_7 rfl hl (by decide) rfl (fun ls hl => ?_)
  refine lv_iload_n hx hb dX2_playScript_8 rfl (lv_at hl 0 rfl) ?_
  refine lv_if_lt (tgt := 18) hx hb dX2_playScript_9 (by decide) (fun c9 => ?_) (fun c9 => ?_)
  · have hv := hv.1 c9
    refine lv_aload_n hx hb dX2_playScript_18 rfl (lv_at hl 1 rfl) ?_
    refine va_get (D := gD g) (ci := 2) (v := .ref (ad 30)) (C := RX2) (T := TX2) (N := 9) hx hb hts hi2 hown hK hP 0 rfl rfl 2 (by decide) k1 (fun _ h9 => h9) rfl dX2_playScript_19 ?_
    refine lv_aload_n hx hb dX2_playScript_22 rfl (lv_at hl 1 rfl) ?_
    refine va_get (D := gD g) (ci := 2) (v := .ref (ad 4)) (C := RX2) (T := TX2) (N := 9) hx hb hts hi2 hown hK hP 0 rfl rfl 0 (by decide) k2 (fun _ h9 => h9) rfl dX2_playScript_23 ?_
    have h8 := hv.1
    have hv := hv.2
    have hPc : va_P (gD g) vwCl (wT g ad ((xNow σ), (xTaken σ), (xTrial σ))) H := hP.sub [4, 5, 6, 7, 8, 9, 10, 11, 12, 13, 14, 15, 16, 17, 18, 19, 20, 21, 22, 23, 24, 25, 26, 27, 28, 29, 30, 31, 32, 33, 34, 35, 36, 37, 38, 39, 40, 41, 42] rfl
    have hDc : va_D (AD ad 4 39) (wT g ad ((xNow σ), (xTaken σ), (xTrial σ))) := ⟨(hD.sub [4, 5, 6, 7, 8, 9, 10, 11, 12, 13, 14, 15, 16, 17, 18, 19, 20, 21, 22, 23, 24, 25, 26, 27, 28, 29, 30, 31, 32, 33, 34, 35, 36, 37, 38, 39, 40, 41, 42] (by decide) rfl).1, AD_of rfl⟩
    have hAc : ∀ q, (AD ad 4 39) q → (AD ad 0 45) q := AD_sub (by decide) (by decide)
    refine rw_void (va_runV (As := [.ref (ad 4)]) (rest := []) ⟨hx, hb, hml, hown, hts⟩ (h_X0_becomes_30_4 g ad ((xNow σ), (xTaken σ), (xTrial σ)) h8) (cwV 1 hts gX2_playScript_X0_becomes rfl rfl rfl (by decide +kernel) ⟨Nat.le_of_ble_eq_true rfl, Nat.le_of_ble_eq_true rfl⟩) ⟨RW_blind, va_recv hK hP (ci := 0) (q0 := 30) rfl rfl, fun U hU hW => ⟨rfl, by rw [hU]; exact hPc, va_K.moved hW.alike hK, hE.call hW hU hS hAc, hDc⟩⟩ rfl rfl hl.1 rfl (lv_room (Nat.le_of_ble_eq_true rfl)) dX2_playScript_26 ⟨Nat.le_of_ble_eq_true rfl, Nat.le_of_ble_eq_true rfl⟩) hS hAc (fun u H1 locs hw hP1 hk hS => ?_)
    subst u
    have hP := mid_at hP hD 4 39 (b := wT g ad ((xNow σ), (xTaken σ), (xTrial σ))) rfl (AD_at rfl) hk hP1 (wT_len.trans wT_len.symm)
    generalize H1 = H at hP hS ⊢
    have hP : va_P (gD g) vwCl (wX g ad ((xNow σ), (xTaken σ), ((xNow σ)), (xScr σ), (xRow σ), (xRefus σ), (xKept σ), (xRowLen σ), (xIsTaken σ))) H := hP
    have hD : va_D (AD ad 0 45) (wX g ad ((xNow σ), (xTaken σ), ((xNow σ)), (xScr σ), (xRow σ), (xRefus σ), (xKept σ), (xRowLen σ), (xIsTaken σ))) := hD.addr wX_addr
    refine lv_iconst (v := 0) hx hb dX2_playScript_29 (by decide) ?_
    refine lv_istore_n (lv' := [(2, .int 0), (1, .int (brokenV (xScr σ))), (0, .ref (ad 0))]) hx hb dX2_playScript_30 rfl hl (by decide) rfl (fun ls hl => ?_)
    refine lv_iconst (v := 0) hx hb dX2_playScript_31 (by decide) ?_
    refine lv_istore_n (lv' := [(3, .int 0), (2, .int 0), (1, .int (brokenV (xScr σ))), (0, .ref (ad 0))]) hx hb dX2_playScript_32 rfl hl (by decide) rfl (fun ls hl => ?_)
    exact hv H locs ls hP hD hS (lv_sub hl [3, 1, 0] rfl)
  · have hv := hv.2 c9
    refine lv_sipush (v := (-1000)) hx hb dX2_playScript_12 (by decide) ?_
    refine lv_iload_n hx hb dX2_playScript_15 rfl (lv_at hl 0 rfl) ?_
    refine lv_isub hx hb dX2_playScript_16 ?_
    exact W.iret (v := ((-1000) - (brokenV (xScr σ)))) hx hb hr (fun t ht hW => ⟨⟨((-1000) - (brokenV (xScr σ))), σ, rfl, hv, P_at ht hP⟩, hS.F ht⟩) hS.2.2 dX2_playScript_17

set_option maxHeartbeats 4000000 in
set_option maxRecDepth 100000 in
theorem m_X2_court (l : Launch) (h_X2_playScript : C_X2_playScript l) (g : CX) (ad : Nat → Nat) (σ : KX)  (Post : Int32 → KX → Prop) (hv : vc_X2_court σ Post) : Met l yX2_court wsX2_court { frames := 7, cells := 0, slots := 0, locals := 176 } (va_Pc [.ref (ad 0)] (RW g (AD ad 0 45) (wX g ad σ))) (va_Qi (fun (r : Int32) (u : KX) => Post r u) (fun u t => va_P (gD g) vwCl (wX g ad u) t.heap) (AD ad 0 45)) 0 0 (AD ad 0 45) := by
  unfold vc_X2_court at hv
  refine Met.ofW (cc := cX2_court) (maxL := 2) (ret := (some .int)) (by decide) rfl ?_
  intro p e s m args below meth c s₁ B hml hv0
  obtain ⟨rfl, hP, hK, hE, hD⟩ := hv0
  have hx := B.exec
  have hb := B.bytes
  have hr := B.returns
  have hts := atoms_spec (ws := wsX2_court) B.pre
  have hown : s.vm.findClass RX2 = some m.cls := findClass_of_methodNamed B.named
  have hlocks := B.notSynchronized
  have hi1 : ∀ w ∈ wsX10, w ∈ wsX2_court := by decide +kernel
  have hi2 : ∀ w ∈ wsX20, w ∈ wsX2_court := by decide +kernel
  have k0 := hts (.fieldLink RX2 25 "JuryHearsAnswers" "script" "LJuryHearsAnswers$Script;") (by decide +kernel)
  have k1 := hts (.fieldLink RX2 44 "JuryHearsAnswers$Script" "length" "I") (by decide +kernel)
  have hS : va_S (AD ad 0 45) s.heap s.heap [] := va_S.rf
  have hP : va_P (gD g) vwCl (wX g ad σ) s.heap := hP
  have hl := lv_entry ([.ref (ad 0)]) (n := 2) (Nat.le_of_ble_eq_true rfl)
  rw [lg_entry_eq]
  generalize (lg_sl ([.ref (ad 0)]) ++ List.replicate (2 - (lg_sl ([.ref (ad 0)])).length) Slot.unset).toArray = ls at hl ⊢
  have hl : lv_has ls 2 [(0, .ref (ad 0))] := hl
  obtain ⟨H, hH⟩ : ∃ z, z = s.heap := ⟨_, rfl⟩
  obtain ⟨locs, hL⟩ : ∃ z : List Loc, z = [] := ⟨_, rfl⟩
  rw [← hL] at hS ⊢
  have hS : va_S (AD ad 0 45) s.heap H locs := by rw [hH]; exact hS
  rw [← hH] at hP ⊢
  clear hH hL
  refine lv_aload_n hx hb dX2_court_0 rfl (lv_at hl 0 rfl) ?_
  have h8 := hv.1
  have hv := hv.2
  have hPc := hP
  have hDc := hD
  refine rw_int (va_runV (As := []) (rest := []) ⟨hx, hb, hml, hown, hts⟩ (h_X2_playScript g ad σ h8) (cwV 0 hts gX2_court_X2_playScript rfl rfl rfl (by decide +kernel) ⟨Nat.le_of_ble_eq_true rfl, Nat.le_of_ble_eq_true rfl⟩) ⟨RW_blind, va_recv hK hP (ci := 2) (q0 := 0) rfl rfl, fun U hU hW => ⟨rfl, by rw [hU]; exact hPc, va_K.moved hW.alike hK, hE.call hW hU hS (fun _ h => h), hDc⟩⟩ rfl rfl hl.1 rfl (lv_room (Nat.le_of_ble_eq_true rfl)) dX2_court_1 ⟨Nat.le_of_ble_eq_true rfl, Nat.le_of_ble_eq_true rfl⟩) hS (fun _ h => h) (fun r u H1 locs hw hP1 hk hS => ?_)
  obtain ⟨e1_trial, hex, hw1, hw⟩ := hw; subst r; subst u
  have hv := hv e1_trial hex
  have hP := hP1
  generalize H1 = H at hP hS ⊢
  have hP : va_P (gD g) vwCl (wX g ad ((courtXN (xScr σ) (xNow σ)), (xTaken σ), (e1_trial), (xScr σ), (xRow σ), (xRefus σ), (xKept σ), (xRowLen σ), (xIsTaken σ))) H := hP
  have hD : va_D (AD ad 0 45) (wX g ad ((courtXN (xScr σ) (xNow σ)), (xTaken σ), (e1_trial), (xScr σ), (xRow σ), (xRefus σ), (xKept σ), (xRowLen σ), (xIsTaken σ))) := hD.addr wX_addr
  refine lv_istore_n (lv' := [(1, .int (courtXV (xScr σ) (xNow σ))), (0, .ref (ad 0))]) hx hb dX2_court_4 rfl hl (by decide) rfl (fun ls hl => ?_)
  refine lv_aload_n hx hb dX2_court_5 rfl (lv_at hl 1 rfl) ?_
  refine va_get (D := gD g) (ci := 2) (v := .ref (ad 43)) (C := RX2) (T := TX2) (N := 9) hx hb hts hi2 hown hK hP 0 rfl rfl 3 (by decide) k0 (fun _ h9 => h9) rfl dX2_court_6 ?_
  refine lv_iconst (v := 0) hx hb dX2_court_9 (by decide) ?_
  refine va_put (D := gD g) (ci := 1) (v := .int 0) (ty := .int) (C := RX1) (T := TX1) (N := 2) hx hb hts hi1 tyX1 tyX1_ok nmX1 hown hK hP hD hS 43 rfl rfl 0 (by decide) k1 (fun _ h9 => h9) rfl (by decide +kernel) rfl rfl (Nat.le_of_ble_eq_true rfl) dX2_court_10 (fun H locs hP hD hS => ?_)
  have hP : va_P (gD g) vwCl (wX g ad ((courtXN (xScr σ) (xNow σ)), (xTaken σ), (e1_trial), (0, (zText (xScr σ))), (xRow σ), (xRefus σ), (xKept σ), (xRowLen σ), (xIsTaken σ))) H := hP
  have hD : va_D (AD ad 0 45) (wX g ad ((courtXN (xScr σ) (xNow σ)), (xTaken σ), (e1_trial), (0, (zText (xScr σ))), (xRow σ), (xRefus σ), (xKept σ), (xRowLen σ), (xIsTaken σ))) := hD
  refine lv_iload_n hx hb dX2_court_13 rfl (lv_at hl 0 rfl) ?_
  exact W.iret (v := (courtXV (xScr σ) (xNow σ))) hx hb hr (fun t ht hW => ⟨⟨(courtXV (xScr σ) (xNow σ)), ((courtXN (xScr σ) (xNow σ)), (xTaken σ), (e1_trial), (0, (zText (xScr σ))), (xRow σ), (xRefus σ), (xKept σ), (xRowLen σ), (xIsTaken σ)), rfl, hv, P_at ht hP⟩, hS.F ht⟩) hS.2.2 dX2_court_14

