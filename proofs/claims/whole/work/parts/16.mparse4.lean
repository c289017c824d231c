set_option maxHeartbeats 4000000 in
set_option maxRecDepth 100000 in
theorem m_X3_comesQuestion (l : Launch) (h_X3_isFact : C_X3_isFact l) (g : CX) (ad : Nat → Nat) (σ : KM) (p0 : Int32) (Post : Int32 → KM → Prop) (hv : vc_X3_comesQuestion σ p0 Post) : Met l yX3_comesQuestion wsX3_comesQuestion { frames := 1, cells := 0, slots := 0, locals := 20 } (va_Pc [.ref (ad 0), .int p0] (RW g (AD ad 0 21) (wM g ad σ))) (va_Qi (fun (r : Int32) (u : KM) => Post r u) (fun u t => va_P (gD g) vwCl (wM g ad u) t.heap) (AD ad 0 21)) 0 0 (AD ad 0 21) := by
  unfold vc_X3_comesQuestion at hv
  refine Met.ofW (cc := cX3_comesQuestion) (maxL := 2) (ret := (some .boolean)) (by decide) rfl ?_
  intro p e s m args below meth c s₁ B hml hv0
  obtain ⟨rfl, hP, hK, hE, hD⟩ := hv0
  have hx := B.exec
  have hb := B.bytes
  have hr := B.returns
  have hts := atoms_spec (ws := wsX3_comesQuestion) B.pre
  have hown : s.vm.findClass RX3 = some m.cls := findClass_of_methodNamed B.named
  have hlocks := B.notSynchronized
  have hi3 : ∀ w ∈ wsX30, w ∈ wsX3_comesQuestion := by decide +kernel
  have k0 := hts (.fieldLink RX3 52 "JuryHearsAnswersModel" "told" "[I") (by decide +kernel)
  have k1 := hts (.fieldLink RX3 70 "JuryHearsAnswersModel" "questions" "I") (by decide +kernel)
  have k2 := hts (.fieldLink RX3 13 "JuryHearsAnswersModel" "form" "[I") (by decide +kernel)
  have k3 := hts (.fieldLink RX3 16 "JuryHearsAnswersModel" "first" "[I") (by decide +kernel)
  have k4 := hts (.fieldLink RX3 19 "JuryHearsAnswersModel" "second" "[I") (by decide +kernel)
  have hS : va_S (AD ad 0 21) s.heap s.heap [] := va_S.rf
  have hP : va_P (gD g) vwCl (wM g ad σ) s.heap := hP
  have hl := lv_entry ([.ref (ad 0), .int p0]) (n := 2) (Nat.le_of_ble_eq_true rfl)
  rw [lg_entry_eq]
  generalize (lg_sl ([.ref (ad 0), .int p0]) ++ List.replicate (2 - (lg_sl ([.ref (ad 0), .int p0])).length) Slot.unset).toArray = ls at hl ⊢
  have hl : lv_has ls 2 [(0, .ref (ad 0)), (1, .int p0)] := hl
  obtain ⟨H, hH⟩ : ∃ z, z = s.heap := ⟨_, rfl⟩
  obtain ⟨locs, hL⟩ : ∃ z : List Loc, z = [] := ⟨_, rfl⟩
  rw [← hL] at hS ⊢
  have hS : va_S (AD ad 0 21) s.heap H locs := by rw [hH]; exact hS
  rw [← hH] at hP ⊢
  clear hH hL
  refine lv_aload_n hx hb dX3_comesQuestion_0 rfl (lv_at hl 0 rfl) ?_
  refine va_get (D := gD g) (ci := 3) (v := .ref (ad 15)) (C := RX3) (T := TX3) (N := 33) hx hb hts hi3 hown hK hP 0 rfl rfl 19 (by decide) k0 (fun _ h9 => h9) rfl dX3_comesQuestion_1 ?_
  refine lv_iload_n hx hb dX3_comesQuestion_4 rfl (lv_at hl 1 rfl) ?_
  have h9 := hv.1
  have hv := hv.2
  refine va_iald (f := (tTold (mT σ))) (n := 144) hx hb hK hP 15 0 rfl rfl h9 dX3_comesQuestion_5 ?_
  refine lv_iconst (v := 4) hx hb dX3_comesQuestion_6 (by decide) ?_
  refine lv_icmp_gt (tgt := 47) hx hb dX3_comesQuestion_7 (by decide) (fun c7 => ?_) (fun c7 => ?_)
  · have hv := hv.1 c7
    refine lv_iconst (v := 0) hx hb dX3_comesQuestion_47 (by decide) ?_
    exact W.zret (v := 0) hx hb hr rfl (fun t ht hW => ⟨⟨0, σ, rfl, hv, P_at ht hP⟩, hS.F ht⟩) hS.2.2 dX3_comesQuestion_48
  · have hv := hv.2 c7
    refine lv_aload_n hx hb dX3_comesQuestion_10 rfl (lv_at hl 0 rfl) ?_
    refine va_get (D := gD g) (ci := 3) (v := .ref (ad 15)) (C := RX3) (T := TX3) (N := 33) hx hb hts hi3 hown hK hP 0 rfl rfl 19 (by decide) k0 (fun _ h9 => h9) rfl dX3_comesQuestion_11 ?_
    refine lv_iload_n hx hb dX3_comesQuestion_14 rfl (lv_at hl 1 rfl) ?_
    refine lv_iconst (v := 1) hx hb dX3_comesQuestion_15 (by decide) ?_
    refine lv_iadd hx hb dX3_comesQuestion_16 ?_
    have h9 := hv.1
    have hv := hv.2
    refine va_iald (f := (tTold (mT σ))) (n := 144) hx hb hK hP 15 0 rfl rfl h9 dX3_comesQuestion_17 ?_
    have hPc : va_P (gD g) vwCl [] H := fun k q h => by simp at h
    refine ro_int (va_runS (As := [.int ((tTold (mT σ)) ((p0 + 1)).toNatClampNeg)]) (rest := []) ⟨hx, hb, hml, hown, hts⟩ (h_X3_isFact g ((tTold (mT σ)) ((p0 + 1)).toNatClampNeg)) (va_cwS 1 hts gX3_comesQuestion_X3_isFact rfl rfl rfl (by decide +kernel) ⟨Nat.le_of_ble_eq_true rfl, Nat.le_of_ble_eq_true rfl⟩) ⟨RO_blind, fun U hU hW => ⟨rfl, by rw [hU]; exact hPc, va_K.moved hW.alike hK, hE.call hW hU hS (fun _ h => h.elim)⟩⟩ rfl rfl hl.1 rfl (lv_room (Nat.le_of_ble_eq_true rfl)) dX3_comesQuestion_18 ⟨Nat.le_of_ble_eq_true rfl, Nat.le_of_ble_eq_true rfl⟩) hS hP (fun r H locs hw hP hS => ?_)
    subst r
    refine lv_if_eq (tgt := 47) hx hb dX3_comesQuestion_21 (by decide) (fun c21 => ?_) (fun c21 => ?_)
    · have hv := hv.1 c21
      refine lv_iconst (v := 0) hx hb dX3_comesQuestion_47 (by decide) ?_
      exact W.zret (v := 0) hx hb hr rfl (fun t ht hW => ⟨⟨0, σ, rfl, hv, P_at ht hP⟩, hS.F ht⟩) hS.2.2 dX3_comesQuestion_48
    · have hv := hv.2 c21
      refine lv_aload_n hx hb dX3_comesQuestion_24 rfl (lv_at hl 0 rfl) ?_
      refine va_get (D := gD g) (ci := 3) (v := .ref (ad 15)) (C := RX3) (T := TX3) (N := 33) hx hb hts hi3 hown hK hP 0 rfl rfl 19 (by decide) k0 (fun _ h9 => h9) rfl dX3_comesQuestion_25 ?_
      refine lv_iload_n hx hb dX3_comesQuestion_28 rfl (lv_at hl 1 rfl) ?_
      refine lv_iconst (v := 2) hx hb dX3_comesQuestion_29 (by decide) ?_
      refine lv_iadd hx hb dX3_comesQuestion_30 ?_
      have h9 := hv.1
      have hv := hv.2
      refine va_iald (f := (tTold (mT σ))) (n := 144) hx hb hK hP 15 0 rfl rfl h9 dX3_comesQuestion_31 ?_
      have hPc : va_P (gD g) vwCl [] H := fun k q h => by simp at h
      refine ro_int (va_runS (As := [.int ((tTold (mT σ)) ((p0 + 2)).toNatClampNeg)]) (rest := []) ⟨hx, hb, hml, hown, hts⟩ (h_X3_isFact g ((tTold (mT σ)) ((p0 + 2)).toNatClampNeg)) (va_cwS 1 hts gX3_comesQuestion_X3_isFact rfl rfl rfl (by decide +kernel) ⟨Nat.le_of_ble_eq_true rfl, Nat.le_of_ble_eq_true rfl⟩) ⟨RO_blind, fun U hU hW => ⟨rfl, by rw [hU]; exact hPc, va_K.moved hW.alike hK, hE.call hW hU hS (fun _ h => h.elim)⟩⟩ rfl rfl hl.1 rfl (lv_room (Nat.le_of_ble_eq_true rfl)) dX3_comesQuestion_32 ⟨Nat.le_of_ble_eq_true rfl, Nat.le_of_ble_eq_true rfl⟩) hS hP (fun r H locs hw hP hS => ?_)
      subst r
      refine lv_if_eq (tgt := 47) hx hb dX3_comesQuestion_35 (by decide) (fun c35 => ?_) (fun c35 => ?_)
      · have hv := hv.1 c35
        refine lv_iconst (v := 0) hx hb dX3_comesQuestion_47 (by decide) ?_
        exact W.zret (v := 0) hx hb hr rfl (fun t ht hW => ⟨⟨0, σ, rfl, hv, P_at ht hP⟩, hS.F ht⟩) hS.2.2 dX3_comesQuestion_48
      · have hv := hv.2 c35
        refine lv_aload_n hx hb dX3_comesQuestion_38 rfl (lv_at hl 0 rfl) ?_
        refine va_get (D := gD g) (ci := 3) (v := .int (sNq (mS σ))) (C := RX3) (T := TX3) (N := 33) hx hb hts hi3 hown hK hP 0 rfl rfl 12 (by decide) k1 (fun _ h9 => h9) rfl dX3_comesQuestion_39 ?_
        refine lv_bipush (v := 8) hx hb dX3_comesQuestion_42 (by decide) ?_
        refine lv_icmp_ne (tgt := 49) hx hb dX3_comesQuestion_44 (by decide) (fun c44 => ?_) (fun c44 => ?_)
        · have hv := hv.1 c44
          refine lv_aload_n hx hb dX3_comesQuestion_49 rfl (lv_at hl 0 rfl) ?_
          refine va_get (D := gD g) (ci := 3) (v := .ref (ad 2)) (C := RX3) (T := TX3) (N := 33) hx hb hts hi3 hown hK hP 0 rfl rfl 1 (by decide) k2 (fun _ h9 => h9) rfl dX3_comesQuestion_50 ?_
          refine lv_aload_n hx hb dX3_comesQuestion_53 rfl (lv_at hl 0 rfl) ?_
          refine va_get (D := gD g) (ci := 3) (v := .int (sNq (mS σ))) (C := RX3) (T := TX3) (N := 33) hx hb hts hi3 hown hK hP 0 rfl rfl 12 (by decide) k1 (fun _ h9 => h9) rfl dX3_comesQuestion_54 ?_
          refine lv_aload_n hx hb dX3_comesQuestion_57 rfl (lv_at hl 0 rfl) ?_
          refine va_get (D := gD g) (ci := 3) (v := .ref (ad 15)) (C := RX3) (T := TX3) (N := 33) hx hb hts hi3 hown hK hP 0 rfl rfl 19 (by decide) k0 (fun _ h9 => h9) rfl dX3_comesQuestion_58 ?_
          refine lv_iload_n hx hb dX3_comesQuestion_61 rfl (lv_at hl 1 rfl) ?_
          have h9 := hv.1
          have hv := hv.2
          refine va_iald (f := (tTold (mT σ))) (n := 144) hx hb hK hP 15 0 rfl rfl h9 dX3_comesQuestion_62 ?_
          have h9 := hv.1
          have hv := hv.2
          refine va_iast (f := (sForm (mS σ))) (n := 8) hx hb hK hP hD hS 2 0 rfl rfl h9 dX3_comesQuestion_63 (fun H locs hP hD hS => ?_)
          have hP : va_P (gD g) vwCl (wM g ad (((sCase (mS σ)), (sAsked (mS σ)), (sNq (mS σ)), (sNw (mS σ)), (sNh (mS σ)), (upd (sForm (mS σ)) ((sNq (mS σ))).toNatClampNeg ((tTold (mT σ)) (p0).toNatClampNeg)), (sFirst (mS σ)), (sSecond (mS σ)), (sKind (mS σ)), (sFigure (mS σ)), (sKnows (mS σ)), (sWhom (mS σ)), (sWhat (mS σ)), (sSaid (mS σ)), (sWhen (mS σ))), (mT σ), (mK σ), (mF σ), (mRow σ), (mRowMany σ), (mLots σ), (mRefused σ))) H := hP
          have hD : va_D (AD ad 0 21) (wM g ad (((sCase (mS σ)), (sAsked (mS σ)), (sNq (mS σ)), (sNw (mS σ)), (sNh (mS σ)), (upd (sForm (mS σ)) ((sNq (mS σ))).toNatClampNeg ((tTold (mT σ)) (p0).toNatClampNeg)), (sFirst (mS σ)), (sSecond (mS σ)), (sKind (mS σ)), (sFigure (mS σ)), (sKnows (mS σ)), (sWhom (mS σ)), (sWhat (mS σ)), (sSaid (mS σ)), (sWhen (mS σ))), (mT σ), (mK σ), (mF σ), (mRow σ), (mRowMany σ), (mLots σ), (mRefused σ))) := hD
          refine lv_aload_n hx hb dX3_comesQuestion_64 rfl (lv_at hl 0 rfl) ?_
          refine va_get (D := gD g) (ci := 3) (v := .ref (ad 3)) (C := RX3) (T := TX3) (N := 33) hx hb hts hi3 hown hK hP 0 rfl rfl 2 (by decide) k3 (fun _ h9 => h9) rfl dX3_comesQuestion_65 ?_
          refine lv_aload_n hx hb dX3_comesQuestion_68 rfl (lv_at hl 0 rfl) ?_
          refine va_get (D := gD g) (ci := 3) (v := .int (sNq (mS σ))) (C := RX3) (T := TX3) (N := 33) hx hb hts hi3 hown hK hP 0 rfl rfl 12 (by decide) k1 (fun _ h9 => h9) rfl dX3_comesQuestion_69 ?_
          refine lv_aload_n hx hb dX3_comesQuestion_72 rfl (lv_at hl 0 rfl) ?_
          refine va_get (D := gD g) (ci := 3) (v := .ref (ad 15)) (C := RX3) (T := TX3) (N := 33) hx hb hts hi3 hown hK hP 0 rfl rfl 19 (by decide) k0 (fun _ h9 => h9) rfl dX3_comesQuestion_73 ?_
          refine lv_iload_n hx hb dX3_comesQuestion_76 rfl (lv_at hl 1 rfl) ?_
          refine lv_iconst (v := 1) hx hb dX3_comesQuestion_77 (by decide) ?_
          refine lv_iadd hx hb dX3_comesQuestion_78 ?_
          have h9 := hv.1
          have hv := hv.2
          refine va_iald (f := (tTold (mT σ))) (n := 144) hx hb hK hP 15 0 rfl rfl h9 dX3_comesQuestion_79 ?_
          have h9 := hv.1
          have hv := hv.2
          refine va_iast (f := (sFirst (mS σ))) (n := 8) hx hb hK hP hD hS 3 0 rfl rfl h9 dX3_comesQuestion_80 (fun H locs hP hD hS => ?_)
          have hP : va_P (gD g) vwCl (wM g ad (((sCase (mS σ)), (sAsked (mS σ)), (sNq (mS σ)), (sNw (mS σ)), (sNh (mS σ)), (upd (sForm (mS σ)) ((sNq (mS σ))).toNatClampNeg ((tTold (mT σ)) (p0).toNatClampNeg)), (upd (sFirst (mS σ)) ((sNq (mS σ))).toNatClampNeg ((tTold (mT σ)) ((p0 + 1)).toNatClampNeg)), (sSecond (mS σ)), (sKind (mS σ)), (sFigure (mS σ)), (sKnows (mS σ)), (sWhom (mS σ)), (sWhat (mS σ)), (sSaid (mS σ)), (sWhen (mS σ))), (mT σ), (mK σ), (mF σ), (mRow σ), (mRowMany σ), (mLots σ), (mRefused σ))) H := hP
          have hD : va_D (AD ad 0 21) (wM g ad (((sCase (mS σ)), (sAsked (mS σ)), (sNq (mS σ)), (sNw (mS σ)), (sNh (mS σ)), (upd (sForm (mS σ)) ((sNq (mS σ))).toNatClampNeg ((tTold (mT σ)) (p0).toNatClampNeg)), (upd (sFirst (mS σ)) ((sNq (mS σ))).toNatClampNeg ((tTold (mT σ)) ((p0 + 1)).toNatClampNeg)), (sSecond (mS σ)), (sKind (mS σ)), (sFigure (mS σ)), (sKnows (mS σ)), (sWhom (mS σ)), (sWhat (mS σ)), (sSaid (mS σ)), (sWhen (mS σ))), (mT σ), (mK σ), (mF σ), (mRow σ), (mRowMany σ), (mLots σ), (mRefused σ))) := hD
          refine lv_aload_n hx hb dX3_comesQuestion_81 rfl (lv_at hl 0 rfl) ?_
          refine va_get (D := gD g) (ci := 3) (v := .ref (ad 4)) (C := RX3) (T := TX3) (N := 33) hx hb hts hi3 hown hK hP 0 rfl rfl 3 (by decide) k4 (fun _ h9 => h9) rfl dX3_comesQuestion_82 ?_
          refine lv_aload_n hx hb dX3_comesQuestion_85 rfl (lv_at hl 0 rfl) ?_
          refine va_get (D := gD g) (ci := 3) (v := .int (sNq (mS σ))) (C := RX3) (T := TX3) (N := 33) hx hb hts hi3 hown hK hP 0 rfl rfl 12 (by decide) k1 (fun _ h9 => h9) rfl dX3_comesQuestion_86 ?_
          refine lv_aload_n hx hb dX3_comesQuestion_89 rfl (lv_at hl 0 rfl) ?_
          refine va_get (D := gD g) (ci := 3) (v := .ref (ad 15)) (C := RX3) (T := TX3) (N := 33) hx hb hts hi3 hown hK hP 0 rfl rfl 19 (by decide) k0 (fun _ h9 => h9) rfl dX3_comesQuestion_90 ?_
          refine lv_iload_n hx hb dX3_comesQuestion_93 rfl (lv_at hl 1 rfl) ?_
          refine lv_iconst (v := 2) hx hb dX3_comesQuestion_94 (by decide) ?_
          refine lv_iadd hx hb dX3_comesQuestion_95 ?_
          have h9 := hv.1
          have hv := hv.2
          refine va_iald (f := (tTold (mT σ))) (n := 144) hx hb hK hP 15 0 rfl rfl h9 dX3_comesQuestion_96 ?_
          have h9 := hv.1
          have hv := hv.2
          refine va_iast (f := (sSecond (mS σ))) (n := 8) hx hb hK hP hD hS 4 0 rfl rfl h9 dX3_comesQuestion_97 (fun H locs hP hD hS => ?_)
          have hP : va_P (gD g) vwCl (wM g ad (((sCase (mS σ)), (sAsked (mS σ)), (sNq (mS σ)), (sNw (mS σ)), (sNh (mS σ)), (upd (sForm (mS σ)) ((sNq (mS σ))).toNatClampNeg ((tTold (mT σ)) (p0).toNatClampNeg)), (upd (sFirst (mS σ)) ((sNq (mS σ))).toNatClampNeg ((tTold (mT σ)) ((p0 + 1)).toNatClampNeg)), (upd (sSecond (mS σ)) ((sNq (mS σ))).toNatClampNeg ((tTold (mT σ)) ((p0 + 2)).toNatClampNeg)), (sKind (mS σ)), (sFigure (mS σ)), (sKnows (mS σ)), (sWhom (mS σ)), (sWhat (mS σ)), (sSaid (mS σ)), (sWhen (mS σ))), (mT σ), (mK σ), (mF σ), (mRow σ), (mRowMany σ), (mLots σ), (mRefused σ))) H := hP
          have hD : va_D (AD ad 0 21) (wM g ad (((sCase (mS σ)), (sAsked (mS σ)), (sNq (mS σ)), (sNw (mS σ)), (sNh (mS σ)), (upd (sForm (mS σ)) ((sNq (mS σ))).toNatClampNeg ((tTold (mT σ)) (p0).toNatClampNeg)), (upd (sFirst (mS σ)) ((sNq (mS σ))).toNatClampNeg ((tTold (mT σ)) ((p0 + 1)).toNatClampNeg)), (upd (sSecond (mS σ)) ((sNq (mS σ))).toNatClampNeg ((tTold (mT σ)) ((p0 + 2)).toNatClampNeg)), (sKind (mS σ)), (sFigure (mS σ)), (sKnows (mS σ)), (sWhom (mS σ)), (sWhat (mS σ)), (sSaid (mS σ)), (sWhen (mS σ))), (mT σ), (mK σ), (mF σ), (mRow σ), (mRowMany σ), (mLots σ), (mRefused σ))) := hD
          refine lv_aload_n hx hb dX3_comesQuestion_98 rfl (lv_at hl 0 rfl) ?_
          refine lv_dup hx hb dX3_comesQuestion_99 rfl ?_
          refine va_get (D := gD g) (ci := 3) (v := .int (sNq (mS σ))) (C := RX3) (T := TX3) (N := 33) hx hb hts hi3 hown hK hP 0 rfl rfl 12 (by decide) k1 (fun _ h9 => h9) rfl dX3_comesQuestion_100 ?_
          refine lv_iconst (v := 1) hx hb dX3_comesQuestion_103 (by decide) ?_
          refine lv_iadd hx hb dX3_comesQuestion_104 ?_
          refine va_put (D := gD g) (ci := 3) (v := .int ((sNq (mS σ)) + 1)) (ty := .int) (C := RX3) (T := TX3) (N := 33) hx hb hts hi3 tyX3 tyX3_ok nmX3 hown hK hP hD hS 0 rfl rfl 12 (by decide) k1 (fun _ h9 => h9) rfl (by decide +kernel) rfl rfl (Nat.le_of_ble_eq_true rfl) dX3_comesQuestion_105 (fun H locs hP hD hS => ?_)
          have hP : va_P (gD g) vwCl (wM g ad (((sCase (mS σ)), (sAsked (mS σ)), ((sNq (mS σ)) + 1), (sNw (mS σ)), (sNh (mS σ)), (upd (sForm (mS σ)) ((sNq (mS σ))).toNatClampNeg ((tTold (mT σ)) (p0).toNatClampNeg)), (upd (sFirst (mS σ)) ((sNq (mS σ))).toNatClampNeg ((tTold (mT σ)) ((p0 + 1)).toNatClampNeg)), (upd (sSecond (mS σ)) ((sNq (mS σ))).toNatClampNeg ((tTold (mT σ)) ((p0 + 2)).toNatClampNeg)), (sKind (mS σ)), (sFigure (mS σ)), (sKnows (mS σ)), (sWhom (mS σ)), (sWhat (mS σ)), (sSaid (mS σ)), (sWhen (mS σ))), (mT σ), (mK σ), (mF σ), (mRow σ), (mRowMany σ), (mLots σ), (mRefused σ))) H := hP
          have hD : va_D (AD ad 0 21) (wM g ad (((sCase (mS σ)), (sAsked (mS σ)), ((sNq (mS σ)) + 1), (sNw (mS σ)), (sNh (mS σ)), (upd (sForm (mS σ)) ((sNq (mS σ))).toNatClampNeg ((tTold (mT σ)) (p0).toNatClampNeg)), (upd (sFirst (mS σ)) ((sNq (mS σ))).toNatClampNeg ((tTold (mT σ)) ((p0 + 1)).toNatClampNeg)), (upd (sSecond (mS σ)) ((sNq (mS σ))).toNatClampNeg ((tTold (mT σ)) ((p0 + 2)).toNatClampNeg)), (sKind (mS σ)), (sFigure (mS σ)), (sKnows (mS σ)), (sWhom (mS σ)), (sWhat (mS σ)), (sSaid (mS σ)), (sWhen (mS σ))), (mT σ), (mK σ), (mF σ), (mRow σ), (mRowMany σ), (mLots σ), (mRefused σ))) := hD
          refine lv_iconst (v := 1) hx hb dX3_comesQuestion_108 (by decide) ?_
          exact W.zret (v := 1) hx hb hr rfl (fun t ht hW => ⟨⟨1, (((sCase (mS σ)), (sAsked (mS σ)), ((sNq (mS σ)) + 1), (sNw (mS σ)), (sNh (mS σ)), (upd (sForm (mS σ)) ((sNq (mS σ))).toNatClampNeg ((tTold (mT σ)) (p0).toNatClampNeg)), (upd (sFirst (mS σ)) ((sNq (mS σ))).toNatClampNeg ((tTold (mT σ)) ((p0 + 1)).toNatClampNeg)), (upd (sSecond (mS σ)) ((sNq (mS σ))).toNatClampNeg ((tTold (mT σ)) ((p0 + 2)).toNatClampNeg)), (sKind (mS σ)), (sFigure (mS σ)), (sKnows (mS σ)), (sWhom (mS σ)), (sWhat (mS σ)), (sSaid (mS σ)), (sWhen (mS σ))), (mT σ), (mK σ), (mF σ), (mRow σ), (mRowMany σ), (mLots σ), (mRefused σ)), rfl, hv, P_at ht hP⟩, hS.F ht⟩) hS.2.2 dX3_comesQuestion_109
        · have hv := hv.2 c44
          refine lv_iconst (v := 0) hx hb dX3_comesQuestion_47 (by decide) ?_
          exact W.zret (v := 0) hx hb hr rfl (fun t ht hW => ⟨⟨0, σ, rfl, hv, P_at ht hP⟩, hS.F ht⟩) hS.2.2 dX3_comesQuestion_48

set_option maxHeartbeats 4000000 in
set_option maxRecDepth 100000 in
theorem m_X3_comesWitness (l : Launch)  (g : CX) (ad : Nat → Nat) (σ : KM) (p0 : Int32) (Post : Int32 → KM → Prop) (hv : vc_X3_comesWitness σ p0 Post) : Met l yX3_comesWitness wsX3_comesWitness { frames := 0, cells := 0, slots := 0, locals := 0 } (va_Pc [.ref (ad 0), .int p0] (RW g (AD ad 0 21) (wM g ad σ))) (va_Qi (fun (r : Int32) (u : KM) => Post r u) (fun u t => va_P (gD g) vwCl (wM g ad u) t.heap) (AD ad 0 21)) 0 0 (AD ad 0 21) := by
  unfold vc_X3_comesWitness at hv
  refine Met.ofW (cc := cX3_comesWitness) (maxL := 2) (ret := (some .boolean)) (by decide) rfl ?_
  intro p e s m args below meth c s₁ B hml hv0
  obtain ⟨rfl, hP, hK, hE, hD⟩ := hv0
  have hx := B.exec
  have hb := B.bytes
  have hr := B.returns
  have hts := atoms_spec (ws := wsX3_comesWitness) B.pre
  have hown : s.vm.findClass RX3 = some m.cls := findClass_of_methodNamed B.named
  have hlocks := B.notSynchronized
  have hi3 : ∀ w ∈ wsX30, w ∈ wsX3_comesWitness := by decide +kernel
  have k0 := hts (.fieldLink RX3 52 "JuryHearsAnswersModel" "told" "[I") (by decide +kernel)
  have k1 := hts (.fieldLink RX3 76 "JuryHearsAnswersModel" "witnesses" "I") (by decide +kernel)
  have k2 := hts (.fieldLink RX3 22 "JuryHearsAnswersModel" "kind" "[I") (by decide +kernel)
  have k3 := hts (.fieldLink RX3 25 "JuryHearsAnswersModel" "figure" "[I") (by decide +kernel)
  have k4 := hts (.fieldLink RX3 28 "JuryHearsAnswersModel" "knows" "[I") (by decide +kernel)
  have hS : va_S (AD ad 0 21) s.heap s.heap [] := va_S.rf
  have hP : va_P (gD g) vwCl (wM g ad σ) s.heap := hP
  have hl := lv_entry ([.ref (ad 0), .int p0]) (n := 2) (Nat.le_of_ble_eq_true rfl)
  rw [lg_entry_eq]
  generalize (lg_sl ([.ref (ad 0), .int p0]) ++ List.replicate (2 - (lg_sl ([.ref (ad 0), .int p0])).length) Slot.unset).toArray = ls at hl ⊢
  have hl : lv_has ls 2 [(0, .ref (ad 0)), (1, .int p0)] := hl
  obtain ⟨H, hH⟩ : ∃ z, z = s.heap := ⟨_, rfl⟩
  obtain ⟨locs, hL⟩ : ∃ z : List Loc, z = [] := ⟨_, rfl⟩
  rw [← hL] at hS ⊢
  have hS : va_S (AD ad 0 21) s.heap H locs := by rw [hH]; exact hS
  rw [← hH] at hP ⊢
  clear hH hL
  refine lv_aload_n hx hb dX3_comesWitness_0 rfl (lv_at hl 0 rfl) ?_
  refine va_get (D := gD g) (ci := 3) (v := .ref (ad 15)) (C := RX3) (T := TX3) (N := 33) hx hb hts hi3 hown hK hP 0 rfl rfl 19 (by decide) k0 (fun _ h9 => h9) rfl dX3_comesWitness_1 ?_
  refine lv_iload_n hx hb dX3_comesWitness_4 rfl (lv_at hl 1 rfl) ?_
  refine lv_iconst (v := 2) hx hb dX3_comesWitness_5 (by decide) ?_
  refine lv_iadd hx hb dX3_comesWitness_6 ?_
  have h9 := hv.1
  have hv := hv.2
  refine va_iald (f := (tTold (mT σ))) (n := 144) hx hb hK hP 15 0 rfl rfl h9 dX3_comesWitness_7 ?_
  refine lv_bipush (v := 64) hx hb dX3_comesWitness_8 (by decide) ?_
  refine lv_icmp_ge (tgt := 21) hx hb dX3_comesWitness_10 (by decide) (fun c10 => ?_) (fun c10 => ?_)
  · have hv := hv.1 c10
    refine lv_iconst (v := 0) hx hb dX3_comesWitness_21 (by decide) ?_
    exact W.zret (v := 0) hx hb hr rfl (fun t ht hW => ⟨⟨0, σ, rfl, hv, P_at ht hP⟩, hS.F ht⟩) hS.2.2 dX3_comesWitness_22
  · have hv := hv.2 c10
    refine lv_aload_n hx hb dX3_comesWitness_13 rfl (lv_at hl 0 rfl) ?_
    refine va_get (D := gD g) (ci := 3) (v := .int (sNw (mS σ))) (C := RX3) (T := TX3) (N := 33) hx hb hts hi3 hown hK hP 0 rfl rfl 13 (by decide) k1 (fun _ h9 => h9) rfl dX3_comesWitness_14 ?_
    refine lv_iconst (v := 5) hx hb dX3_comesWitness_17 (by decide) ?_
    refine lv_icmp_ne (tgt := 23) hx hb dX3_comesWitness_18 (by decide) (fun c18 => ?_) (fun c18 => ?_)
    · have hv := hv.1 c18
      refine lv_aload_n hx hb dX3_comesWitness_23 rfl (lv_at hl 0 rfl) ?_
      refine va_get (D := gD g) (ci := 3) (v := .ref (ad 5)) (C := RX3) (T := TX3) (N := 33) hx hb hts hi3 hown hK hP 0 rfl rfl 4 (by decide) k2 (fun _ h9 => h9) rfl dX3_comesWitness_24 ?_
      refine lv_aload_n hx hb dX3_comesWitness_27 rfl (lv_at hl 0 rfl) ?_
      refine va_get (D := gD g) (ci := 3) (v := .int (sNw (mS σ))) (C := RX3) (T := TX3) (N := 33) hx hb hts hi3 hown hK hP 0 rfl rfl 13 (by decide) k1 (fun _ h9 => h9) rfl dX3_comesWitness_28 ?_
      refine lv_aload_n hx hb dX3_comesWitness_31 rfl (lv_at hl 0 rfl) ?_
      refine va_get (D := gD g) (ci := 3) (v := .ref (ad 15)) (C := RX3) (T := TX3) (N := 33) hx hb hts hi3 hown hK hP 0 rfl rfl 19 (by decide) k0 (fun _ h9 => h9) rfl dX3_comesWitness_32 ?_
      refine lv_iload_n hx hb dX3_comesWitness_35 rfl (lv_at hl 1 rfl) ?_
      have h9 := hv.1
      have hv := hv.2
      refine va_iald (f := (tTold (mT σ))) (n := 144) hx hb hK hP 15 0 rfl rfl h9 dX3_comesWitness_36 ?_
      have h9 := hv.1
      have hv := hv.2
      refine va_iast (f := (sKind (mS σ))) (n := 5) hx hb hK hP hD hS 5 0 rfl rfl h9 dX3_comesWitness_37 (fun H locs hP hD hS => ?_)
      have hP : va_P (gD g) vwCl (wM g ad (((sCase (mS σ)), (sAsked (mS σ)), (sNq (mS σ)), (sNw (mS σ)), (sNh (mS σ)), (sForm (mS σ)), (sFirst (mS σ)), (sSecond (mS σ)), (upd (sKind (mS σ)) ((sNw (mS σ))).toNatClampNeg ((tTold (mT σ)) (p0).toNatClampNeg)), (sFigure (mS σ)), (sKnows (mS σ)), (sWhom (mS σ)), (sWhat (mS σ)), (sSaid (mS σ)), (sWhen (mS σ))), (mT σ), (mK σ), (mF σ), (mRow σ), (mRowMany σ), (mLots σ), (mRefused σ))) H := hP
      have hD : va_D (AD ad 0 21) (wM g ad (((sCase (mS σ)), (sAsked (mS σ)), (sNq (mS σ)), (sNw (mS σ)), (sNh (mS σ)), (sForm (mS σ)), (sFirst (mS σ)), (sSecond (mS σ)), (upd (sKind (mS σ)) ((sNw (mS σ))).toNatClampNeg ((tTold (mT σ)) (p0).toNatClampNeg)), (sFigure (mS σ)), (sKnows (mS σ)), (sWhom (mS σ)), (sWhat (mS σ)), (sSaid (mS σ)), (sWhen (mS σ))), (mT σ), (mK σ), (mF σ), (mRow σ), (mRowMany σ), (mLots σ), (mRefused σ))) := hD
      refine lv_aload_n hx hb dX3_comesWitness_38 rfl (lv_at hl 0 rfl) ?_
      refine va_get (D := gD g) (ci := 3) (v := .ref (ad 6)) (C := RX3) (T := TX3) (N := 33) hx hb hts hi3 hown hK hP 0 rfl rfl 5 (by decide) k3 (fun _ h9 => h9) rfl dX3_comesWitness_39 ?_
      refine lv_aload_n hx hb dX3_comesWitness_42 rfl (lv_at hl 0 rfl) ?_
      refine va_get (D := gD g) (ci := 3) (v := .int (sNw (mS σ))) (C := RX3) (T := TX3) (N := 33) hx hb hts hi3 hown hK hP 0 rfl rfl 13 (by decide) k1 (fun _ h9 => h9) rfl dX3_comesWitness_43 ?_
      refine lv_aload_n hx hb dX3_comesWitness_46 rfl (lv_at hl 0 rfl) ?_
      refine va_get (D := gD g) (ci := 3) (v := .ref (ad 15)) (C := RX3) (T := TX3) (N := 33) hx hb hts hi3 hown hK hP 0 rfl rfl 19 (by decide) k0 (fun _ h9 => h9) rfl dX3_comesWitness_47 ?_
      refine lv_iload_n hx hb dX3_comesWitness_50 rfl (lv_at hl 1 rfl) ?_
      refine lv_iconst (v := 1) hx hb dX3_comesWitness_51 (by decide) ?_
      refine lv_iadd hx hb dX3_comesWitness_52 ?_
      have h9 := hv.1
      have hv := hv.2
      refine va_iald (f := (tTold (mT σ))) (n := 144) hx hb hK hP 15 0 rfl rfl h9 dX3_comesWitness_53 ?_
      have h9 := hv.1
      have hv := hv.2
      refine va_iast (f := (sFigure (mS σ))) (n := 5) hx hb hK hP hD hS 6 0 rfl rfl h9 dX3_comesWitness_54 (fun H locs hP hD hS => ?_)
      have hP : va_P (gD g) vwCl (wM g ad (((sCase (mS σ)), (sAsked (mS σ)), (sNq (mS σ)), (sNw (mS σ)), (sNh (mS σ)), (sForm (mS σ)), (sFirst (mS σ)), (sSecond (mS σ)), (upd (sKind (mS σ)) ((sNw (mS σ))).toNatClampNeg ((tTold (mT σ)) (p0).toNatClampNeg)), (upd (sFigure (mS σ)) ((sNw (mS σ))).toNatClampNeg ((tTold (mT σ)) ((p0 + 1)).toNatClampNeg)), (sKnows (mS σ)), (sWhom (mS σ)), (sWhat (mS σ)), (sSaid (mS σ)), (sWhen (mS σ))), (mT σ), (mK σ), (mF σ), (mRow σ), (mRowMany σ), (mLots σ), (mRefused σ))) H := hP
      have hD : va_D (AD ad 0 21) (wM g ad (((sCase (mS σ)), (sAsked (mS σ)), (sNq (mS σ)), (sNw (mS σ)), (sNh (mS σ)), (sForm (mS σ)), (sFirst (mS σ)), (sSecond (mS σ)), (upd (sKind (mS σ)) ((sNw (mS σ))).toNatClampNeg ((tTold (mT σ)) (p0).toNatClampNeg)), (upd (sFigure (mS σ)) ((sNw (mS σ))).toNatClampNeg ((tTold (mT σ)) ((p0 + 1)).toNatClampNeg)), (sKnows (mS σ)), (sWhom (mS σ)), (sWhat (mS σ)), (sSaid (mS σ)), (sWhen (mS σ))), (mT σ), (mK σ), (mF σ), (mRow σ), (mRowMany σ), (mLots σ), (mRefused σ))) := hD
      refine lv_aload_n hx hb dX3_comesWitness_55 rfl (lv_at hl 0 rfl) ?_
      refine va_get (D := gD g) (ci := 3) (v := .ref (ad 7)) (C := RX3) (T := TX3) (N := 33) hx hb hts hi3 hown hK hP 0 rfl rfl 6 (by decide) k4 (fun _ h9 => h9) rfl dX3_comesWitness_56 ?_
      refine lv_aload_n hx hb dX3_comesWitness_59 rfl (lv_at hl 0 rfl) ?_
      refine va_get (D := gD g) (ci := 3) (v := .int (sNw (mS σ))) (C := RX3) (T := TX3) (N := 33) hx hb hts hi3 hown hK hP 0 rfl rfl 13 (by decide) k1 (fun _ h9 => h9) rfl dX3_comesWitness_60 ?_
      refine lv_aload_n hx hb dX3_comesWitness_63 rfl (lv_at hl 0 rfl) ?_
      refine va_get (D := gD g) (ci := 3) (v := .ref (ad 15)) (C := RX3) (T := TX3) (N := 33) hx hb hts hi3 hown hK hP 0 rfl rfl 19 (by decide) k0 (fun _ h9 => h9) rfl dX3_comesWitness_64 ?_
      refine lv_iload_n hx hb dX3_comesWitness_67 rfl (lv_at hl 1 rfl) ?_
      refine lv_iconst (v := 2) hx hb dX3_comesWitness_68 (by decide) ?_
      refine lv_iadd hx hb dX3_comesWitness_69 ?_
      have h9 := hv.1
      have hv := hv.2
      refine va_iald (f := (tTold (mT σ))) (n := 144) hx hb hK hP 15 0 rfl rfl h9 dX3_comesWitness_70 ?_
      have h9 := hv.1
      have hv := hv.2
      refine va_iast (f := (sKnows (mS σ))) (n := 5) hx hb hK hP hD hS 7 0 rfl rfl h9 dX3_comesWitness_71 (fun H locs hP hD hS => ?_)
      have hP : va_P (gD g) vwCl (wM g ad (((sCase (mS σ)), (sAsked (mS σ)), (sNq (mS σ)), (sNw (mS σ)), (sNh (mS σ)), (sForm (mS σ)), (sFirst (mS σ)), (sSecond (mS σ)), (upd (sKind (mS σ)) ((sNw (mS σ))).toNatClampNeg ((tTold (mT σ)) (p0).toNatClampNeg)), (upd (sFigure (mS σ)) ((sNw (mS σ))).toNatClampNeg ((tTold (mT σ)) ((p0 + 1)).toNatClampNeg)), (upd (sKnows (mS σ)) ((sNw (mS σ))).toNatClampNeg ((tTold (mT σ)) ((p0 + 2)).toNatClampNeg)), (sWhom (mS σ)), (sWhat (mS σ)), (sSaid (mS σ)), (sWhen (mS σ))), (mT σ), (mK σ), (mF σ), (mRow σ), (mRowMany σ), (mLots σ), (mRefused σ))) H := hP
      have hD : va_D (AD ad 0 21) (wM g ad (((sCase (mS σ)), (sAsked (mS σ)), (sNq (mS σ)), (sNw (mS σ)), (sNh (mS σ)), (sForm (mS σ)), (sFirst (mS σ)), (sSecond (mS σ)), (upd (sKind (mS σ)) ((sNw (mS σ))).toNatClampNeg ((tTold (mT σ)) (p0).toNatClampNeg)), (upd (sFigure (mS σ)) ((sNw (mS σ))).toNatClampNeg ((tTold (mT σ)) ((p0 + 1)).toNatClampNeg)), (upd (sKnows (mS σ)) ((sNw (mS σ))).toNatClampNeg ((tTold (mT σ)) ((p0 + 2)).toNatClampNeg)), (sWhom (mS σ)), (sWhat (mS σ)), (sSaid (mS σ)), (sWhen (mS σ))), (mT σ), (mK σ), (mF σ), (mRow σ), (mRowMany σ), (mLots σ), (mRefused σ))) := hD
      refine lv_aload_n hx hb dX3_comesWitness_72 rfl (lv_at hl 0 rfl) ?_
      refine lv_dup hx hb dX3_comesWitness_73 rfl ?_
      refine va_get (D := gD g) (ci := 3) (v := .int (sNw (mS σ))) (C := RX3) (T := TX3) (N := 33) hx hb hts hi3 hown hK hP 0 rfl rfl 13 (by decide) k1 (fun _ h9 => h9) rfl dX3_comesWitness_74 ?_
      refine lv_iconst (v := 1) hx hb dX3_comesWitness_77 (by decide) ?_
      refine lv_iadd hx hb dX3_comesWitness_78 ?_
      refine va_put (D := gD g) (ci := 3) (v := .int ((sNw (mS σ)) + 1)) (ty := .int) (C := RX3) (T := TX3) (N := 33) hx hb hts hi3 tyX3 tyX3_ok nmX3 hown hK hP hD hS 0 rfl rfl 13 (by decide) k1 (fun _ h9 => h9) rfl (by decide +kernel) rfl rfl (Nat.le_of_ble_eq_true rfl) dX3_comesWitness_79 (fun H locs hP hD hS => ?_)
      have hP : va_P (gD g) vwCl (wM g ad (((sCase (mS σ)), (sAsked (mS σ)), (sNq (mS σ)), ((sNw (mS σ)) + 1), (sNh (mS σ)), (sForm (mS σ)), (sFirst (mS σ)), (sSecond (mS σ)), (upd (sKind (mS σ)) ((sNw (mS σ))).toNatClampNeg ((tTold (mT σ)) (p0).toNatClampNeg)), (upd (sFigure (mS σ)) ((sNw (mS σ))).toNatClampNeg ((tTold (mT σ)) ((p0 + 1)).toNatClampNeg)), (upd (sKnows (mS σ)) ((sNw (mS σ))).toNatClampNeg ((tTold (mT σ)) ((p0 + 2)).toNatClampNeg)), (sWhom (mS σ)), (sWhat (mS σ)), (sSaid (mS σ)), (sWhen (mS σ))), (mT σ), (mK σ), (mF σ), (mRow σ), (mRowMany σ), (mLots σ), (mRefused σ))) H := hP
      have hD : va_D (AD ad 0 21) (wM g ad (((sCase (mS σ)), (sAsked (mS σ)), (sNq (mS σ)), ((sNw (mS σ)) + 1), (sNh (mS σ)), (sForm (mS σ)), (sFirst (mS σ)), (sSecond (mS σ)), (upd (sKind (mS σ)) ((sNw (mS σ))).toNatClampNeg ((tTold (mT σ)) (p0).toNatClampNeg)), (upd (sFigure (mS σ)) ((sNw (mS σ))).toNatClampNeg ((tTold (mT σ)) ((p0 + 1)).toNatClampNeg)), (upd (sKnows (mS σ)) ((sNw (mS σ))).toNatClampNeg ((tTold (mT σ)) ((p0 + 2)).toNatClampNeg)), (sWhom (mS σ)), (sWhat (mS σ)), (sSaid (mS σ)), (sWhen (mS σ))), (mT σ), (mK σ), (mF σ), (mRow σ), (mRowMany σ), (mLots σ), (mRefused σ))) := hD
      refine lv_iconst (v := 1) hx hb dX3_comesWitness_82 (by decide) ?_
      exact W.zret (v := 1) hx hb hr rfl (fun t ht hW => ⟨⟨1, (((sCase (mS σ)), (sAsked (mS σ)), (sNq (mS σ)), ((sNw (mS σ)) + 1), (sNh (mS σ)), (sForm (mS σ)), (sFirst (mS σ)), (sSecond (mS σ)), (upd (sKind (mS σ)) ((sNw (mS σ))).toNatClampNeg ((tTold (mT σ)) (p0).toNatClampNeg)), (upd (sFigure (mS σ)) ((sNw (mS σ))).toNatClampNeg ((tTold (mT σ)) ((p0 + 1)).toNatClampNeg)), (upd (sKnows (mS σ)) ((sNw (mS σ))).toNatClampNeg ((tTold (mT σ)) ((p0 + 2)).toNatClampNeg)), (sWhom (mS σ)), (sWhat (mS σ)), (sSaid (mS σ)), (sWhen (mS σ))), (mT σ), (mK σ), (mF σ), (mRow σ), (mRowMany σ), (mLots σ), (mRefused σ)), rfl, hv, P_at ht hP⟩, hS.F ht⟩) hS.2.2 dX3_comesWitness_83
    · have hv := hv.2 c18
      refine lv_iconst (v := 0) hx hb dX3_comesWitness_21 (by decide) ?_
      exact W.zret (v := 0) hx hb hr rfl (fun t ht hW => ⟨⟨0, σ, rfl, hv, P_at ht hP⟩, hS.F ht⟩) hS.2.2 dX3_comesWitness_22

set_option maxHeartbeats 4000000 in
set_option maxRecDepth 100000 in
theorem m_X3_comesAsking (l : Launch) (h_X3_asksOne : C_X3_asksOne l) (h_X3_isQuestion : C_X3_isQuestion l) (h_X3_isWitness : C_X3_isWitness l) (g : CX) (ad : Nat → Nat) (σ : KM) (p0 : Int32) (p1 : Int32) (Post : Int32 → KM → Prop) (hv : vc_X3_comesAsking σ p0 p1 Post) : Met l yX3_comesAsking wsX3_comesAsking { frames := 5, cells := 0, slots := 0, locals := 116 } (va_Pc [.ref (ad 0), .int p0, .int p1] (RW g (AD ad 0 21) (wM g ad σ))) (va_Qi (fun (r : Int32) (u : KM) => Post r u) (fun u t => va_P (gD g) vwCl (wM g ad u) t.heap) (AD ad 0 21)) 0 0 (AD ad 0 21) := by
  unfold vc_X3_comesAsking at hv
  refine Met.ofW (cc := cX3_comesAsking) (maxL := 3) (ret := (some .boolean)) (by decide) rfl ?_
  intro p e s m args below meth c s₁ B hml hv0
  obtain ⟨rfl, hP, hK, hE, hD⟩ := hv0
  have hx := B.exec
  have hb := B.bytes
  have hr := B.returns
  have hts := atoms_spec (ws := wsX3_comesAsking) B.pre
  have hown : s.vm.findClass RX3 = some m.cls := findClass_of_methodNamed B.named
  have hlocks := B.notSynchronized
  have hi3 : ∀ w ∈ wsX30, w ∈ wsX3_comesAsking := by decide +kernel
  have k0 := hts (.fieldLink RX3 127 "JuryHearsAnswersModel" "asked" "I") (by decide +kernel)
  have hS : va_S (AD ad 0 21) s.heap s.heap [] := va_S.rf
  have hP : va_P (gD g) vwCl (wM g ad σ) s.heap := hP
  have hl := lv_entry ([.ref (ad 0), .int p0, .int p1]) (n := 3) (Nat.le_of_ble_eq_true rfl)
  rw [lg_entry_eq]
  generalize (lg_sl ([.ref (ad 0), .int p0, .int p1]) ++ List.replicate (3 - (lg_sl ([.ref (ad 0), .int p0, .int p1])).length) Slot.unset).toArray = ls at hl ⊢
  have hl : lv_has ls 3 [(0, .ref (ad 0)), (1, .int p0), (2, .int p1)] := hl
  obtain ⟨H, hH⟩ : ∃ z, z = s.heap := ⟨_, rfl⟩
  obtain ⟨locs, hL⟩ : ∃ z : List Loc, z = [] := ⟨_, rfl⟩
  rw [← hL] at hS ⊢
  have hS : va_S (AD ad 0 21) s.heap H locs := by rw [hH]; exact hS
  rw [← hH] at hP ⊢
  clear hH hL
  refine lv_aload_n hx hb dX3_comesAsking_0 rfl (lv_at hl 0 rfl) ?_
  refine lv_iload_n hx hb dX3_comesAsking_1 rfl (lv_at hl 1 rfl) ?_
  have hPc := hP
  refine ro_int (va_runV (As := [.int p0]) (rest := []) ⟨hx, hb, hml, hown, hts⟩ (h_X3_isWitness g ad σ p0) (cwV 1 hts gX3_comesAsking_X3_isWitness rfl rfl rfl (by decide +kernel) ⟨Nat.le_of_ble_eq_true rfl, Nat.le_of_ble_eq_true rfl⟩) ⟨RO_blind, va_recv hK hP (ci := 3) (q0 := 0) rfl rfl, fun U hU hW => ⟨rfl, by rw [hU]; exact hPc, va_K.moved hW.alike hK, hE.call hW hU hS (fun _ h => h.elim)⟩⟩ rfl rfl hl.1 rfl (lv_room (Nat.le_of_ble_eq_true rfl)) dX3_comesAsking_2 ⟨Nat.le_of_ble_eq_true rfl, Nat.le_of_ble_eq_true rfl⟩) hS hP (fun r H locs hw hP hS => ?_)
  subst r
  refine lv_if_eq (tgt := 26) hx hb dX3_comesAsking_5 (by decide) (fun c5 => ?_) (fun c5 => ?_)
  · have hv := hv.1 c5
    refine lv_iconst (v := 0) hx hb dX3_comesAsking_26 (by decide) ?_
    exact W.zret (v := 0) hx hb hr rfl (fun t ht hW => ⟨⟨0, σ, rfl, hv, P_at ht hP⟩, hS.F ht⟩) hS.2.2 dX3_comesAsking_27
  · have hv := hv.2 c5
    refine lv_aload_n hx hb dX3_comesAsking_8 rfl (lv_at hl 0 rfl) ?_
    refine lv_iload_n hx hb dX3_comesAsking_9 rfl (lv_at hl 2 rfl) ?_
    have hPc := hP
    refine ro_int (va_runV (As := [.int p1]) (rest := []) ⟨hx, hb, hml, hown, hts⟩ (h_X3_isQuestion g ad σ p1) (cwV 1 hts gX3_comesAsking_X3_isQuestion rfl rfl rfl (by decide +kernel) ⟨Nat.le_of_ble_eq_true rfl, Nat.le_of_ble_eq_true rfl⟩) ⟨RO_blind, va_recv hK hP (ci := 3) (q0 := 0) rfl rfl, fun U hU hW => ⟨rfl, by rw [hU]; exact hPc, va_K.moved hW.alike hK, hE.call hW hU hS (fun _ h => h.elim)⟩⟩ rfl rfl hl.1 rfl (lv_room (Nat.le_of_ble_eq_true rfl)) dX3_comesAsking_10 ⟨Nat.le_of_ble_eq_true rfl, Nat.le_of_ble_eq_true rfl⟩) hS hP (fun r H locs hw hP hS => ?_)
    subst r
    refine lv_if_eq (tgt := 26) hx hb dX3_comesAsking_13 (by decide) (fun c13 => ?_) (fun c13 => ?_)
    · have hv := hv.1 c13
      refine lv_iconst (v := 0) hx hb dX3_comesAsking_26 (by decide) ?_
      exact W.zret (v := 0) hx hb hr rfl (fun t ht hW => ⟨⟨0, σ, rfl, hv, P_at ht hP⟩, hS.F ht⟩) hS.2.2 dX3_comesAsking_27
    · have hv := hv.2 c13
      refine lv_aload_n hx hb dX3_comesAsking_16 rfl (lv_at hl 0 rfl) ?_
      refine va_get (D := gD g) (ci := 3) (v := .int (sAsked (mS σ))) (C := RX3) (T := TX3) (N := 33) hx hb hts hi3 hown hK hP 0 rfl rfl 15 (by decide) k0 (fun _ h9 => h9) rfl dX3_comesAsking_17 ?_
      refine lv_sipush (v := 999) hx hb dX3_comesAsking_20 (by decide) ?_
      refine lv_icmp_ne (tgt := 28) hx hb dX3_comesAsking_23 (by decide) (fun c23 => ?_) (fun c23 => ?_)
      · have hv := hv.1 c23
        refine lv_aload_n hx hb dX3_comesAsking_28 rfl (lv_at hl 0 rfl) ?_
        refine lv_iload_n hx hb dX3_comesAsking_29 rfl (lv_at hl 1 rfl) ?_
        refine lv_iload_n hx hb dX3_comesAsking_30 rfl (lv_at hl 2 rfl) ?_
        have h8 := hv.1
        have hv := hv.2
        have hPc := hP
        have hDc := hD
        refine rw_int (va_runV (As := [.int p0, .int p1]) (rest := []) ⟨hx, hb, hml, hown, hts⟩ (h_X3_asksOne g ad σ p0 p1 h8) (cwV 2 hts gX3_comesAsking_X3_asksOne rfl rfl rfl (by decide +kernel) ⟨Nat.le_of_ble_eq_true rfl, Nat.le_of_ble_eq_true rfl⟩) ⟨RW_blind, va_recv hK hP (ci := 3) (q0 := 0) rfl rfl, fun U hU hW => ⟨rfl, by rw [hU]; exact hPc, va_K.moved hW.alike hK, hE.call hW hU hS (fun _ h => h), hDc⟩⟩ rfl rfl hl.1 rfl (lv_room (Nat.le_of_ble_eq_true rfl)) dX3_comesAsking_31 ⟨Nat.le_of_ble_eq_true rfl, Nat.le_of_ble_eq_true rfl⟩) hS (fun _ h => h) (fun r u H1 locs hw hP1 hk hS => ?_)
        obtain ⟨hw1, hw⟩ := hw; subst r; subst u
        have hP := hP1
        generalize H1 = H at hP hS ⊢
        have hP : va_P (gD g) vwCl (wM g ad ((askS (mS σ) p0 p1), (mT σ), (mK σ), (mF σ), (mRow σ), (mRowMany σ), (mLots σ), (mRefused σ))) H := hP
        have hD : va_D (AD ad 0 21) (wM g ad ((askS (mS σ) p0 p1), (mT σ), (mK σ), (mF σ), (mRow σ), (mRowMany σ), (mLots σ), (mRefused σ))) := hD.addr (by rfl)
        refine lv_pop hx hb dX3_comesAsking_34 rfl ?_
        refine lv_iconst (v := 1) hx hb dX3_comesAsking_35 (by decide) ?_
        exact W.zret (v := 1) hx hb hr rfl (fun t ht hW => ⟨⟨1, ((askS (mS σ) p0 p1), (mT σ), (mK σ), (mF σ), (mRow σ), (mRowMany σ), (mLots σ), (mRefused σ)), rfl, hv, P_at ht hP⟩, hS.F ht⟩) hS.2.2 dX3_comesAsking_36
      · have hv := hv.2 c23
        refine lv_iconst (v := 0) hx hb dX3_comesAsking_26 (by decide) ?_
        exact W.zret (v := 0) hx hb hr rfl (fun t ht hW => ⟨⟨0, σ, rfl, hv, P_at ht hP⟩, hS.F ht⟩) hS.2.2 dX3_comesAsking_27

