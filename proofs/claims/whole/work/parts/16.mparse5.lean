set_option maxHeartbeats 4000000 in
set_option maxRecDepth 100000 in
theorem m_X3_comes (l : Launch) (h_X3_comesAsking : C_X3_comesAsking l) (h_X3_comesQuestion : C_X3_comesQuestion l) (h_X3_comesWitness : C_X3_comesWitness l) (h_X3_isFact : C_X3_isFact l) (h_X3_isWitness : C_X3_isWitness l) (g : CX) (ad : Nat → Nat) (σ : KM) (p0 : Int32) (Post : Int32 → KM → Prop) (hv : vc_X3_comes σ p0 Post) : Met l yX3_comes wsX3_comes { frames := 6, cells := 0, slots := 0, locals := 138 } (va_Pc [.ref (ad 0), .int p0] (RW g (AD ad 0 21) (wM g ad σ))) (va_Qi (fun (r : Int32) (u : KM) => Post r u) (fun u t => va_P (gD g) vwCl (wM g ad u) t.heap) (AD ad 0 21)) 0 0 (AD ad 0 21) := by
  unfold vc_X3_comes at hv
  refine Met.ofW (cc := cX3_comes) (maxL := 3) (ret := (some .boolean)) (by decide) rfl ?_
  intro p e s m args below meth c s₁ B hml hv0
  obtain ⟨rfl, hP, hK, hE, hD⟩ := hv0
  have hx := B.exec
  have hb := B.bytes
  have hr := B.returns
  have hts := atoms_spec (ws := wsX3_comes) B.pre
  have hown : s.vm.findClass RX3 = some m.cls := findClass_of_methodNamed B.named
  have hlocks := B.notSynchronized
  have hi3 : ∀ w ∈ wsX30, w ∈ wsX3_comes := by decide +kernel
  have k0 := hts (.fieldLink RX3 46 "JuryHearsAnswersModel" "letter" "[I") (by decide +kernel)
  have k1 := hts (.fieldLink RX3 52 "JuryHearsAnswersModel" "told" "[I") (by decide +kernel)
  have k2 := hts (.fieldLink RX3 134 "JuryHearsAnswersModel" "theCase" "I") (by decide +kernel)
  have k3 := hts (.fieldLink RX3 28 "JuryHearsAnswersModel" "knows" "[I") (by decide +kernel)
  have k4 := hts (.fieldLink RX3 146 "JuryHearsAnswersModel" "heard" "I") (by decide +kernel)
  have hS : va_S (AD ad 0 21) s.heap s.heap [] := va_S.rf
  have hP : va_P (gD g) vwCl (wM g ad σ) s.heap := hP
  have hl := lv_entry ([.ref (ad 0), .int p0]) (n := 3) (Nat.le_of_ble_eq_true rfl)
  rw [lg_entry_eq]
  generalize (lg_sl ([.ref (ad 0), .int p0]) ++ List.replicate (3 - (lg_sl ([.ref (ad 0), .int p0])).length) Slot.unset).toArray = ls at hl ⊢
  have hl : lv_has ls 3 [(0, .ref (ad 0)), (1, .int p0)] := hl
  obtain ⟨H, hH⟩ : ∃ z, z = s.heap := ⟨_, rfl⟩
  obtain ⟨locs, hL⟩ : ∃ z : List Loc, z = [] := ⟨_, rfl⟩
  rw [← hL] at hS ⊢
  have hS : va_S (AD ad 0 21) s.heap H locs := by rw [hH]; exact hS
  rw [← hH] at hP ⊢
  clear hH hL
  refine lv_iconst (v := 3) hx hb dX3_comes_0 (by decide) ?_
  refine lv_iload_n hx hb dX3_comes_1 rfl (lv_at hl 1 rfl) ?_
  refine lv_imul hx hb dX3_comes_2 ?_
  refine lv_istore_n (lv' := [(2, .int (3 * p0)), (0, .ref (ad 0)), (1, .int p0)]) hx hb dX3_comes_3 rfl hl (by decide) rfl (fun ls hl => ?_)
  refine lv_aload_n hx hb dX3_comes_4 rfl (lv_at hl 1 rfl) ?_
  refine va_get (D := gD g) (ci := 3) (v := .ref (ad 13)) (C := RX3) (T := TX3) (N := 33) hx hb hts hi3 hown hK hP 0 rfl rfl 17 (by decide) k0 (fun _ h9 => h9) rfl dX3_comes_5 ?_
  refine lv_iload_n hx hb dX3_comes_8 rfl (lv_at hl 2 rfl) ?_
  have h9 := hv.1
  have hv := hv.2
  refine va_iald (f := (tLetter (mT σ))) (n := 48) hx hb hK hP 13 0 rfl rfl h9 dX3_comes_9 ?_
  by_cases d10_97 : ((tLetter (mT σ)) (p0).toNatClampNeg) = 97
  · have hv := hv.1 d10_97
    refine lv_lookup (off := 150) (tgt := 160) hx hb dX3_comes_10 (by decide +kernel) (by rw [d10_97]; decide +kernel) (by decide) ?_
    refine lv_aload_n hx hb dX3_comes_160 rfl (lv_at hl 1 rfl) ?_
    refine lv_aload_n hx hb dX3_comes_161 rfl (lv_at hl 1 rfl) ?_
    refine va_get (D := gD g) (ci := 3) (v := .ref (ad 15)) (C := RX3) (T := TX3) (N := 33) hx hb hts hi3 hown hK hP 0 rfl rfl 19 (by decide) k1 (fun _ h9 => h9) rfl dX3_comes_162 ?_
    refine lv_iload_n hx hb dX3_comes_165 rfl (lv_at hl 0 rfl) ?_
    have h9 := hv.1
    have hv := hv.2
    refine va_iald (f := (tTold (mT σ))) (n := 144) hx hb hK hP 15 0 rfl rfl h9 dX3_comes_166 ?_
    refine lv_aload_n hx hb dX3_comes_167 rfl (lv_at hl 1 rfl) ?_
    refine va_get (D := gD g) (ci := 3) (v := .ref (ad 15)) (C := RX3) (T := TX3) (N := 33) hx hb hts hi3 hown hK hP 0 rfl rfl 19 (by decide) k1 (fun _ h9 => h9) rfl dX3_comes_168 ?_
    refine lv_iload_n hx hb dX3_comes_171 rfl (lv_at hl 0 rfl) ?_
    refine lv_iconst (v := 1) hx hb dX3_comes_172 (by decide) ?_
    refine lv_iadd hx hb dX3_comes_173 ?_
    have h9 := hv.1
    have hv := hv.2
    refine va_iald (f := (tTold (mT σ))) (n := 144) hx hb hK hP 15 0 rfl rfl h9 dX3_comes_174 ?_
    have h8 := hv.1
    have hv := hv.2
    have hPc := hP
    have hDc := hD
    refine rw_int (va_runV (As := [.int ((tTold (mT σ)) ((3 * p0)).toNatClampNeg), .int ((tTold (mT σ)) (((3 * p0) + 1)).toNatClampNeg)]) (rest := []) ⟨hx, hb, hml, hown, hts⟩ (h_X3_comesAsking g ad σ ((tTold (mT σ)) ((3 * p0)).toNatClampNeg) ((tTold (mT σ)) (((3 * p0) + 1)).toNatClampNeg) h8) (cwV 2 hts gX3_comes_X3_comesAsking rfl rfl rfl (by decide +kernel) ⟨Nat.le_of_ble_eq_true rfl, Nat.le_of_ble_eq_true rfl⟩) ⟨RW_blind, va_recv hK hP (ci := 3) (q0 := 0) rfl rfl, fun U hU hW => ⟨rfl, by rw [hU]; exact hPc, va_K.moved hW.alike hK, hE.call hW hU hS (fun _ h => h), hDc⟩⟩ rfl rfl hl.1 rfl (lv_room (Nat.le_of_ble_eq_true rfl)) dX3_comes_175 ⟨Nat.le_of_ble_eq_true rfl, Nat.le_of_ble_eq_true rfl⟩) hS (fun _ h => h) (fun r u H1 locs hw hP1 hk hS => ?_)
    obtain ⟨hw1, hw⟩ := hw; subst r; subst u
    have hP := hP1
    generalize H1 = H at hP hS ⊢
    have hP : va_P (gD g) vwCl (wM g ad ((if caB (mS σ) ((tTold (mT σ)) ((3 * p0)).toNatClampNeg) ((tTold (mT σ)) (((3 * p0) + 1)).toNatClampNeg) = true then askS (mS σ) ((tTold (mT σ)) ((3 * p0)).toNatClampNeg) ((tTold (mT σ)) (((3 * p0) + 1)).toNatClampNeg) else mS σ), (mT σ), (mK σ), (mF σ), (mRow σ), (mRowMany σ), (mLots σ), (mRefused σ))) H := hP
    have hD : va_D (AD ad 0 21) (wM g ad ((if caB (mS σ) ((tTold (mT σ)) ((3 * p0)).toNatClampNeg) ((tTold (mT σ)) (((3 * p0) + 1)).toNatClampNeg) = true then askS (mS σ) ((tTold (mT σ)) ((3 * p0)).toNatClampNeg) ((tTold (mT σ)) (((3 * p0) + 1)).toNatClampNeg) else mS σ), (mT σ), (mK σ), (mF σ), (mRow σ), (mRowMany σ), (mLots σ), (mRefused σ))) := hD.addr (by rfl)
    have hn := hv.1
    have hv := hv.2
    exact W.zret (v := (b2i (caB (mS σ) ((tTold (mT σ)) ((3 * p0)).toNatClampNeg) ((tTold (mT σ)) (((3 * p0) + 1)).toNatClampNeg)))) hx hb hr hn (fun t ht hW => ⟨⟨(b2i (caB (mS σ) ((tTold (mT σ)) ((3 * p0)).toNatClampNeg) ((tTold (mT σ)) (((3 * p0) + 1)).toNatClampNeg))), ((if caB (mS σ) ((tTold (mT σ)) ((3 * p0)).toNatClampNeg) ((tTold (mT σ)) (((3 * p0) + 1)).toNatClampNeg) = true then askS (mS σ) ((tTold (mT σ)) ((3 * p0)).toNatClampNeg) ((tTold (mT σ)) (((3 * p0) + 1)).toNatClampNeg) else mS σ), (mT σ), (mK σ), (mF σ), (mRow σ), (mRowMany σ), (mLots σ), (mRefused σ)), rfl, hv, P_at ht hP⟩, hS.F ht⟩) hS.2.2 dX3_comes_178
  · have hv := hv.2 d10_97
    by_cases d10_102 : ((tLetter (mT σ)) (p0).toNatClampNeg) = 102
    · have hv := hv.1 d10_102
      refine lv_lookup (off := 50) (tgt := 60) hx hb dX3_comes_10 (by decide +kernel) (by rw [d10_102]; decide +kernel) (by decide) ?_
      refine lv_aload_n hx hb dX3_comes_60 rfl (lv_at hl 1 rfl) ?_
      refine va_get (D := gD g) (ci := 3) (v := .ref (ad 15)) (C := RX3) (T := TX3) (N := 33) hx hb hts hi3 hown hK hP 0 rfl rfl 19 (by decide) k1 (fun _ h9 => h9) rfl dX3_comes_61 ?_
      refine lv_iload_n hx hb dX3_comes_64 rfl (lv_at hl 0 rfl) ?_
      have h9 := hv.1
      have hv := hv.2
      refine va_iald (f := (tTold (mT σ))) (n := 144) hx hb hK hP 15 0 rfl rfl h9 dX3_comes_65 ?_
      have hPc : va_P (gD g) vwCl [] H := fun k q h => by simp at h
      refine ro_int (va_runS (As := [.int ((tTold (mT σ)) ((3 * p0)).toNatClampNeg)]) (rest := []) ⟨hx, hb, hml, hown, hts⟩ (h_X3_isFact g ((tTold (mT σ)) ((3 * p0)).toNatClampNeg)) (va_cwS 1 hts gX3_comes_X3_isFact rfl rfl rfl (by decide +kernel) ⟨Nat.le_of_ble_eq_true rfl, Nat.le_of_ble_eq_true rfl⟩) ⟨RO_blind, fun U hU hW => ⟨rfl, by rw [hU]; exact hPc, va_K.moved hW.alike hK, hE.call hW hU hS (fun _ h => h.elim)⟩⟩ rfl rfl hl.1 rfl (lv_room (Nat.le_of_ble_eq_true rfl)) dX3_comes_66 ⟨Nat.le_of_ble_eq_true rfl, Nat.le_of_ble_eq_true rfl⟩) hS hP (fun r H locs hw hP hS => ?_)
      subst r
      refine lv_if_ne (tgt := 74) hx hb dX3_comes_69 (by decide) (fun c69 => ?_) (fun c69 => ?_)
      · have hv := hv.1 c69
        refine lv_aload_n hx hb dX3_comes_74 rfl (lv_at hl 1 rfl) ?_
        refine lv_dup hx hb dX3_comes_75 rfl ?_
        refine va_get (D := gD g) (ci := 3) (v := .int (sCase (mS σ))) (C := RX3) (T := TX3) (N := 33) hx hb hts hi3 hown hK hP 0 rfl rfl 11 (by decide) k2 (fun _ h9 => h9) rfl dX3_comes_76 ?_
        refine lv_iconst (v := 1) hx hb dX3_comes_79 (by decide) ?_
        refine lv_aload_n hx hb dX3_comes_80 rfl (lv_at hl 1 rfl) ?_
        refine va_get (D := gD g) (ci := 3) (v := .ref (ad 15)) (C := RX3) (T := TX3) (N := 33) hx hb hts hi3 hown hK hP 0 rfl rfl 19 (by decide) k1 (fun _ h9 => h9) rfl dX3_comes_81 ?_
        refine lv_iload_n hx hb dX3_comes_84 rfl (lv_at hl 0 rfl) ?_
        have h9 := hv.1
        have hv := hv.2
        refine va_iald (f := (tTold (mT σ))) (n := 144) hx hb hK hP 15 0 rfl rfl h9 dX3_comes_85 ?_
        refine lv_ishl hx hb dX3_comes_86 ?_
        refine lv_ixor hx hb dX3_comes_87 ?_
        refine va_put (D := gD g) (ci := 3) (v := .int ((sCase (mS σ)) ^^^ (1 <<< (((tTold (mT σ)) ((3 * p0)).toNatClampNeg) &&& 31)))) (ty := .int) (C := RX3) (T := TX3) (N := 33) hx hb hts hi3 tyX3 tyX3_ok nmX3 hown hK hP hD hS 0 rfl rfl 11 (by decide) k2 (fun _ h9 => h9) rfl (by decide +kernel) rfl rfl (Nat.le_of_ble_eq_true rfl) dX3_comes_88 (fun H locs hP hD hS => ?_)
        have hP : va_P (gD g) vwCl (wM g ad ((((sCase (mS σ)) ^^^ (1 <<< (((tTold (mT σ)) ((3 * p0)).toNatClampNeg) &&& 31))), (sAsked (mS σ)), (sNq (mS σ)), (sNw (mS σ)), (sNh (mS σ)), (sForm (mS σ)), (sFirst (mS σ)), (sSecond (mS σ)), (sKind (mS σ)), (sFigure (mS σ)), (sKnows (mS σ)), (sWhom (mS σ)), (sWhat (mS σ)), (sSaid (mS σ)), (sWhen (mS σ))), (mT σ), (mK σ), (mF σ), (mRow σ), (mRowMany σ), (mLots σ), (mRefused σ))) H := hP
        have hD : va_D (AD ad 0 21) (wM g ad ((((sCase (mS σ)) ^^^ (1 <<< (((tTold (mT σ)) ((3 * p0)).toNatClampNeg) &&& 31))), (sAsked (mS σ)), (sNq (mS σ)), (sNw (mS σ)), (sNh (mS σ)), (sForm (mS σ)), (sFirst (mS σ)), (sSecond (mS σ)), (sKind (mS σ)), (sFigure (mS σ)), (sKnows (mS σ)), (sWhom (mS σ)), (sWhat (mS σ)), (sSaid (mS σ)), (sWhen (mS σ))), (mT σ), (mK σ), (mF σ), (mRow σ), (mRowMany σ), (mLots σ), (mRefused σ))) := hD
        refine lv_iconst (v := 1) hx hb dX3_comes_91 (by decide) ?_
        exact W.zret (v := 1) hx hb hr rfl (fun t ht hW => ⟨⟨1, ((((sCase (mS σ)) ^^^ (1 <<< (((tTold (mT σ)) ((3 * p0)).toNatClampNeg) &&& 31))), (sAsked (mS σ)), (sNq (mS σ)), (sNw (mS σ)), (sNh (mS σ)), (sForm (mS σ)), (sFirst (mS σ)), (sSecond (mS σ)), (sKind (mS σ)), (sFigure (mS σ)), (sKnows (mS σ)), (sWhom (mS σ)), (sWhat (mS σ)), (sSaid (mS σ)), (sWhen (mS σ))), (mT σ), (mK σ), (mF σ), (mRow σ), (mRowMany σ), (mLots σ), (mRefused σ)), rfl, hv, P_at ht hP⟩, hS.F ht⟩) hS.2.2 dX3_comes_92
      · have hv := hv.2 c69
        refine lv_iconst (v := 0) hx hb dX3_comes_72 (by decide) ?_
        exact W.zret (v := 0) hx hb hr rfl (fun t ht hW => ⟨⟨0, σ, rfl, hv, P_at ht hP⟩, hS.F ht⟩) hS.2.2 dX3_comes_73
    · have hv := hv.2 d10_102
      by_cases d10_107 : ((tLetter (mT σ)) (p0).toNatClampNeg) = 107
      · have hv := hv.1 d10_107
        refine lv_lookup (off := 95) (tgt := 105) hx hb dX3_comes_10 (by decide +kernel) (by rw [d10_107]; decide +kernel) (by decide) ?_
        refine lv_aload_n hx hb dX3_comes_105 rfl (lv_at hl 1 rfl) ?_
        refine lv_aload_n hx hb dX3_comes_106 rfl (lv_at hl 1 rfl) ?_
        refine va_get (D := gD g) (ci := 3) (v := .ref (ad 15)) (C := RX3) (T := TX3) (N := 33) hx hb hts hi3 hown hK hP 0 rfl rfl 19 (by decide) k1 (fun _ h9 => h9) rfl dX3_comes_107 ?_
        refine lv_iload_n hx hb dX3_comes_110 rfl (lv_at hl 0 rfl) ?_
        have h9 := hv.1
        have hv := hv.2
        refine va_iald (f := (tTold (mT σ))) (n := 144) hx hb hK hP 15 0 rfl rfl h9 dX3_comes_111 ?_
        have hPc := hP
        refine ro_int (va_runV (As := [.int ((tTold (mT σ)) ((3 * p0)).toNatClampNeg)]) (rest := []) ⟨hx, hb, hml, hown, hts⟩ (h_X3_isWitness g ad σ ((tTold (mT σ)) ((3 * p0)).toNatClampNeg)) (cwV 1 hts gX3_comes_X3_isWitness rfl rfl rfl (by decide +kernel) ⟨Nat.le_of_ble_eq_true rfl, Nat.le_of_ble_eq_true rfl⟩) ⟨RO_blind, va_recv hK hP (ci := 3) (q0 := 0) rfl rfl, fun U hU hW => ⟨rfl, by rw [hU]; exact hPc, va_K.moved hW.alike hK, hE.call hW hU hS (fun _ h => h.elim)⟩⟩ rfl rfl hl.1 rfl (lv_room (Nat.le_of_ble_eq_true rfl)) dX3_comes_112 ⟨Nat.le_of_ble_eq_true rfl, Nat.le_of_ble_eq_true rfl⟩) hS hP (fun r H locs hw hP hS => ?_)
        subst r
        refine lv_if_eq (tgt := 132) hx hb dX3_comes_115 (by decide) (fun c115 => ?_) (fun c115 => ?_)
        · have hv := hv.1 c115
          refine lv_iconst (v := 0) hx hb dX3_comes_132 (by decide) ?_
          exact W.zret (v := 0) hx hb hr rfl (fun t ht hW => ⟨⟨0, σ, rfl, hv, P_at ht hP⟩, hS.F ht⟩) hS.2.2 dX3_comes_133
        · have hv := hv.2 c115
          refine lv_aload_n hx hb dX3_comes_118 rfl (lv_at hl 1 rfl) ?_
          refine va_get (D := gD g) (ci := 3) (v := .ref (ad 15)) (C := RX3) (T := TX3) (N := 33) hx hb hts hi3 hown hK hP 0 rfl rfl 19 (by decide) k1 (fun _ h9 => h9) rfl dX3_comes_119 ?_
          refine lv_iload_n hx hb dX3_comes_122 rfl (lv_at hl 0 rfl) ?_
          refine lv_iconst (v := 1) hx hb dX3_comes_123 (by decide) ?_
          refine lv_iadd hx hb dX3_comes_124 ?_
          have h9 := hv.1
          have hv := hv.2
          refine va_iald (f := (tTold (mT σ))) (n := 144) hx hb hK hP 15 0 rfl rfl h9 dX3_comes_125 ?_
          have hPc : va_P (gD g) vwCl [] H := fun k q h => by simp at h
          refine ro_int (va_runS (As := [.int ((tTold (mT σ)) (((3 * p0) + 1)).toNatClampNeg)]) (rest := []) ⟨hx, hb, hml, hown, hts⟩ (h_X3_isFact g ((tTold (mT σ)) (((3 * p0) + 1)).toNatClampNeg)) (va_cwS 1 hts gX3_comes_X3_isFact rfl rfl rfl (by decide +kernel) ⟨Nat.le_of_ble_eq_true rfl, Nat.le_of_ble_eq_true rfl⟩) ⟨RO_blind, fun U hU hW => ⟨rfl, by rw [hU]; exact hPc, va_K.moved hW.alike hK, hE.call hW hU hS (fun _ h => h.elim)⟩⟩ rfl rfl hl.1 rfl (lv_room (Nat.le_of_ble_eq_true rfl)) dX3_comes_126 ⟨Nat.le_of_ble_eq_true rfl, Nat.le_of_ble_eq_true rfl⟩) hS hP (fun r H locs hw hP hS => ?_)
          subst r
          refine lv_if_ne (tgt := 134) hx hb dX3_comes_129 (by decide) (fun c129 => ?_) (fun c129 => ?_)
          · have hv := hv.1 c129
            refine lv_aload_n hx hb dX3_comes_134 rfl (lv_at hl 1 rfl) ?_
            refine va_get (D := gD g) (ci := 3) (v := .ref (ad 7)) (C := RX3) (T := TX3) (N := 33) hx hb hts hi3 hown hK hP 0 rfl rfl 6 (by decide) k3 (fun _ h9 => h9) rfl dX3_comes_135 ?_
            refine lv_aload_n hx hb dX3_comes_138 rfl (lv_at hl 1 rfl) ?_
            refine va_get (D := gD g) (ci := 3) (v := .ref (ad 15)) (C := RX3) (T := TX3) (N := 33) hx hb hts hi3 hown hK hP 0 rfl rfl 19 (by decide) k1 (fun _ h9 => h9) rfl dX3_comes_139 ?_
            refine lv_iload_n hx hb dX3_comes_142 rfl (lv_at hl 0 rfl) ?_
            have h9 := hv.1
            have hv := hv.2
            refine va_iald (f := (tTold (mT σ))) (n := 144) hx hb hK hP 15 0 rfl rfl h9 dX3_comes_143 ?_
            refine lv_dup2_11 hx hb dX3_comes_144 rfl rfl ?_
            have h9 := hv.1
            have hv := hv.2
            refine va_iald (f := (sKnows (mS σ))) (n := 5) hx hb hK hP 7 0 rfl rfl h9 dX3_comes_145 ?_
            refine lv_iconst (v := 1) hx hb dX3_comes_146 (by decide) ?_
            refine lv_aload_n hx hb dX3_comes_147 rfl (lv_at hl 1 rfl) ?_
            refine va_get (D := gD g) (ci := 3) (v := .ref (ad 15)) (C := RX3) (T := TX3) (N := 33) hx hb hts hi3 hown hK hP 0 rfl rfl 19 (by decide) k1 (fun _ h9 => h9) rfl dX3_comes_148 ?_
            refine lv_iload_n hx hb dX3_comes_151 rfl (lv_at hl 0 rfl) ?_
            refine lv_iconst (v := 1) hx hb dX3_comes_152 (by decide) ?_
            refine lv_iadd hx hb dX3_comes_153 ?_
            have h9 := hv.1
            have hv := hv.2
            refine va_iald (f := (tTold (mT σ))) (n := 144) hx hb hK hP 15 0 rfl rfl h9 dX3_comes_154 ?_
            refine lv_ishl hx hb dX3_comes_155 ?_
            refine lv_ixor hx hb dX3_comes_156 ?_
            have h9 := hv.1
            have hv := hv.2
            refine va_iast (f := (sKnows (mS σ))) (n := 5) hx hb hK hP hD hS 7 0 rfl rfl h9 dX3_comes_157 (fun H locs hP hD hS => ?_)
            have hP : va_P (gD g) vwCl (wM g ad (((sCase (mS σ)), (sAsked (mS σ)), (sNq (mS σ)), (sNw (mS σ)), (sNh (mS σ)), (sForm (mS σ)), (sFirst (mS σ)), (sSecond (mS σ)), (sKind (mS σ)), (sFigure (mS σ)), (upd (sKnows (mS σ)) (((tTold (mT σ)) ((3 * p0)).toNatClampNeg)).toNatClampNeg (((sKnows (mS σ)) (((tTold (mT σ)) ((3 * p0)).toNatClampNeg)).toNatClampNeg) ^^^ (1 <<< (((tTold (mT σ)) (((3 * p0) + 1)).toNatClampNeg) &&& 31)))), (sWhom (mS σ)), (sWhat (mS σ)), (sSaid (mS σ)), (sWhen (mS σ))), (mT σ), (mK σ), (mF σ), (mRow σ), (mRowMany σ), (mLots σ), (mRefused σ))) H := hP
            have hD : va_D (AD ad 0 21) (wM g ad (((sCase (mS σ)), (sAsked (mS σ)), (sNq (mS σ)), (sNw (mS σ)), (sNh (mS σ)), (sForm (mS σ)), (sFirst (mS σ)), (sSecond (mS σ)), (sKind (mS σ)), (sFigure (mS σ)), (upd (sKnows (mS σ)) (((tTold (mT σ)) ((3 * p0)).toNatClampNeg)).toNatClampNeg (((sKnows (mS σ)) (((tTold (mT σ)) ((3 * p0)).toNatClampNeg)).toNatClampNeg) ^^^ (1 <<< (((tTold (mT σ)) (((3 * p0) + 1)).toNatClampNeg) &&& 31)))), (sWhom (mS σ)), (sWhat (mS σ)), (sSaid (mS σ)), (sWhen (mS σ))), (mT σ), (mK σ), (mF σ), (mRow σ), (mRowMany σ), (mLots σ), (mRefused σ))) := hD
            refine lv_iconst (v := 1) hx hb dX3_comes_158 (by decide) ?_
            exact W.zret (v := 1) hx hb hr rfl (fun t ht hW => ⟨⟨1, (((sCase (mS σ)), (sAsked (mS σ)), (sNq (mS σ)), (sNw (mS σ)), (sNh (mS σ)), (sForm (mS σ)), (sFirst (mS σ)), (sSecond (mS σ)), (sKind (mS σ)), (sFigure (mS σ)), (upd (sKnows (mS σ)) (((tTold (mT σ)) ((3 * p0)).toNatClampNeg)).toNatClampNeg (((sKnows (mS σ)) (((tTold (mT σ)) ((3 * p0)).toNatClampNeg)).toNatClampNeg) ^^^ (1 <<< (((tTold (mT σ)) (((3 * p0) + 1)).toNatClampNeg) &&& 31)))), (sWhom (mS σ)), (sWhat (mS σ)), (sSaid (mS σ)), (sWhen (mS σ))), (mT σ), (mK σ), (mF σ), (mRow σ), (mRowMany σ), (mLots σ), (mRefused σ)), rfl, hv, P_at ht hP⟩, hS.F ht⟩) hS.2.2 dX3_comes_159
          · have hv := hv.2 c129
            refine lv_iconst (v := 0) hx hb dX3_comes_132 (by decide) ?_
            exact W.zret (v := 0) hx hb hr rfl (fun t ht hW => ⟨⟨0, σ, rfl, hv, P_at ht hP⟩, hS.F ht⟩) hS.2.2 dX3_comes_133
      · have hv := hv.2 d10_107
        by_cases d10_113 : ((tLetter (mT σ)) (p0).toNatClampNeg) = 113
        · have hv := hv.1 d10_113
          refine lv_lookup (off := 83) (tgt := 93) hx hb dX3_comes_10 (by decide +kernel) (by rw [d10_113]; decide +kernel) (by decide) ?_
          refine lv_aload_n hx hb dX3_comes_93 rfl (lv_at hl 1 rfl) ?_
          refine lv_iload_n hx hb dX3_comes_94 rfl (lv_at hl 0 rfl) ?_
          have h8 := hv.1
          have hv := hv.2
          have hPc := hP
          have hDc := hD
          refine rw_int (va_runV (As := [.int (3 * p0)]) (rest := []) ⟨hx, hb, hml, hown, hts⟩ (h_X3_comesQuestion g ad σ (3 * p0) h8) (cwV 1 hts gX3_comes_X3_comesQuestion rfl rfl rfl (by decide +kernel) ⟨Nat.le_of_ble_eq_true rfl, Nat.le_of_ble_eq_true rfl⟩) ⟨RW_blind, va_recv hK hP (ci := 3) (q0 := 0) rfl rfl, fun U hU hW => ⟨rfl, by rw [hU]; exact hPc, va_K.moved hW.alike hK, hE.call hW hU hS (fun _ h => h), hDc⟩⟩ rfl rfl hl.1 rfl (lv_room (Nat.le_of_ble_eq_true rfl)) dX3_comes_95 ⟨Nat.le_of_ble_eq_true rfl, Nat.le_of_ble_eq_true rfl⟩) hS (fun _ h => h) (fun r u H1 locs hw hP1 hk hS => ?_)
          obtain ⟨hw1, hw⟩ := hw; subst r; subst u
          have hP := hP1
          generalize H1 = H at hP hS ⊢
          have hP : va_P (gD g) vwCl (wM g ad ((if cqB (mT σ) (mS σ) (3 * p0) = true then addQ (mS σ) (tTold (mT σ) (3 * p0).toNatClampNeg) (tTold (mT σ) ((3 * p0) + 1).toNatClampNeg) (tTold (mT σ) ((3 * p0) + 2).toNatClampNeg) else mS σ), (mT σ), (mK σ), (mF σ), (mRow σ), (mRowMany σ), (mLots σ), (mRefused σ))) H := hP
          have hD : va_D (AD ad 0 21) (wM g ad ((if cqB (mT σ) (mS σ) (3 * p0) = true then addQ (mS σ) (tTold (mT σ) (3 * p0).toNatClampNeg) (tTold (mT σ) ((3 * p0) + 1).toNatClampNeg) (tTold (mT σ) ((3 * p0) + 2).toNatClampNeg) else mS σ), (mT σ), (mK σ), (mF σ), (mRow σ), (mRowMany σ), (mLots σ), (mRefused σ))) := hD.addr (by rfl)
          have hn := hv.1
          have hv := hv.2
          exact W.zret (v := (b2i (cqB (mT σ) (mS σ) (3 * p0)))) hx hb hr hn (fun t ht hW => ⟨⟨(b2i (cqB (mT σ) (mS σ) (3 * p0))), ((if cqB (mT σ) (mS σ) (3 * p0) = true then addQ (mS σ) (tTold (mT σ) (3 * p0).toNatClampNeg) (tTold (mT σ) ((3 * p0) + 1).toNatClampNeg) (tTold (mT σ) ((3 * p0) + 2).toNatClampNeg) else mS σ), (mT σ), (mK σ), (mF σ), (mRow σ), (mRowMany σ), (mLots σ), (mRefused σ)), rfl, hv, P_at ht hP⟩, hS.F ht⟩) hS.2.2 dX3_comes_98
        · have hv := hv.2 d10_113
          by_cases d10_119 : ((tLetter (mT σ)) (p0).toNatClampNeg) = 119
          · have hv := hv.1 d10_119
            refine lv_lookup (off := 89) (tgt := 99) hx hb dX3_comes_10 (by decide +kernel) (by rw [d10_119]; decide +kernel) (by decide) ?_
            refine lv_aload_n hx hb dX3_comes_99 rfl (lv_at hl 1 rfl) ?_
            refine lv_iload_n hx hb dX3_comes_100 rfl (lv_at hl 0 rfl) ?_
            have h8 := hv.1
            have hv := hv.2
            have hPc := hP
            have hDc := hD
            refine rw_int (va_runV (As := [.int (3 * p0)]) (rest := []) ⟨hx, hb, hml, hown, hts⟩ (h_X3_comesWitness g ad σ (3 * p0) h8) (cwV 1 hts gX3_comes_X3_comesWitness rfl rfl rfl (by decide +kernel) ⟨Nat.le_of_ble_eq_true rfl, Nat.le_of_ble_eq_true rfl⟩) ⟨RW_blind, va_recv hK hP (ci := 3) (q0 := 0) rfl rfl, fun U hU hW => ⟨rfl, by rw [hU]; exact hPc, va_K.moved hW.alike hK, hE.call hW hU hS (fun _ h => h), hDc⟩⟩ rfl rfl hl.1 rfl (lv_room (Nat.le_of_ble_eq_true rfl)) dX3_comes_101 ⟨Nat.le_of_ble_eq_true rfl, Nat.le_of_ble_eq_true rfl⟩) hS (fun _ h => h) (fun r u H1 locs hw hP1 hk hS => ?_)
            obtain ⟨hw1, hw⟩ := hw; subst r; subst u
            have hP := hP1
            generalize H1 = H at hP hS ⊢
            have hP : va_P (gD g) vwCl (wM g ad ((if cwB (mT σ) (mS σ) (3 * p0) = true then addW (mS σ) (tTold (mT σ) (3 * p0).toNatClampNeg) (tTold (mT σ) ((3 * p0) + 1).toNatClampNeg) (tTold (mT σ) ((3 * p0) + 2).toNatClampNeg) else mS σ), (mT σ), (mK σ), (mF σ), (mRow σ), (mRowMany σ), (mLots σ), (mRefused σ))) H := hP
            have hD : va_D (AD ad 0 21) (wM g ad ((if cwB (mT σ) (mS σ) (3 * p0) = true then addW (mS σ) (tTold (mT σ) (3 * p0).toNatClampNeg) (tTold (mT σ) ((3 * p0) + 1).toNatClampNeg) (tTold (mT σ) ((3 * p0) + 2).toNatClampNeg) else mS σ), (mT σ), (mK σ), (mF σ), (mRow σ), (mRowMany σ), (mLots σ), (mRefused σ))) := hD.addr (by rfl)
            have hn := hv.1
            have hv := hv.2
            exact W.zret (v := (b2i (cwB (mT σ) (mS σ) (3 * p0)))) hx hb hr hn (fun t ht hW => ⟨⟨(b2i (cwB (mT σ) (mS σ) (3 * p0))), ((if cwB (mT σ) (mS σ) (3 * p0) = true then addW (mS σ) (tTold (mT σ) (3 * p0).toNatClampNeg) (tTold (mT σ) ((3 * p0) + 1).toNatClampNeg) (tTold (mT σ) ((3 * p0) + 2).toNatClampNeg) else mS σ), (mT σ), (mK σ), (mF σ), (mRow σ), (mRowMany σ), (mLots σ), (mRefused σ)), rfl, hv, P_at ht hP⟩, hS.F ht⟩) hS.2.2 dX3_comes_104
          · have hv := hv.2 d10_119
            refine lv_lookup (off := 169) (tgt := 179) hx hb dX3_comes_10 (by decide +kernel) (by first | (rw [lv_osw d10_97 (by decide), lv_osw d10_102 (by decide), lv_osw d10_107 (by decide), lv_osw d10_113 (by decide), lv_osw d10_119 (by decide)]; rfl) | (show Op.lookupswitch.offset [(97, 150), (102, 50), (107, 95), (113, 83), (119, 89)] 169 _ = _; rw [lv_osw d10_97 (by decide), lv_osw d10_102 (by decide), lv_osw d10_107 (by decide), lv_osw d10_113 (by decide), lv_osw d10_119 (by decide)]; rfl)) (by decide) ?_
            refine lv_aload_n hx hb dX3_comes_179 rfl (lv_at hl 1 rfl) ?_
            refine lv_iconst (v := 0) hx hb dX3_comes_180 (by decide) ?_
            refine va_put (D := gD g) (ci := 3) (v := .int 0) (ty := .int) (C := RX3) (T := TX3) (N := 33) hx hb hts hi3 tyX3 tyX3_ok nmX3 hown hK hP hD hS 0 rfl rfl 14 (by decide) k4 (fun _ h9 => h9) rfl (by decide +kernel) rfl rfl (Nat.le_of_ble_eq_true rfl) dX3_comes_181 (fun H locs hP hD hS => ?_)
            have hP : va_P (gD g) vwCl (wM g ad (((sCase (mS σ)), (sAsked (mS σ)), (sNq (mS σ)), (sNw (mS σ)), 0, (sForm (mS σ)), (sFirst (mS σ)), (sSecond (mS σ)), (sKind (mS σ)), (sFigure (mS σ)), (sKnows (mS σ)), (sWhom (mS σ)), (sWhat (mS σ)), (sSaid (mS σ)), (sWhen (mS σ))), (mT σ), (mK σ), (mF σ), (mRow σ), (mRowMany σ), (mLots σ), (mRefused σ))) H := hP
            have hD : va_D (AD ad 0 21) (wM g ad (((sCase (mS σ)), (sAsked (mS σ)), (sNq (mS σ)), (sNw (mS σ)), 0, (sForm (mS σ)), (sFirst (mS σ)), (sSecond (mS σ)), (sKind (mS σ)), (sFigure (mS σ)), (sKnows (mS σ)), (sWhom (mS σ)), (sWhat (mS σ)), (sSaid (mS σ)), (sWhen (mS σ))), (mT σ), (mK σ), (mF σ), (mRow σ), (mRowMany σ), (mLots σ), (mRefused σ))) := hD
            refine lv_iconst (v := 1) hx hb dX3_comes_184 (by decide) ?_
            exact W.zret (v := 1) hx hb hr rfl (fun t ht hW => ⟨⟨1, (((sCase (mS σ)), (sAsked (mS σ)), (sNq (mS σ)), (sNw (mS σ)), 0, (sForm (mS σ)), (sFirst (mS σ)), (sSecond (mS σ)), (sKind (mS σ)), (sFigure (mS σ)), (sKnows (mS σ)), (sWhom (mS σ)), (sWhat (mS σ)), (sSaid (mS σ)), (sWhen (mS σ))), (mT σ), (mK σ), (mF σ), (mRow σ), (mRowMany σ), (mLots σ), (mRefused σ)), rfl, hv, P_at ht hP⟩, hS.F ht⟩) hS.2.2 dX3_comes_185

set_option maxHeartbeats 4000000 in
set_option maxRecDepth 100000 in
theorem m_X3_passes_2 (l : Launch)  (g : CX) (ad : Nat → Nat) (σ : KM)  (Post : KM → Prop) (hv : vc_X3_passes_2 σ Post) : Met l yX3_passes wsX3_passes { frames := 0, cells := 0, slots := 0, locals := 0 } (va_Pc [.ref (ad 0), .ref (ad 2)] (RW g (AD ad 0 21) (wM g ad σ))) (va_Qv (fun (u : KM) => Post u) (fun u t => va_P (gD g) vwCl (wM g ad u) t.heap) (AD ad 0 21)) 0 0 (AD ad 0 21) := by
  unfold vc_X3_passes_2 at hv
  refine Met.ofW (cc := cX3_passes) (maxL := 3) (ret := none) (by decide) rfl ?_
  intro p e s m args below meth c s₁ B hml hv0
  obtain ⟨rfl, hP, hK, hE, hD⟩ := hv0
  have hx := B.exec
  have hb := B.bytes
  have hr := B.returns
  have hts := atoms_spec (ws := wsX3_passes) B.pre
  have hown : s.vm.findClass RX3 = some m.cls := findClass_of_methodNamed B.named
  have hlocks := B.notSynchronized
  have hi3 : ∀ w ∈ wsX30, w ∈ wsX3_passes := by decide +kernel
  have k0 := hts (.fieldLink RX3 160 "JuryHearsAnswersModel" "isKeeping" "Z") (by decide +kernel)
  have k1 := hts (.fieldLink RX3 55 "JuryHearsAnswersModel" "kept" "[I") (by decide +kernel)
  have k2 := hts (.fieldLink RX3 164 "JuryHearsAnswersModel" "cursor" "I") (by decide +kernel)
  have hS : va_S (AD ad 0 21) s.heap s.heap [] := va_S.rf
  have hP : va_P (gD g) vwCl (wM g ad σ) s.heap := hP
  have hl := lv_entry ([.ref (ad 0), .ref (ad 2)]) (n := 3) (Nat.le_of_ble_eq_true rfl)
  rw [lg_entry_eq]
  generalize (lg_sl ([.ref (ad 0), .ref (ad 2)]) ++ List.replicate (3 - (lg_sl ([.ref (ad 0), .ref (ad 2)])).length) Slot.unset).toArray = ls at hl ⊢
  have hl : lv_has ls 3 [(0, .ref (ad 0)), (1, .ref (ad 2))] := hl
  have hv := hv (fun (x2 : Int32) (s_K_cur : Int32) (s_K_kept : FI) (s_S_form : FI) => ∀ (H : Heap) (locs : List Loc) (ls : Array Slot), va_P (gD g) vwCl (wM g ad (((sCase (mS σ)), (sAsked (mS σ)), (sNq (mS σ)), (sNw (mS σ)), (sNh (mS σ)), s_S_form, (sFirst (mS σ)), (sSecond (mS σ)), (sKind (mS σ)), (sFigure (mS σ)), (sKnows (mS σ)), (sWhom (mS σ)), (sWhat (mS σ)), (sSaid (mS σ)), (sWhen (mS σ))), (mT σ), (s_K_kept, (kHas (mK σ)), (kKeep (mK σ)), s_K_cur), (mF σ), (mRow σ), (mRowMany σ), (mLots σ), (mRefused σ))) H → va_D (AD ad 0 21) (wM g ad (((sCase (mS σ)), (sAsked (mS σ)), (sNq (mS σ)), (sNw (mS σ)), (sNh (mS σ)), s_S_form, (sFirst (mS σ)), (sSecond (mS σ)), (sKind (mS σ)), (sFigure (mS σ)), (sKnows (mS σ)), (sWhom (mS σ)), (sWhat (mS σ)), (sSaid (mS σ)), (sWhen (mS σ))), (mT σ), (s_K_kept, (kHas (mK σ)), (kKeep (mK σ)), s_K_cur), (mF σ), (mRow σ), (mRowMany σ), (mLots σ), (mRefused σ))) → va_S (AD ad 0 21) s.heap H locs → lv_has ls 3 [(0, .ref (ad 0)), (1, .ref (ad 2)), (2, .int x2)] → W p l e { frames := 0, cells := 0, slots := 0, locals := 0 } s m ([.ref (ad 0), .ref (ad 2)] : List Value).toArray below meth c H locs 0 0 (MQ below (va_Qv (fun (u : KM) => Post u) (fun u t => va_P (gD g) vwCl (wM g ad u) t.heap) (AD ad 0 21)) ([.ref (ad 0), .ref (ad 2)] : List Value).toArray s 0 0 (AD ad 0 21)) (F0 m 2 ls []))
  have hv := hv (by
    intro x2 s_K_cur s_K_kept s_S_form hv H locs ls hP hD hS hl
    refine lv_iload_n hx hb dX3_passes_2 rfl (lv_at hl 2 rfl) ?_
    refine lv_aload_n hx hb dX3_passes_3 rfl (lv_at hl 1 rfl) ?_
    refine va_alen (v := 8) hx hb hK hP 2 rfl (t0 := 0) rfl rfl dX3_passes_4 ?_
    refine lv_icmp_ge (tgt := 58) hx hb dX3_passes_5 (by decide) (fun c5 => ?_) (fun c5 => ?_)
    · have hv := hv.1 c5
      exact W.vret hx hb hr (fun t ht hW => ⟨⟨(((sCase (mS σ)), (sAsked (mS σ)), (sNq (mS σ)), (sNw (mS σ)), (sNh (mS σ)), s_S_form, (sFirst (mS σ)), (sSecond (mS σ)), (sKind (mS σ)), (sFigure (mS σ)), (sKnows (mS σ)), (sWhom (mS σ)), (sWhat (mS σ)), (sSaid (mS σ)), (sWhen (mS σ))), (mT σ), (s_K_kept, (kHas (mK σ)), (kKeep (mK σ)), s_K_cur), (mF σ), (mRow σ), (mRowMany σ), (mLots σ), (mRefused σ)), rfl, hv, P_at ht hP⟩, hS.F ht⟩) hS.2.2 dX3_passes_58
    · have hv := hv.2 c5
      refine lv_aload_n hx hb dX3_passes_8 rfl (lv_at hl 0 rfl) ?_
      refine va_get (D := gD g) (ci := 3) (v := .int (kKeep (mK σ))) (C := RX3) (T := TX3) (N := 33) hx hb hts hi3 hown hK hP 0 rfl rfl 25 (by decide) k0 (fun _ h9 => h9) rfl dX3_passes_9 ?_
      refine lv_if_eq (tgt := 30) hx hb dX3_passes_12 (by decide) (fun c12 => ?_) (fun c12 => ?_)
      · have hv := hv.1 c12
        refine lv_aload_n hx hb dX3_passes_30 rfl (lv_at hl 1 rfl) ?_
        refine lv_iload_n hx hb dX3_passes_31 rfl (lv_at hl 2 rfl) ?_
        refine lv_aload_n hx hb dX3_passes_32 rfl (lv_at hl 0 rfl) ?_
        refine va_get (D := gD g) (ci := 3) (v := .ref (ad 16)) (C := RX3) (T := TX3) (N := 33) hx hb hts hi3 hown hK hP 0 rfl rfl 23 (by decide) k1 (fun _ h9 => h9) rfl dX3_passes_33 ?_
        refine lv_aload_n hx hb dX3_passes_36 rfl (lv_at hl 0 rfl) ?_
        refine va_get (D := gD g) (ci := 3) (v := .int s_K_cur) (C := RX3) (T := TX3) (N := 33) hx hb hts hi3 hown hK hP 0 rfl rfl 26 (by decide) k2 (fun _ h9 => h9) rfl dX3_passes_37 ?_
        have h9 := hv.1
        have hv := hv.2
        refine va_iald (f := s_K_kept) (n := 276) hx hb hK hP 16 0 rfl rfl h9 dX3_passes_40 ?_
        have h9 := hv.1
        have hv := hv.2
        refine va_iast (f := s_S_form) (n := 8) hx hb hK hP hD hS 2 0 rfl rfl h9 dX3_passes_41 (fun H locs hP hD hS => ?_)
        have hP : va_P (gD g) vwCl (wM g ad (((sCase (mS σ)), (sAsked (mS σ)), (sNq (mS σ)), (sNw (mS σ)), (sNh (mS σ)), (upd s_S_form (x2).toNatClampNeg (s_K_kept (s_K_cur).toNatClampNeg)), (sFirst (mS σ)), (sSecond (mS σ)), (sKind (mS σ)), (sFigure (mS σ)), (sKnows (mS σ)), (sWhom (mS σ)), (sWhat (mS σ)), (sSaid (mS σ)), (sWhen (mS σ))), (mT σ), (s_K_kept, (kHas (mK σ)), (kKeep (mK σ)), s_K_cur), (mF σ), (mRow σ), (mRowMany σ), (mLots σ), (mRefused σ))) H := hP
        have hD : va_D (AD ad 0 21) (wM g ad (((sCase (mS σ)), (sAsked (mS σ)), (sNq (mS σ)), (sNw (mS σ)), (sNh (mS σ)), (upd s_S_form (x2).toNatClampNeg (s_K_kept (s_K_cur).toNatClampNeg)), (sFirst (mS σ)), (sSecond (mS σ)), (sKind (mS σ)), (sFigure (mS σ)), (sKnows (mS σ)), (sWhom (mS σ)), (sWhat (mS σ)), (sSaid (mS σ)), (sWhen (mS σ))), (mT σ), (s_K_kept, (kHas (mK σ)), (kKeep (mK σ)), s_K_cur), (mF σ), (mRow σ), (mRowMany σ), (mLots σ), (mRefused σ))) := hD
        refine lv_aload_n hx hb dX3_passes_42 rfl (lv_at hl 0 rfl) ?_
        refine lv_dup hx hb dX3_passes_43 rfl ?_
        refine va_get (D := gD g) (ci := 3) (v := .int s_K_cur) (C := RX3) (T := TX3) (N := 33) hx hb hts hi3 hown hK hP 0 rfl rfl 26 (by decide) k2 (fun _ h9 => h9) rfl dX3_passes_44 ?_
        refine lv_iconst (v := 1) hx hb dX3_passes_47 (by decide) ?_
        refine lv_iadd hx hb dX3_passes_48 ?_
        refine va_put (D := gD g) (ci := 3) (v := .int (s_K_cur + 1)) (ty := .int) (C := RX3) (T := TX3) (N := 33) hx hb hts hi3 tyX3 tyX3_ok nmX3 hown hK hP hD hS 0 rfl rfl 26 (by decide) k2 (fun _ h9 => h9) rfl (by decide +kernel) rfl rfl (Nat.le_of_ble_eq_true rfl) dX3_passes_49 (fun H locs hP hD hS => ?_)
        have hP : va_P (gD g) vwCl (wM g ad (((sCase (mS σ)), (sAsked (mS σ)), (sNq (mS σ)), (sNw (mS σ)), (sNh (mS σ)), (upd s_S_form (x2).toNatClampNeg (s_K_kept (s_K_cur).toNatClampNeg)), (sFirst (mS σ)), (sSecond (mS σ)), (sKind (mS σ)), (sFigure (mS σ)), (sKnows (mS σ)), (sWhom (mS σ)), (sWhat (mS σ)), (sSaid (mS σ)), (sWhen (mS σ))), (mT σ), (s_K_kept, (kHas (mK σ)), (kKeep (mK σ)), (s_K_cur + 1)), (mF σ), (mRow σ), (mRowMany σ), (mLots σ), (mRefused σ))) H := hP
        have hD : va_D (AD ad 0 21) (wM g ad (((sCase (mS σ)), (sAsked (mS σ)), (sNq (mS σ)), (sNw (mS σ)), (sNh (mS σ)), (upd s_S_form (x2).toNatClampNeg (s_K_kept (s_K_cur).toNatClampNeg)), (sFirst (mS σ)), (sSecond (mS σ)), (sKind (mS σ)), (sFigure (mS σ)), (sKnows (mS σ)), (sWhom (mS σ)), (sWhat (mS σ)), (sSaid (mS σ)), (sWhen (mS σ))), (mT σ), (s_K_kept, (kHas (mK σ)), (kKeep (mK σ)), (s_K_cur + 1)), (mF σ), (mRow σ), (mRowMany σ), (mLots σ), (mRefused σ))) := hD
        refine lv_iinc (v := (x2 + 1)) (lv' := [(2, .int (x2 + 1)), (0, .ref (ad 0)), (1, .ref (ad 2))]) hx hb dX3_passes_52 hl (k := 2) rfl (by first | rfl | exact congrArg _ (by decide)) (by decide) rfl (fun ls hl => ?_)
        refine lv_goto (tgt := 2) hx hb dX3_passes_55 (by decide) ?_
        exact hv H locs ls hP hD hS (lv_sub hl [1, 2, 0] rfl)
      · have hv := hv.2 c12
        refine lv_aload_n hx hb dX3_passes_15 rfl (lv_at hl 0 rfl) ?_
        refine va_get (D := gD g) (ci := 3) (v := .ref (ad 16)) (C := RX3) (T := TX3) (N := 33) hx hb hts hi3 hown hK hP 0 rfl rfl 23 (by decide) k1 (fun _ h9 => h9) rfl dX3_passes_16 ?_
        refine lv_aload_n hx hb dX3_passes_19 rfl (lv_at hl 0 rfl) ?_
        refine va_get (D := gD g) (ci := 3) (v := .int s_K_cur) (C := RX3) (T := TX3) (N := 33) hx hb hts hi3 hown hK hP 0 rfl rfl 26 (by decide) k2 (fun _ h9 => h9) rfl dX3_passes_20 ?_
        refine lv_aload_n hx hb dX3_passes_23 rfl (lv_at hl 1 rfl) ?_
        refine lv_iload_n hx hb dX3_passes_24 rfl (lv_at hl 2 rfl) ?_
        have h9 := hv.1
        have hv := hv.2
        refine va_iald (f := s_S_form) (n := 8) hx hb hK hP 2 0 rfl rfl h9 dX3_passes_25 ?_
        have h9 := hv.1
        have hv := hv.2
        refine va_iast (f := s_K_kept) (n := 276) hx hb hK hP hD hS 16 0 rfl rfl h9 dX3_passes_26 (fun H locs hP hD hS => ?_)
        have hP : va_P (gD g) vwCl (wM g ad (((sCase (mS σ)), (sAsked (mS σ)), (sNq (mS σ)), (sNw (mS σ)), (sNh (mS σ)), s_S_form, (sFirst (mS σ)), (sSecond (mS σ)), (sKind (mS σ)), (sFigure (mS σ)), (sKnows (mS σ)), (sWhom (mS σ)), (sWhat (mS σ)), (sSaid (mS σ)), (sWhen (mS σ))), (mT σ), ((upd s_K_kept (s_K_cur).toNatClampNeg (s_S_form (x2).toNatClampNeg)), (kHas (mK σ)), (kKeep (mK σ)), s_K_cur), (mF σ), (mRow σ), (mRowMany σ), (mLots σ), (mRefused σ))) H := hP
        have hD : va_D (AD ad 0 21) (wM g ad (((sCase (mS σ)), (sAsked (mS σ)), (sNq (mS σ)), (sNw (mS σ)), (sNh (mS σ)), s_S_form, (sFirst (mS σ)), (sSecond (mS σ)), (sKind (mS σ)), (sFigure (mS σ)), (sKnows (mS σ)), (sWhom (mS σ)), (sWhat (mS σ)), (sSaid (mS σ)), (sWhen (mS σ))), (mT σ), ((upd s_K_kept (s_K_cur).toNatClampNeg (s_S_form (x2).toNatClampNeg)), (kHas (mK σ)), (kKeep (mK σ)), s_K_cur), (mF σ), (mRow σ), (mRowMany σ), (mLots σ), (mRefused σ))) := hD
        refine lv_goto (tgt := 42) hx hb dX3_passes_27 (by decide) ?_
        refine lv_aload_n hx hb dX3_passes_42 rfl (lv_at hl 0 rfl) ?_
        refine lv_dup hx hb dX3_passes_43 rfl ?_
        refine va_get (D := gD g) (ci := 3) (v := .int s_K_cur) (C := RX3) (T := TX3) (N := 33) hx hb hts hi3 hown hK hP 0 rfl rfl 26 (by decide) k2 (fun _ h9 => h9) rfl dX3_passes_44 ?_
        refine lv_iconst (v := 1) hx hb dX3_passes_47 (by decide) ?_
        refine lv_iadd hx hb dX3_passes_48 ?_
        refine va_put (D := gD g) (ci := 3) (v := .int (s_K_cur + 1)) (ty := .int) (C := RX3) (T := TX3) (N := 33) hx hb hts hi3 tyX3 tyX3_ok nmX3 hown hK hP hD hS 0 rfl rfl 26 (by decide) k2 (fun _ h9 => h9) rfl (by decide +kernel) rfl rfl (Nat.le_of_ble_eq_true rfl) dX3_passes_49 (fun H locs hP hD hS => ?_)
        have hP : va_P (gD g) vwCl (wM g ad (((sCase (mS σ)), (sAsked (mS σ)), (sNq (mS σ)), (sNw (mS σ)), (sNh (mS σ)), s_S_form, (sFirst (mS σ)), (sSecond (mS σ)), (sKind (mS σ)), (sFigure (mS σ)), (sKnows (mS σ)), (sWhom (mS σ)), (sWhat (mS σ)), (sSaid (mS σ)), (sWhen (mS σ))), (mT σ), ((upd s_K_kept (s_K_cur).toNatClampNeg (s_S_form (x2).toNatClampNeg)), (kHas (mK σ)), (kKeep (mK σ)), (s_K_cur + 1)), (mF σ), (mRow σ), (mRowMany σ), (mLots σ), (mRefused σ))) H := hP
        have hD : va_D (AD ad 0 21) (wM g ad (((sCase (mS σ)), (sAsked (mS σ)), (sNq (mS σ)), (sNw (mS σ)), (sNh (mS σ)), s_S_form, (sFirst (mS σ)), (sSecond (mS σ)), (sKind (mS σ)), (sFigure (mS σ)), (sKnows (mS σ)), (sWhom (mS σ)), (sWhat (mS σ)), (sSaid (mS σ)), (sWhen (mS σ))), (mT σ), ((upd s_K_kept (s_K_cur).toNatClampNeg (s_S_form (x2).toNatClampNeg)), (kHas (mK σ)), (kKeep (mK σ)), (s_K_cur + 1)), (mF σ), (mRow σ), (mRowMany σ), (mLots σ), (mRefused σ))) := hD
        refine lv_iinc (v := (x2 + 1)) (lv' := [(2, .int (x2 + 1)), (0, .ref (ad 0)), (1, .ref (ad 2))]) hx hb dX3_passes_52 hl (k := 2) rfl (by first | rfl | exact congrArg _ (by decide)) (by decide) rfl (fun ls hl => ?_)
        refine lv_goto (tgt := 2) hx hb dX3_passes_55 (by decide) ?_
        exact hv H locs ls hP hD hS (lv_sub hl [1, 2, 0] rfl))
  obtain ⟨H, hH⟩ : ∃ z, z = s.heap := ⟨_, rfl⟩
  obtain ⟨locs, hL⟩ : ∃ z : List Loc, z = [] := ⟨_, rfl⟩
  rw [← hL] at hS ⊢
  have hS : va_S (AD ad 0 21) s.heap H locs := by rw [hH]; exact hS
  rw [← hH] at hP ⊢
  clear hH hL
  refine lv_iconst (v := 0) hx hb dX3_passes_0 (by decide) ?_
  refine lv_istore_n (lv' := [(2, .int 0), (0, .ref (ad 0)), (1, .ref (ad 2))]) hx hb dX3_passes_1 rfl hl (by decide) rfl (fun ls hl => ?_)
  exact hv H locs ls hP hD hS (lv_sub hl [1, 2, 0] rfl)

