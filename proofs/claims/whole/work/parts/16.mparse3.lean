set_option maxHeartbeats 4000000 in
set_option maxRecDepth 100000 in
theorem m_X3_statement (l : Launch) (h_X3_next : C_X3_next l) (h_X3_readsAll : C_X3_readsAll l) (g : CX) (ad : Nat → Nat) (σ : KM)  (Post : Int32 → KM → Prop) (hv : vc_X3_statement σ Post) : Met l yX3_statement wsX3_statement { frames := 4, cells := 0, slots := 0, locals := 89 } (va_Pc [.ref (ad 0)] (RW g (AD ad 0 21) (wM g ad σ))) (va_Qi (fun (r : Int32) (u : KM) => Post r u) (fun u t => va_P (gD g) vwCl (wM g ad u) t.heap) (AD ad 0 21)) 0 0 (AD ad 0 21) := by
  unfold vc_X3_statement at hv
  refine Met.ofW (cc := cX3_statement) (maxL := 2) (ret := (some .boolean)) (by decide) rfl ?_
  intro p e s m args below meth c s₁ B hml hv0
  obtain ⟨rfl, hP, hK, hE, hD⟩ := hv0
  have hx := B.exec
  have hb := B.bytes
  have hr := B.returns
  have hts := atoms_spec (ws := wsX3_statement) B.pre
  have hown : s.vm.findClass RX3 = some m.cls := findClass_of_methodNamed B.named
  have hlocks := B.notSynchronized
  have hi3 : ∀ w ∈ wsX30, w ∈ wsX3_statement := by decide +kernel
  have k0 := hts (.fieldLink RX3 46 "JuryHearsAnswersModel" "letter" "[I") (by decide +kernel)
  have k1 := hts (.fieldLink RX3 112 "JuryHearsAnswersModel" "statements" "I") (by decide +kernel)
  have k2 := hts (.fieldLink RX3 49 "JuryHearsAnswersModel" "letterAt" "[I") (by decide +kernel)
  have k3 := hts (.fieldLink RX3 90 "JuryHearsAnswersModel" "at" "I") (by decide +kernel)
  have hS : va_S (AD ad 0 21) s.heap s.heap [] := va_S.rf
  have hP : va_P (gD g) vwCl (wM g ad σ) s.heap := hP
  have hl := lv_entry ([.ref (ad 0)]) (n := 2) (Nat.le_of_ble_eq_true rfl)
  rw [lg_entry_eq]
  generalize (lg_sl ([.ref (ad 0)]) ++ List.replicate (2 - (lg_sl ([.ref (ad 0)])).length) Slot.unset).toArray = ls at hl ⊢
  have hl : lv_has ls 2 [(0, .ref (ad 0))] := hl
  obtain ⟨H, hH⟩ : ∃ z, z = s.heap := ⟨_, rfl⟩
  obtain ⟨locs, hL⟩ : ∃ z : List Loc, z = [] := ⟨_, rfl⟩
  rw [← hL] at hS ⊢
  have hS : va_S (AD ad 0 21) s.heap H locs := by rw [hH]; exact hS
  rw [← hH] at hP ⊢
  clear hH hL
  refine lv_aload_n hx hb dX3_statement_0 rfl (lv_at hl 0 rfl) ?_
  have h8 := hv.1
  have hv := hv.2
  have hPc := hP
  refine ro_int (va_runV (As := []) (rest := []) ⟨hx, hb, hml, hown, hts⟩ (h_X3_next g ad σ h8) (cwV 0 hts gX3_statement_X3_next rfl rfl rfl (by decide +kernel) ⟨Nat.le_of_ble_eq_true rfl, Nat.le_of_ble_eq_true rfl⟩) ⟨RO_blind, va_recv hK hP (ci := 3) (q0 := 0) rfl rfl, fun U hU hW => ⟨rfl, by rw [hU]; exact hPc, va_K.moved hW.alike hK, hE.call hW hU hS (fun _ h => h.elim)⟩⟩ rfl rfl hl.1 rfl (lv_room (Nat.le_of_ble_eq_true rfl)) dX3_statement_1 ⟨Nat.le_of_ble_eq_true rfl, Nat.le_of_ble_eq_true rfl⟩) hS hP (fun r H locs hw hP hS => ?_)
  subst r
  refine lv_istore_n (lv' := [(1, .int (nxt (mT σ) (tAt (mT σ)))), (0, .ref (ad 0))]) hx hb dX3_statement_4 rfl hl (by decide) rfl (fun ls hl => ?_)
  refine lv_iload_n hx hb dX3_statement_5 rfl (lv_at hl 0 rfl) ?_
  refine lv_bipush (v := 102) hx hb dX3_statement_6 (by decide) ?_
  refine lv_icmp_eq (tgt := 43) hx hb dX3_statement_8 (by decide) (fun c8 => ?_) (fun c8 => ?_)
  · have hv := hv.1 c8
    refine lv_aload_n hx hb dX3_statement_43 rfl (lv_at hl 1 rfl) ?_
    refine va_get (D := gD g) (ci := 3) (v := .ref (ad 13)) (C := RX3) (T := TX3) (N := 33) hx hb hts hi3 hown hK hP 0 rfl rfl 17 (by decide) k0 (fun _ h9 => h9) rfl dX3_statement_44 ?_
    refine lv_aload_n hx hb dX3_statement_47 rfl (lv_at hl 1 rfl) ?_
    refine va_get (D := gD g) (ci := 3) (v := .int (tStm (mT σ))) (C := RX3) (T := TX3) (N := 33) hx hb hts hi3 hown hK hP 0 rfl rfl 22 (by decide) k1 (fun _ h9 => h9) rfl dX3_statement_48 ?_
    refine lv_iload_n hx hb dX3_statement_51 rfl (lv_at hl 0 rfl) ?_
    have h9 := hv.1
    have hv := hv.2
    refine va_iast (f := (tLetter (mT σ))) (n := 48) hx hb hK hP hD hS 13 0 rfl rfl h9 dX3_statement_52 (fun H locs hP hD hS => ?_)
    have hP : va_P (gD g) vwCl (wM g ad ((mS σ), ((tTape (mT σ)), (upd (tLetter (mT σ)) ((tStm (mT σ))).toNatClampNeg (nxt (mT σ) (tAt (mT σ)))), (tLetterAt (mT σ)), (tTold (mT σ)), (tTaped (mT σ)), (tAt (mT σ)), (tStm (mT σ))), (mK σ), (mF σ), (mRow σ), (mRowMany σ), (mLots σ), (mRefused σ))) H := hP
    have hD : va_D (AD ad 0 21) (wM g ad ((mS σ), ((tTape (mT σ)), (upd (tLetter (mT σ)) ((tStm (mT σ))).toNatClampNeg (nxt (mT σ) (tAt (mT σ)))), (tLetterAt (mT σ)), (tTold (mT σ)), (tTaped (mT σ)), (tAt (mT σ)), (tStm (mT σ))), (mK σ), (mF σ), (mRow σ), (mRowMany σ), (mLots σ), (mRefused σ))) := hD
    refine lv_aload_n hx hb dX3_statement_53 rfl (lv_at hl 1 rfl) ?_
    refine va_get (D := gD g) (ci := 3) (v := .ref (ad 14)) (C := RX3) (T := TX3) (N := 33) hx hb hts hi3 hown hK hP 0 rfl rfl 18 (by decide) k2 (fun _ h9 => h9) rfl dX3_statement_54 ?_
    refine lv_aload_n hx hb dX3_statement_57 rfl (lv_at hl 1 rfl) ?_
    refine va_get (D := gD g) (ci := 3) (v := .int (tStm (mT σ))) (C := RX3) (T := TX3) (N := 33) hx hb hts hi3 hown hK hP 0 rfl rfl 22 (by decide) k1 (fun _ h9 => h9) rfl dX3_statement_58 ?_
    refine lv_aload_n hx hb dX3_statement_61 rfl (lv_at hl 1 rfl) ?_
    refine va_get (D := gD g) (ci := 3) (v := .int (tAt (mT σ))) (C := RX3) (T := TX3) (N := 33) hx hb hts hi3 hown hK hP 0 rfl rfl 21 (by decide) k3 (fun _ h9 => h9) rfl dX3_statement_62 ?_
    have h9 := hv.1
    have hv := hv.2
    refine va_iast (f := (tLetterAt (mT σ))) (n := 48) hx hb hK hP hD hS 14 0 rfl rfl h9 dX3_statement_65 (fun H locs hP hD hS => ?_)
    have hP : va_P (gD g) vwCl (wM g ad ((mS σ), ((tTape (mT σ)), (upd (tLetter (mT σ)) ((tStm (mT σ))).toNatClampNeg (nxt (mT σ) (tAt (mT σ)))), (upd (tLetterAt (mT σ)) ((tStm (mT σ))).toNatClampNeg (tAt (mT σ))), (tTold (mT σ)), (tTaped (mT σ)), (tAt (mT σ)), (tStm (mT σ))), (mK σ), (mF σ), (mRow σ), (mRowMany σ), (mLots σ), (mRefused σ))) H := hP
    have hD : va_D (AD ad 0 21) (wM g ad ((mS σ), ((tTape (mT σ)), (upd (tLetter (mT σ)) ((tStm (mT σ))).toNatClampNeg (nxt (mT σ) (tAt (mT σ)))), (upd (tLetterAt (mT σ)) ((tStm (mT σ))).toNatClampNeg (tAt (mT σ))), (tTold (mT σ)), (tTaped (mT σ)), (tAt (mT σ)), (tStm (mT σ))), (mK σ), (mF σ), (mRow σ), (mRowMany σ), (mLots σ), (mRefused σ))) := hD
    refine lv_aload_n hx hb dX3_statement_66 rfl (lv_at hl 1 rfl) ?_
    refine lv_dup hx hb dX3_statement_67 rfl ?_
    refine va_get (D := gD g) (ci := 3) (v := .int (tAt (mT σ))) (C := RX3) (T := TX3) (N := 33) hx hb hts hi3 hown hK hP 0 rfl rfl 21 (by decide) k3 (fun _ h9 => h9) rfl dX3_statement_68 ?_
    refine lv_iconst (v := 1) hx hb dX3_statement_71 (by decide) ?_
    refine lv_iadd hx hb dX3_statement_72 ?_
    refine va_put (D := gD g) (ci := 3) (v := .int ((tAt (mT σ)) + 1)) (ty := .int) (C := RX3) (T := TX3) (N := 33) hx hb hts hi3 tyX3 tyX3_ok nmX3 hown hK hP hD hS 0 rfl rfl 21 (by decide) k3 (fun _ h9 => h9) rfl (by decide +kernel) rfl rfl (Nat.le_of_ble_eq_true rfl) dX3_statement_73 (fun H locs hP hD hS => ?_)
    have hP : va_P (gD g) vwCl (wM g ad ((mS σ), ((tTape (mT σ)), (upd (tLetter (mT σ)) ((tStm (mT σ))).toNatClampNeg (nxt (mT σ) (tAt (mT σ)))), (upd (tLetterAt (mT σ)) ((tStm (mT σ))).toNatClampNeg (tAt (mT σ))), (tTold (mT σ)), (tTaped (mT σ)), ((tAt (mT σ)) + 1), (tStm (mT σ))), (mK σ), (mF σ), (mRow σ), (mRowMany σ), (mLots σ), (mRefused σ))) H := hP
    have hD : va_D (AD ad 0 21) (wM g ad ((mS σ), ((tTape (mT σ)), (upd (tLetter (mT σ)) ((tStm (mT σ))).toNatClampNeg (nxt (mT σ) (tAt (mT σ)))), (upd (tLetterAt (mT σ)) ((tStm (mT σ))).toNatClampNeg (tAt (mT σ))), (tTold (mT σ)), (tTaped (mT σ)), ((tAt (mT σ)) + 1), (tStm (mT σ))), (mK σ), (mF σ), (mRow σ), (mRowMany σ), (mLots σ), (mRefused σ))) := hD
    refine lv_aload_n hx hb dX3_statement_76 rfl (lv_at hl 1 rfl) ?_
    refine lv_iload_n hx hb dX3_statement_77 rfl (lv_at hl 0 rfl) ?_
    refine lv_iconst (v := 3) hx hb dX3_statement_78 (by decide) ?_
    refine lv_aload_n hx hb dX3_statement_79 rfl (lv_at hl 1 rfl) ?_
    refine va_get (D := gD g) (ci := 3) (v := .int (tStm (mT σ))) (C := RX3) (T := TX3) (N := 33) hx hb hts hi3 hown hK hP 0 rfl rfl 22 (by decide) k1 (fun _ h9 => h9) rfl dX3_statement_80 ?_
    refine lv_imul hx hb dX3_statement_83 ?_
    have h8 := hv.1
    have hv := hv.2
    have hPc := hP
    have hDc := hD
    refine rw_int (va_runV (As := [.int (nxt (mT σ) (tAt (mT σ))), .int (3 * (tStm (mT σ)))]) (rest := []) ⟨hx, hb, hml, hown, hts⟩ (h_X3_readsAll g ad ((mS σ), ((tTape (mT σ)), (upd (tLetter (mT σ)) ((tStm (mT σ))).toNatClampNeg (nxt (mT σ) (tAt (mT σ)))), (upd (tLetterAt (mT σ)) ((tStm (mT σ))).toNatClampNeg (tAt (mT σ))), (tTold (mT σ)), (tTaped (mT σ)), ((tAt (mT σ)) + 1), (tStm (mT σ))), (mK σ), (mF σ), (mRow σ), (mRowMany σ), (mLots σ), (mRefused σ)) (nxt (mT σ) (tAt (mT σ))) (3 * (tStm (mT σ))) h8) (cwV 2 hts gX3_statement_X3_readsAll rfl rfl rfl (by decide +kernel) ⟨Nat.le_of_ble_eq_true rfl, Nat.le_of_ble_eq_true rfl⟩) ⟨RW_blind, va_recv hK hP (ci := 3) (q0 := 0) rfl rfl, fun U hU hW => ⟨rfl, by rw [hU]; exact hPc, va_K.moved hW.alike hK, hE.call hW hU hS (fun _ h => h), hDc⟩⟩ rfl rfl hl.1 rfl (lv_room (Nat.le_of_ble_eq_true rfl)) dX3_statement_84 ⟨Nat.le_of_ble_eq_true rfl, Nat.le_of_ble_eq_true rfl⟩) hS (fun _ h => h) (fun r u84 H1 locs hw hP1 hk hS => ?_)
    obtain ⟨hw1, hw⟩ := hw; subst r
    have hv := hv u84 hw
    have hP := hP1
    generalize H1 = H at hP hS ⊢
    have hP : va_P (gD g) vwCl (wM g ad u84) H := hP
    have hD : va_D (AD ad 0 21) (wM g ad u84) := hD.addr (by rfl)
    refine lv_if_eq (tgt := 99) hx hb dX3_statement_87 (by decide) (fun c87 => ?_) (fun c87 => ?_)
    · have hv := hv.1 c87
      refine lv_iconst (v := 0) hx hb dX3_statement_99 (by decide) ?_
      exact W.zret (v := 0) hx hb hr rfl (fun t ht hW => ⟨⟨0, u84, rfl, hv, P_at ht hP⟩, hS.F ht⟩) hS.2.2 dX3_statement_100
    · have hv := hv.2 c87
      refine lv_aload_n hx hb dX3_statement_90 rfl (lv_at hl 1 rfl) ?_
      have h8 := hv.1
      have hv := hv.2
      have hPc := hP
      refine ro_int (va_runV (As := []) (rest := []) ⟨hx, hb, hml, hown, hts⟩ (h_X3_next g ad u84 h8) (cwV 0 hts gX3_statement_X3_next rfl rfl rfl (by decide +kernel) ⟨Nat.le_of_ble_eq_true rfl, Nat.le_of_ble_eq_true rfl⟩) ⟨RO_blind, va_recv hK hP (ci := 3) (q0 := 0) rfl rfl, fun U hU hW => ⟨rfl, by rw [hU]; exact hPc, va_K.moved hW.alike hK, hE.call hW hU hS (fun _ h => h.elim)⟩⟩ rfl rfl hl.1 rfl (lv_room (Nat.le_of_ble_eq_true rfl)) dX3_statement_91 ⟨Nat.le_of_ble_eq_true rfl, Nat.le_of_ble_eq_true rfl⟩) hS hP (fun r H locs hw hP hS => ?_)
      subst r
      refine lv_bipush (v := 59) hx hb dX3_statement_94 (by decide) ?_
      refine lv_icmp_eq (tgt := 101) hx hb dX3_statement_96 (by decide) (fun c96 => ?_) (fun c96 => ?_)
      · have hv := hv.1 c96
        refine lv_aload_n hx hb dX3_statement_101 rfl (lv_at hl 1 rfl) ?_
        refine lv_dup hx hb dX3_statement_102 rfl ?_
        refine va_get (D := gD g) (ci := 3) (v := .int (tAt (mT u84))) (C := RX3) (T := TX3) (N := 33) hx hb hts hi3 hown hK hP 0 rfl rfl 21 (by decide) k3 (fun _ h9 => h9) rfl dX3_statement_103 ?_
        refine lv_iconst (v := 1) hx hb dX3_statement_106 (by decide) ?_
        refine lv_iadd hx hb dX3_statement_107 ?_
        refine va_put (D := gD g) (ci := 3) (v := .int ((tAt (mT u84)) + 1)) (ty := .int) (C := RX3) (T := TX3) (N := 33) hx hb hts hi3 tyX3 tyX3_ok nmX3 hown hK hP hD hS 0 rfl rfl 21 (by decide) k3 (fun _ h9 => h9) rfl (by decide +kernel) rfl rfl (Nat.le_of_ble_eq_true rfl) dX3_statement_108 (fun H locs hP hD hS => ?_)
        have hP : va_P (gD g) vwCl (wM g ad ((mS u84), ((tTape (mT u84)), (tLetter (mT u84)), (tLetterAt (mT u84)), (tTold (mT u84)), (tTaped (mT u84)), ((tAt (mT u84)) + 1), (tStm (mT u84))), (mK u84), (mF u84), (mRow u84), (mRowMany u84), (mLots u84), (mRefused u84))) H := hP
        have hD : va_D (AD ad 0 21) (wM g ad ((mS u84), ((tTape (mT u84)), (tLetter (mT u84)), (tLetterAt (mT u84)), (tTold (mT u84)), (tTaped (mT u84)), ((tAt (mT u84)) + 1), (tStm (mT u84))), (mK u84), (mF u84), (mRow u84), (mRowMany u84), (mLots u84), (mRefused u84))) := hD
        refine lv_iconst (v := 1) hx hb dX3_statement_111 (by decide) ?_
        exact W.zret (v := 1) hx hb hr rfl (fun t ht hW => ⟨⟨1, ((mS u84), ((tTape (mT u84)), (tLetter (mT u84)), (tLetterAt (mT u84)), (tTold (mT u84)), (tTaped (mT u84)), ((tAt (mT u84)) + 1), (tStm (mT u84))), (mK u84), (mF u84), (mRow u84), (mRowMany u84), (mLots u84), (mRefused u84)), rfl, hv, P_at ht hP⟩, hS.F ht⟩) hS.2.2 dX3_statement_112
      · have hv := hv.2 c96
        refine lv_iconst (v := 0) hx hb dX3_statement_99 (by decide) ?_
        exact W.zret (v := 0) hx hb hr rfl (fun t ht hW => ⟨⟨0, u84, rfl, hv, P_at ht hP⟩, hS.F ht⟩) hS.2.2 dX3_statement_100
  · have hv := hv.2 c8
    refine lv_iload_n hx hb dX3_statement_11 rfl (lv_at hl 0 rfl) ?_
    refine lv_bipush (v := 113) hx hb dX3_statement_12 (by decide) ?_
    refine lv_icmp_eq (tgt := 43) hx hb dX3_statement_14 (by decide) (fun c14 => ?_) (fun c14 => ?_)
    · have hv := hv.1 c14
      refine lv_aload_n hx hb dX3_statement_43 rfl (lv_at hl 1 rfl) ?_
      refine va_get (D := gD g) (ci := 3) (v := .ref (ad 13)) (C := RX3) (T := TX3) (N := 33) hx hb hts hi3 hown hK hP 0 rfl rfl 17 (by decide) k0 (fun _ h9 => h9) rfl dX3_statement_44 ?_
      refine lv_aload_n hx hb dX3_statement_47 rfl (lv_at hl 1 rfl) ?_
      refine va_get (D := gD g) (ci := 3) (v := .int (tStm (mT σ))) (C := RX3) (T := TX3) (N := 33) hx hb hts hi3 hown hK hP 0 rfl rfl 22 (by decide) k1 (fun _ h9 => h9) rfl dX3_statement_48 ?_
      refine lv_iload_n hx hb dX3_statement_51 rfl (lv_at hl 0 rfl) ?_
      have h9 := hv.1
      have hv := hv.2
      refine va_iast (f := (tLetter (mT σ))) (n := 48) hx hb hK hP hD hS 13 0 rfl rfl h9 dX3_statement_52 (fun H locs hP hD hS => ?_)
      have hP : va_P (gD g) vwCl (wM g ad ((mS σ), ((tTape (mT σ)), (upd (tLetter (mT σ)) ((tStm (mT σ))).toNatClampNeg (nxt (mT σ) (tAt (mT σ)))), (tLetterAt (mT σ)), (tTold (mT σ)), (tTaped (mT σ)), (tAt (mT σ)), (tStm (mT σ))), (mK σ), (mF σ), (mRow σ), (mRowMany σ), (mLots σ), (mRefused σ))) H := hP
      have hD : va_D (AD ad 0 21) (wM g ad ((mS σ), ((tTape (mT σ)), (upd (tLetter (mT σ)) ((tStm (mT σ))).toNatClampNeg (nxt (mT σ) (tAt (mT σ)))), (tLetterAt (mT σ)), (tTold (mT σ)), (tTaped (mT σ)), (tAt (mT σ)), (tStm (mT σ))), (mK σ), (mF σ), (mRow σ), (mRowMany σ), (mLots σ), (mRefused σ))) := hD
      refine lv_aload_n hx hb dX3_statement_53 rfl (lv_at hl 1 rfl) ?_
      refine va_get (D := gD g) (ci := 3) (v := .ref (ad 14)) (C := RX3) (T := TX3) (N := 33) hx hb hts hi3 hown hK hP 0 rfl rfl 18 (by decide) k2 (fun _ h9 => h9) rfl dX3_statement_54 ?_
      refine lv_aload_n hx hb dX3_statement_57 rfl (lv_at hl 1 rfl) ?_
      refine va_get (D := gD g) (ci := 3) (v := .int (tStm (mT σ))) (C := RX3) (T := TX3) (N := 33) hx hb hts hi3 hown hK hP 0 rfl rfl 22 (by decide) k1 (fun _ h9 => h9) rfl dX3_statement_58 ?_
      refine lv_aload_n hx hb dX3_statement_61 rfl (lv_at hl 1 rfl) ?_
      refine va_get (D := gD g) (ci := 3) (v := .int (tAt (mT σ))) (C := RX3) (T := TX3) (N := 33) hx hb hts hi3 hown hK hP 0 rfl rfl 21 (by decide) k3 (fun _ h9 => h9) rfl dX3_statement_62 ?_
      have h9 := hv.1
      have hv := hv.2
      refine va_iast (f := (tLetterAt (mT σ))) (n := 48) hx hb hK hP hD hS 14 0 rfl rfl h9 dX3_statement_65 (fun H locs hP hD hS => ?_)
      have hP : va_P (gD g) vwCl (wM g ad ((mS σ), ((tTape (mT σ)), (upd (tLetter (mT σ)) ((tStm (mT σ))).toNatClampNeg (nxt (mT σ) (tAt (mT σ)))), (upd (tLetterAt (mT σ)) ((tStm (mT σ))).toNatClampNeg (tAt (mT σ))), (tTold (mT σ)), (tTaped (mT σ)), (tAt (mT σ)), (tStm (mT σ))), (mK σ), (mF σ), (mRow σ), (mRowMany σ), (mLots σ), (mRefused σ))) H := hP
      have hD : va_D (AD ad 0 21) (wM g ad ((mS σ), ((tTape (mT σ)), (upd (tLetter (mT σ)) ((tStm (mT σ))).toNatClampNeg (nxt (mT σ) (tAt (mT σ)))), (upd (tLetterAt (mT σ)) ((tStm (mT σ))).toNatClampNeg (tAt (mT σ))), (tTold (mT σ)), (tTaped (mT σ)), (tAt (mT σ)), (tStm (mT σ))), (mK σ), (mF σ), (mRow σ), (mRowMany σ), (mLots σ), (mRefused σ))) := hD
      refine lv_aload_n hx hb dX3_statement_66 rfl (lv_at hl 1 rfl) ?_
      refine lv_dup hx hb dX3_statement_67 rfl ?_
      refine va_get (D := gD g) (ci := 3) (v := .int (tAt (mT σ))) (C := RX3) (T := TX3) (N := 33) hx hb hts hi3 hown hK hP 0 rfl rfl 21 (by decide) k3 (fun _ h9 => h9) rfl dX3_statement_68 ?_
      refine lv_iconst (v := 1) hx hb dX3_statement_71 (by decide) ?_
      refine lv_iadd hx hb dX3_statement_72 ?_
      refine va_put (D := gD g) (ci := 3) (v := .int ((tAt (mT σ)) + 1)) (ty := .int) (C := RX3) (T := TX3) (N := 33) hx hb hts hi3 tyX3 tyX3_ok nmX3 hown hK hP hD hS 0 rfl rfl 21 (by decide) k3 (fun _ h9 => h9) rfl (by decide +kernel) rfl rfl (Nat.le_of_ble_eq_true rfl) dX3_statement_73 (fun H locs hP hD hS => ?_)
      have hP : va_P (gD g) vwCl (wM g ad ((mS σ), ((tTape (mT σ)), (upd (tLetter (mT σ)) ((tStm (mT σ))).toNatClampNeg (nxt (mT σ) (tAt (mT σ)))), (upd (tLetterAt (mT σ)) ((tStm (mT σ))).toNatClampNeg (tAt (mT σ))), (tTold (mT σ)), (tTaped (mT σ)), ((tAt (mT σ)) + 1), (tStm (mT σ))), (mK σ), (mF σ), (mRow σ), (mRowMany σ), (mLots σ), (mRefused σ))) H := hP
      have hD : va_D (AD ad 0 21) (wM g ad ((mS σ), ((tTape (mT σ)), (upd (tLetter (mT σ)) ((tStm (mT σ))).toNatClampNeg (nxt (mT σ) (tAt (mT σ)))), (upd (tLetterAt (mT σ)) ((tStm (mT σ))).toNatClampNeg (tAt (mT σ))), (tTold (mT σ)), (tTaped (mT σ)), ((tAt (mT σ)) + 1), (tStm (mT σ))), (mK σ), (mF σ), (mRow σ), (mRowMany σ), (mLots σ), (mRefused σ))) := hD
      refine lv_aload_n hx hb dX3_statement_76 rfl (lv_at hl 1 rfl) ?_
      refine lv_iload_n hx hb dX3_statement_77 rfl (lv_at hl 0 rfl) ?_
      refine lv_iconst (v := 3) hx hb dX3_statement_78 (by decide) ?_
      refine lv_aload_n hx hb dX3_statement_79 rfl (lv_at hl 1 rfl) ?_
      refine va_get (D := gD g) (ci := 3) (v := .int (tStm (mT σ))) (C := RX3) (T := TX3) (N := 33) hx hb hts hi3 hown hK hP 0 rfl rfl 22 (by decide) k1 (fun _ h9 => h9) rfl dX3_statement_80 ?_
      refine lv_imul hx hb dX3_statement_83 ?_
      have h8 := hv.1
      have hv := hv.2
      have hPc := hP
      have hDc := hD
      refine rw_int (va_runV (As := [.int (nxt (mT σ) (tAt (mT σ))), .int (3 * (tStm (mT σ)))]) (rest := []) ⟨hx, hb, hml, hown, hts⟩ (h_X3_readsAll g ad ((mS σ), ((tTape (mT σ)), (upd (tLetter (mT σ)) ((tStm (mT σ))).toNatClampNeg (nxt (mT σ) (tAt (mT σ)))), (upd (tLetterAt (mT σ)) ((tStm (mT σ))).toNatClampNeg (tAt (mT σ))), (tTold (mT σ)), (tTaped (mT σ)), ((tAt (mT σ)) + 1), (tStm (mT σ))), (mK σ), (mF σ), (mRow σ), (mRowMany σ), (mLots σ), (mRefused σ)) (nxt (mT σ) (tAt (mT σ))) (3 * (tStm (mT σ))) h8) (cwV 2 hts gX3_statement_X3_readsAll rfl rfl rfl (by decide +kernel) ⟨Nat.le_of_ble_eq_true rfl, Nat.le_of_ble_eq_true rfl⟩) ⟨RW_blind, va_recv hK hP (ci := 3) (q0 := 0) rfl rfl, fun U hU hW => ⟨rfl, by rw [hU]; exact hPc, va_K.moved hW.alike hK, hE.call hW hU hS (fun _ h => h), hDc⟩⟩ rfl rfl hl.1 rfl (lv_room (Nat.le_of_ble_eq_true rfl)) dX3_statement_84 ⟨Nat.le_of_ble_eq_true rfl, Nat.le_of_ble_eq_true rfl⟩) hS (fun _ h => h) (fun r u84 H1 locs hw hP1 hk hS => ?_)
      obtain ⟨hw1, hw⟩ := hw; subst r
      have hv := hv u84 hw
      have hP := hP1
      generalize H1 = H at hP hS ⊢
      have hP : va_P (gD g) vwCl (wM g ad u84) H := hP
      have hD : va_D (AD ad 0 21) (wM g ad u84) := hD.addr (by rfl)
      refine lv_if_eq (tgt := 99) hx hb dX3_statement_87 (by decide) (fun c87 => ?_) (fun c87 => ?_)
      · have hv := hv.1 c87
        refine lv_iconst (v := 0) hx hb dX3_statement_99 (by decide) ?_
        exact W.zret (v := 0) hx hb hr rfl (fun t ht hW => ⟨⟨0, u84, rfl, hv, P_at ht hP⟩, hS.F ht⟩) hS.2.2 dX3_statement_100
      · have hv := hv.2 c87
        refine lv_aload_n hx hb dX3_statement_90 rfl (lv_at hl 1 rfl) ?_
        have h8 := hv.1
        have hv := hv.2
        have hPc := hP
        refine ro_int (va_runV (As := []) (rest := []) ⟨hx, hb, hml, hown, hts⟩ (h_X3_next g ad u84 h8) (cwV 0 hts gX3_statement_X3_next rfl rfl rfl (by decide +kernel) ⟨Nat.le_of_ble_eq_true rfl, Nat.le_of_ble_eq_true rfl⟩) ⟨RO_blind, va_recv hK hP (ci := 3) (q0 := 0) rfl rfl, fun U hU hW => ⟨rfl, by rw [hU]; exact hPc, va_K.moved hW.alike hK, hE.call hW hU hS (fun _ h => h.elim)⟩⟩ rfl rfl hl.1 rfl (lv_room (Nat.le_of_ble_eq_true rfl)) dX3_statement_91 ⟨Nat.le_of_ble_eq_true rfl, Nat.le_of_ble_eq_true rfl⟩) hS hP (fun r H locs hw hP hS => ?_)
        subst r
        refine lv_bipush (v := 59) hx hb dX3_statement_94 (by decide) ?_
        refine lv_icmp_eq (tgt := 101) hx hb dX3_statement_96 (by decide) (fun c96 => ?_) (fun c96 => ?_)
        · have hv := hv.1 c96
          refine lv_aload_n hx hb dX3_statement_101 rfl (lv_at hl 1 rfl) ?_
          refine lv_dup hx hb dX3_statement_102 rfl ?_
          refine va_get (D := gD g) (ci := 3) (v := .int (tAt (mT u84))) (C := RX3) (T := TX3) (N := 33) hx hb hts hi3 hown hK hP 0 rfl rfl 21 (by decide) k3 (fun _ h9 => h9) rfl dX3_statement_103 ?_
          refine lv_iconst (v := 1) hx hb dX3_statement_106 (by decide) ?_
          refine lv_iadd hx hb dX3_statement_107 ?_
          refine va_put (D := gD g) (ci := 3) (v := .int ((tAt (mT u84)) + 1)) (ty := .int) (C := RX3) (T := TX3) (N := 33) hx hb hts hi3 tyX3 tyX3_ok nmX3 hown hK hP hD hS 0 rfl rfl 21 (by decide) k3 (fun _ h9 => h9) rfl (by decide +kernel) rfl rfl (Nat.le_of_ble_eq_true rfl) dX3_statement_108 (fun H locs hP hD hS => ?_)
          have hP : va_P (gD g) vwCl (wM g ad ((mS u84), ((tTape (mT u84)), (tLetter (mT u84)), (tLetterAt (mT u84)), (tTold (mT u84)), (tTaped (mT u84)), ((tAt (mT u84)) + 1), (tStm (mT u84))), (mK u84), (mF u84), (mRow u84), (mRowMany u84), (mLots u84), (mRefused u84))) H := hP
          have hD : va_D (AD ad 0 21) (wM g ad ((mS u84), ((tTape (mT u84)), (tLetter (mT u84)), (tLetterAt (mT u84)), (tTold (mT u84)), (tTaped (mT u84)), ((tAt (mT u84)) + 1), (tStm (mT u84))), (mK u84), (mF u84), (mRow u84), (mRowMany u84), (mLots u84), (mRefused u84))) := hD
          refine lv_iconst (v := 1) hx hb dX3_statement_111 (by decide) ?_
          exact W.zret (v := 1) hx hb hr rfl (fun t ht hW => ⟨⟨1, ((mS u84), ((tTape (mT u84)), (tLetter (mT u84)), (tLetterAt (mT u84)), (tTold (mT u84)), (tTaped (mT u84)), ((tAt (mT u84)) + 1), (tStm (mT u84))), (mK u84), (mF u84), (mRow u84), (mRowMany u84), (mLots u84), (mRefused u84)), rfl, hv, P_at ht hP⟩, hS.F ht⟩) hS.2.2 dX3_statement_112
        · have hv := hv.2 c96
          refine lv_iconst (v := 0) hx hb dX3_statement_99 (by decide) ?_
          exact W.zret (v := 0) hx hb hr rfl (fun t ht hW => ⟨⟨0, u84, rfl, hv, P_at ht hP⟩, hS.F ht⟩) hS.2.2 dX3_statement_100
    · have hv := hv.2 c14
      refine lv_iload_n hx hb dX3_statement_17 rfl (lv_at hl 0 rfl) ?_
      refine lv_bipush (v := 119) hx hb dX3_statement_18 (by decide) ?_
      refine lv_icmp_eq (tgt := 43) hx hb dX3_statement_20 (by decide) (fun c20 => ?_) (fun c20 => ?_)
      · have hv := hv.1 c20
        refine lv_aload_n hx hb dX3_statement_43 rfl (lv_at hl 1 rfl) ?_
        refine va_get (D := gD g) (ci := 3) (v := .ref (ad 13)) (C := RX3) (T := TX3) (N := 33) hx hb hts hi3 hown hK hP 0 rfl rfl 17 (by decide) k0 (fun _ h9 => h9) rfl dX3_statement_44 ?_
        refine lv_aload_n hx hb dX3_statement_47 rfl (lv_at hl 1 rfl) ?_
        refine va_get (D := gD g) (ci := 3) (v := .int (tStm (mT σ))) (C := RX3) (T := TX3) (N := 33) hx hb hts hi3 hown hK hP 0 rfl rfl 22 (by decide) k1 (fun _ h9 => h9) rfl dX3_statement_48 ?_
        refine lv_iload_n hx hb dX3_statement_51 rfl (lv_at hl 0 rfl) ?_
        have h9 := hv.1
        have hv := hv.2
        refine va_iast (f := (tLetter (mT σ))) (n := 48) hx hb hK hP hD hS 13 0 rfl rfl h9 dX3_statement_52 (fun H locs hP hD hS => ?_)
        have hP : va_P (gD g) vwCl (wM g ad ((mS σ), ((tTape (mT σ)), (upd (tLetter (mT σ)) ((tStm (mT σ))).toNatClampNeg (nxt (mT σ) (tAt (mT σ)))), (tLetterAt (mT σ)), (tTold (mT σ)), (tTaped (mT σ)), (tAt (mT σ)), (tStm (mT σ))), (mK σ), (mF σ), (mRow σ), (mRowMany σ), (mLots σ), (mRefused σ))) H := hP
        have hD : va_D (AD ad 0 21) (wM g ad ((mS σ), ((tTape (mT σ)), (upd (tLetter (mT σ)) ((tStm (mT σ))).toNatClampNeg (nxt (mT σ) (tAt (mT σ)))), (tLetterAt (mT σ)), (tTold (mT σ)), (tTaped (mT σ)), (tAt (mT σ)), (tStm (mT σ))), (mK σ), (mF σ), (mRow σ), (mRowMany σ), (mLots σ), (mRefused σ))) := hD
        refine lv_aload_n hx hb dX3_statement_53 rfl (lv_at hl 1 rfl) ?_
        refine va_get (D := gD g) (ci := 3) (v := .ref (ad 14)) (C := RX3) (T := TX3) (N := 33) hx hb hts hi3 hown hK hP 0 rfl rfl 18 (by decide) k2 (fun _ h9 => h9) rfl dX3_statement_54 ?_
        refine lv_aload_n hx hb dX3_statement_57 rfl (lv_at hl 1 rfl) ?_
        refine va_get (D := gD g) (ci := 3) (v := .int (tStm (mT σ))) (C := RX3) (T := TX3) (N := 33) hx hb hts hi3 hown hK hP 0 rfl rfl 22 (by decide) k1 (fun _ h9 => h9) rfl dX3_statement_58 ?_
        refine lv_aload_n hx hb dX3_statement_61 rfl (lv_at hl 1 rfl) ?_
        refine va_get (D := gD g) (ci := 3) (v := .int (tAt (mT σ))) (C := RX3) (T := TX3) (N := 33) hx hb hts hi3 hown hK hP 0 rfl rfl 21 (by decide) k3 (fun _ h9 => h9) rfl dX3_statement_62 ?_
        have h9 := hv.1
        have hv := hv.2
        refine va_iast (f := (tLetterAt (mT σ))) (n := 48) hx hb hK hP hD hS 14 0 rfl rfl h9 dX3_statement_65 (fun H locs hP hD hS => ?_)
        have hP : va_P (gD g) vwCl (wM g ad ((mS σ), ((tTape (mT σ)), (upd (tLetter (mT σ)) ((tStm (mT σ))).toNatClampNeg (nxt (mT σ) (tAt (mT σ)))), (upd (tLetterAt (mT σ)) ((tStm (mT σ))).toNatClampNeg (tAt (mT σ))), (tTold (mT σ)), (tTaped (mT σ)), (tAt (mT σ)), (tStm (mT σ))), (mK σ), (mF σ), (mRow σ), (mRowMany σ), (mLots σ), (mRefused σ))) H := hP
        have hD : va_D (AD ad 0 21) (wM g ad ((mS σ), ((tTape (mT σ)), (upd (tLetter (mT σ)) ((tStm (mT σ))).toNatClampNeg (nxt (mT σ) (tAt (mT σ)))), (upd (tLetterAt (mT σ)) ((tStm (mT σ))).toNatClampNeg (tAt (mT σ))), (tTold (mT σ)), (tTaped (mT σ)), (tAt (mT σ)), (tStm (mT σ))), (mK σ), (mF σ), (mRow σ), (mRowMany σ), (mLots σ), (mRefused σ))) := hD
        refine lv_aload_n hx hb dX3_statement_66 rfl (lv_at hl 1 rfl) ?_
        refine lv_dup hx hb dX3_statement_67 rfl ?_
        refine va_get (D := gD g) (ci := 3) (v := .int (tAt (mT σ))) (C := RX3) (T := TX3) (N := 33) hx hb hts hi3 hown hK hP 0 rfl rfl 21 (by decide) k3 (fun _ h9 => h9) rfl dX3_statement_68 ?_
        refine lv_iconst (v := 1) hx hb dX3_statement_71 (by decide) ?_
        refine lv_iadd hx hb dX3_statement_72 ?_
        refine va_put (D := gD g) (ci := 3) (v := .int ((tAt (mT σ)) + 1)) (ty := .int) (C := RX3) (T := TX3) (N := 33) hx hb hts hi3 tyX3 tyX3_ok nmX3 hown hK hP hD hS 0 rfl rfl 21 (by decide) k3 (fun _ h9 => h9) rfl (by decide +kernel) rfl rfl (Nat.le_of_ble_eq_true rfl) dX3_statement_73 (fun H locs hP hD hS => ?_)
        have hP : va_P (gD g) vwCl (wM g ad ((mS σ), ((tTape (mT σ)), (upd (tLetter (mT σ)) ((tStm (mT σ))).toNatClampNeg (nxt (mT σ) (tAt (mT σ)))), (upd (tLetterAt (mT σ)) ((tStm (mT σ))).toNatClampNeg (tAt (mT σ))), (tTold (mT σ)), (tTaped (mT σ)), ((tAt (mT σ)) + 1), (tStm (mT σ))), (mK σ), (mF σ), (mRow σ), (mRowMany σ), (mLots σ), (mRefused σ))) H := hP
        have hD : va_D (AD ad 0 21) (wM g ad ((mS σ), ((tTape (mT σ)), (upd (tLetter (mT σ)) ((tStm (mT σ))).toNatClampNeg (nxt (mT σ) (tAt (mT σ)))), (upd (tLetterAt (mT σ)) ((tStm (mT σ))).toNatClampNeg (tAt (mT σ))), (tTold (mT σ)), (tTaped (mT σ)), ((tAt (mT σ)) + 1), (tStm (mT σ))), (mK σ), (mF σ), (mRow σ), (mRowMany σ), (mLots σ), (mRefused σ))) := hD
        refine lv_aload_n hx hb dX3_statement_76 rfl (lv_at hl 1 rfl) ?_
        refine lv_iload_n hx hb dX3_statement_77 rfl (lv_at hl 0 rfl) ?_
        refine lv_iconst (v := 3) hx hb dX3_statement_78 (by decide) ?_
        refine lv_aload_n hx hb dX3_statement_79 rfl (lv_at hl 1 rfl) ?_
        refine va_get (D := gD g) (ci := 3) (v := .int (tStm (mT σ))) (C := RX3) (T := TX3) (N := 33) hx hb hts hi3 hown hK hP 0 rfl rfl 22 (by decide) k1 (fun _ h9 => h9) rfl dX3_statement_80 ?_
        refine lv_imul hx hb dX3_statement_83 ?_
        have h8 := hv.1
        have hv := hv.2
        have hPc := hP
        have hDc := hD
        refine rw_int (va_runV (As := [.int (nxt (mT σ) (tAt (mT σ))), .int (3 * (tStm (mT σ)))]) (rest := []) ⟨hx, hb, hml, hown, hts⟩ (h_X3_readsAll g ad ((mS σ), ((tTape (mT σ)), (upd (tLetter (mT σ)) ((tStm (mT σ))).toNatClampNeg (nxt (mT σ) (tAt (mT σ)))), (upd (tLetterAt (mT σ)) ((tStm (mT σ))).toNatClampNeg (tAt (mT σ))), (tTold (mT σ)), (tTaped (mT σ)), ((tAt (mT σ)) + 1), (tStm (mT σ))), (mK σ), (mF σ), (mRow σ), (mRowMany σ), (mLots σ), (mRefused σ)) (nxt (mT σ) (tAt (mT σ))) (3 * (tStm (mT σ))) h8) (cwV 2 hts gX3_statement_X3_readsAll rfl rfl rfl (by decide +kernel) ⟨Nat.le_of_ble_eq_true rfl, Nat.le_of_ble_eq_true rfl⟩) ⟨RW_blind, va_recv hK hP (ci := 3) (q0 := 0) rfl rfl, fun U hU hW => ⟨rfl, by rw [hU]; exact hPc, va_K.moved hW.alike hK, hE.call hW hU hS (fun _ h => h), hDc⟩⟩ rfl rfl hl.1 rfl (lv_room (Nat.le_of_ble_eq_true rfl)) dX3_statement_84 ⟨Nat.le_of_ble_eq_true rfl, Nat.le_of_ble_eq_true rfl⟩) hS (fun _ h => h) (fun r u84 H1 locs hw hP1 hk hS => ?_)
        obtain ⟨hw1, hw⟩ := hw; subst r
        have hv := hv u84 hw
        have hP := hP1
        generalize H1 = H at hP hS ⊢
        have hP : va_P (gD g) vwCl (wM g ad u84) H := hP
        have hD : va_D (AD ad 0 21) (wM g ad u84) := hD.addr (by rfl)
        refine lv_if_eq (tgt := 99) hx hb dX3_statement_87 (by decide) (fun c87 => ?_) (fun c87 => ?_)
        · have hv := hv.1 c87
          refine lv_iconst (v := 0) hx hb dX3_statement_99 (by decide) ?_
          exact W.zret (v := 0) hx hb hr rfl (fun t ht hW => ⟨⟨0, u84, rfl, hv, P_at ht hP⟩, hS.F ht⟩) hS.2.2 dX3_statement_100
        · have hv := hv.2 c87
          refine lv_aload_n hx hb dX3_statement_90 rfl (lv_at hl 1 rfl) ?_
          have h8 := hv.1
          have hv := hv.2
          have hPc := hP
          refine ro_int (va_runV (As := []) (rest := []) ⟨hx, hb, hml, hown, hts⟩ (h_X3_next g ad u84 h8) (cwV 0 hts gX3_statement_X3_next rfl rfl rfl (by decide +kernel) ⟨Nat.le_of_ble_eq_true rfl, Nat.le_of_ble_eq_true rfl⟩) ⟨RO_blind, va_recv hK hP (ci := 3) (q0 := 0) rfl rfl, fun U hU hW => ⟨rfl, by rw [hU]; exact hPc, va_K.moved hW.alike hK, hE.call hW hU hS (fun _ h => h.elim)⟩⟩ rfl rfl hl.1 rfl (lv_room (Nat.le_of_ble_eq_true rfl)) dX3_statement_91 ⟨Nat.le_of_ble_eq_true rfl, Nat.le_of_ble_eq_true rfl⟩) hS hP (fun r H locs hw hP hS => ?_)
          subst r
          refine lv_bipush (v := 59) hx hb dX3_statement_94 (by decide) ?_
          refine lv_icmp_eq (tgt := 101) hx hb dX3_statement_96 (by decide) (fun c96 => ?_) (fun c96 => ?_)
          · have hv := hv.1 c96
            refine lv_aload_n hx hb dX3_statement_101 rfl (lv_at hl 1 rfl) ?_
            refine lv_dup hx hb dX3_statement_102 rfl ?_
            refine va_get (D := gD g) (ci := 3) (v := .int (tAt (mT u84))) (C := RX3) (T := TX3) (N := 33) hx hb hts hi3 hown hK hP 0 rfl rfl 21 (by decide) k3 (fun _ h9 => h9) rfl dX3_statement_103 ?_
            refine lv_iconst (v := 1) hx hb dX3_statement_106 (by decide) ?_
            refine lv_iadd hx hb dX3_statement_107 ?_
            refine va_put (D := gD g) (ci := 3) (v := .int ((tAt (mT u84)) + 1)) (ty := .int) (C := RX3) (T := TX3) (N := 33) hx hb hts hi3 tyX3 tyX3_ok nmX3 hown hK hP hD hS 0 rfl rfl 21 (by decide) k3 (fun _ h9 => h9) rfl (by decide +kernel) rfl rfl (Nat.le_of_ble_eq_true rfl) dX3_statement_108 (fun H locs hP hD hS => ?_)
            have hP : va_P (gD g) vwCl (wM g ad ((mS u84), ((tTape (mT u84)), (tLetter (mT u84)), (tLetterAt (mT u84)), (tTold (mT u84)), (tTaped (mT u84)), ((tAt (mT u84)) + 1), (tStm (mT u84))), (mK u84), (mF u84), (mRow u84), (mRowMany u84), (mLots u84), (mRefused u84))) H := hP
            have hD : va_D (AD ad 0 21) (wM g ad ((mS u84), ((tTape (mT u84)), (tLetter (mT u84)), (tLetterAt (mT u84)), (tTold (mT u84)), (tTaped (mT u84)), ((tAt (mT u84)) + 1), (tStm (mT u84))), (mK u84), (mF u84), (mRow u84), (mRowMany u84), (mLots u84), (mRefused u84))) := hD
            refine lv_iconst (v := 1) hx hb dX3_statement_111 (by decide) ?_
            exact W.zret (v := 1) hx hb hr rfl (fun t ht hW => ⟨⟨1, ((mS u84), ((tTape (mT u84)), (tLetter (mT u84)), (tLetterAt (mT u84)), (tTold (mT u84)), (tTaped (mT u84)), ((tAt (mT u84)) + 1), (tStm (mT u84))), (mK u84), (mF u84), (mRow u84), (mRowMany u84), (mLots u84), (mRefused u84)), rfl, hv, P_at ht hP⟩, hS.F ht⟩) hS.2.2 dX3_statement_112
          · have hv := hv.2 c96
            refine lv_iconst (v := 0) hx hb dX3_statement_99 (by decide) ?_
            exact W.zret (v := 0) hx hb hr rfl (fun t ht hW => ⟨⟨0, u84, rfl, hv, P_at ht hP⟩, hS.F ht⟩) hS.2.2 dX3_statement_100
      · have hv := hv.2 c20
        refine lv_iload_n hx hb dX3_statement_23 rfl (lv_at hl 0 rfl) ?_
        refine lv_bipush (v := 107) hx hb dX3_statement_24 (by decide) ?_
        refine lv_icmp_eq (tgt := 43) hx hb dX3_statement_26 (by decide) (fun c26 => ?_) (fun c26 => ?_)
        · have hv := hv.1 c26
          refine lv_aload_n hx hb dX3_statement_43 rfl (lv_at hl 1 rfl) ?_
          refine va_get (D := gD g) (ci := 3) (v := .ref (ad 13)) (C := RX3) (T := TX3) (N := 33) hx hb hts hi3 hown hK hP 0 rfl rfl 17 (by decide) k0 (fun _ h9 => h9) rfl dX3_statement_44 ?_
          refine lv_aload_n hx hb dX3_statement_47 rfl (lv_at hl 1 rfl) ?_
          refine va_get (D := gD g) (ci := 3) (v := .int (tStm (mT σ))) (C := RX3) (T := TX3) (N := 33) hx hb hts hi3 hown hK hP 0 rfl rfl 22 (by decide) k1 (fun _ h9 => h9) rfl dX3_statement_48 ?_
          refine lv_iload_n hx hb dX3_statement_51 rfl (lv_at hl 0 rfl) ?_
          have h9 := hv.1
          have hv := hv.2
          refine va_iast (f := (tLetter (mT σ))) (n := 48) hx hb hK hP hD hS 13 0 rfl rfl h9 dX3_statement_52 (fun H locs hP hD hS => ?_)
          have hP : va_P (gD g) vwCl (wM g ad ((mS σ), ((tTape (mT σ)), (upd (tLetter (mT σ)) ((tStm (mT σ))).toNatClampNeg (nxt (mT σ) (tAt (mT σ)))), (tLetterAt (mT σ)), (tTold (mT σ)), (tTaped (mT σ)), (tAt (mT σ)), (tStm (mT σ))), (mK σ), (mF σ), (mRow σ), (mRowMany σ), (mLots σ), (mRefused σ))) H := hP
          have hD : va_D (AD ad 0 21) (wM g ad ((mS σ), ((tTape (mT σ)), (upd (tLetter (mT σ)) ((tStm (mT σ))).toNatClampNeg (nxt (mT σ) (tAt (mT σ)))), (tLetterAt (mT σ)), (tTold (mT σ)), (tTaped (mT σ)), (tAt (mT σ)), (tStm (mT σ))), (mK σ), (mF σ), (mRow σ), (mRowMany σ), (mLots σ), (mRefused σ))) := hD
          refine lv_aload_n hx hb dX3_statement_53 rfl (lv_at hl 1 rfl) ?_
          refine va_get (D := gD g) (ci := 3) (v := .ref (ad 14)) (C := RX3) (T := TX3) (N := 33) hx hb hts hi3 hown hK hP 0 rfl rfl 18 (by decide) k2 (fun _ h9 => h9) rfl dX3_statement_54 ?_
          refine lv_aload_n hx hb dX3_statement_57 rfl (lv_at hl 1 rfl) ?_
          refine va_get (D := gD g) (ci := 3) (v := .int (tStm (mT σ))) (C := RX3) (T := TX3) (N := 33) hx hb hts hi3 hown hK hP 0 rfl rfl 22 (by decide) k1 (fun _ h9 => h9) rfl dX3_statement_58 ?_
          refine lv_aload_n hx hb dX3_statement_61 rfl (lv_at hl 1 rfl) ?_
          refine va_get (D := gD g) (ci := 3) (v := .int (tAt (mT σ))) (C := RX3) (T := TX3) (N := 33) hx hb hts hi3 hown hK hP 0 rfl rfl 21 (by decide) k3 (fun _ h9 => h9) rfl dX3_statement_62 ?_
          have h9 := hv.1
          have hv := hv.2
          refine va_iast (f := (tLetterAt (mT σ))) (n := 48) hx hb hK hP hD hS 14 0 rfl rfl h9 dX3_statement_65 (fun H locs hP hD hS => ?_)
          have hP : va_P (gD g) vwCl (wM g ad ((mS σ), ((tTape (mT σ)), (upd (tLetter (mT σ)) ((tStm (mT σ))).toNatClampNeg (nxt (mT σ) (tAt (mT σ)))), (upd (tLetterAt (mT σ)) ((tStm (mT σ))).toNatClampNeg (tAt (mT σ))), (tTold (mT σ)), (tTaped (mT σ)), (tAt (mT σ)), (tStm (mT σ))), (mK σ), (mF σ), (mRow σ), (mRowMany σ), (mLots σ), (mRefused σ))) H := hP
          have hD : va_D (AD ad 0 21) (wM g ad ((mS σ), ((tTape (mT σ)), (upd (tLetter (mT σ)) ((tStm (mT σ))).toNatClampNeg (nxt (mT σ) (tAt (mT σ)))), (upd (tLetterAt (mT σ)) ((tStm (mT σ))).toNatClampNeg (tAt (mT σ))), (tTold (mT σ)), (tTaped (mT σ)), (tAt (mT σ)), (tStm (mT σ))), (mK σ), (mF σ), (mRow σ), (mRowMany σ), (mLots σ), (mRefused σ))) := hD
          refine lv_aload_n hx hb dX3_statement_66 rfl (lv_at hl 1 rfl) ?_
          refine lv_dup hx hb dX3_statement_67 rfl ?_
          refine va_get (D := gD g) (ci := 3) (v := .int (tAt (mT σ))) (C := RX3) (T := TX3) (N := 33) hx hb hts hi3 hown hK hP 0 rfl rfl 21 (by decide) k3 (fun _ h9 => h9) rfl dX3_statement_68 ?_
          refine lv_iconst (v := 1) hx hb dX3_statement_71 (by decide) ?_
          refine lv_iadd hx hb dX3_statement_72 ?_
          refine va_put (D := gD g) (ci := 3) (v := .int ((tAt (mT σ)) + 1)) (ty := .int) (C := RX3) (T := TX3) (N := 33) hx hb hts hi3 tyX3 tyX3_ok nmX3 hown hK hP hD hS 0 rfl rfl 21 (by decide) k3 (fun _ h9 => h9) rfl (by decide +kernel) rfl rfl (Nat.le_of_ble_eq_true rfl) dX3_statement_73 (fun H locs hP hD hS => ?_)
          have hP : va_P (gD g) vwCl (wM g ad ((mS σ), ((tTape (mT σ)), (upd (tLetter (mT σ)) ((tStm (mT σ))).toNatClampNeg (nxt (mT σ) (tAt (mT σ)))), (upd (tLetterAt (mT σ)) ((tStm (mT σ))).toNatClampNeg (tAt (mT σ))), (tTold (mT σ)), (tTaped (mT σ)), ((tAt (mT σ)) + 1), (tStm (mT σ))), (mK σ), (mF σ), (mRow σ), (mRowMany σ), (mLots σ), (mRefused σ))) H := hP
          have hD : va_D (AD ad 0 21) (wM g ad ((mS σ), ((tTape (mT σ)), (upd (tLetter (mT σ)) ((tStm (mT σ))).toNatClampNeg (nxt (mT σ) (tAt (mT σ)))), (upd (tLetterAt (mT σ)) ((tStm (mT σ))).toNatClampNeg (tAt (mT σ))), (tTold (mT σ)), (tTaped (mT σ)), ((tAt (mT σ)) + 1), (tStm (mT σ))), (mK σ), (mF σ), (mRow σ), (mRowMany σ), (mLots σ), (mRefused σ))) := hD
          refine lv_aload_n hx hb dX3_statement_76 rfl (lv_at hl 1 rfl) ?_
          refine lv_iload_n hx hb dX3_statement_77 rfl (lv_at hl 0 rfl) ?_
          refine lv_iconst (v := 3) hx hb dX3_statement_78 (by decide) ?_
          refine lv_aload_n hx hb dX3_statement_79 rfl (lv_at hl 1 rfl) ?_
          refine va_get (D := gD g) (ci := 3) (v := .int (tStm (mT σ))) (C := RX3) (T := TX3) (N := 33) hx hb hts hi3 hown hK hP 0 rfl rfl 22 (by decide) k1 (fun _ h9 => h9) rfl dX3_statement_80 ?_
          refine lv_imul hx hb dX3_statement_83 ?_
          have h8 := hv.1
          have hv := hv.2
          have hPc := hP
          have hDc := hD
          refine rw_int (va_runV (As := [.int (nxt (mT σ) (tAt (mT σ))), .int (3 * (tStm (mT σ)))]) (rest := []) ⟨hx, hb, hml, hown, hts⟩ (h_X3_readsAll g ad ((mS σ), ((tTape (mT σ)), (upd (tLetter (mT σ)) ((tStm (mT σ))).toNatClampNeg (nxt (mT σ) (tAt (mT σ)))), (upd (tLetterAt (mT σ)) ((tStm (mT σ))).toNatClampNeg (tAt (mT σ))), (tTold (mT σ)), (tTaped (mT σ)), ((tAt (mT σ)) + 1), (tStm (mT σ))), (mK σ), (mF σ), (mRow σ), (mRowMany σ), (mLots σ), (mRefused σ)) (nxt (mT σ) (tAt (mT σ))) (3 * (tStm (mT σ))) h8) (cwV 2 hts gX3_statement_X3_readsAll rfl rfl rfl (by decide +kernel) ⟨Nat.le_of_ble_eq_true rfl, Nat.le_of_ble_eq_true rfl⟩) ⟨RW_blind, va_recv hK hP (ci := 3) (q0 := 0) rfl rfl, fun U hU hW => ⟨rfl, by rw [hU]; exact hPc, va_K.moved hW.alike hK, hE.call hW hU hS (fun _ h => h), hDc⟩⟩ rfl rfl hl.1 rfl (lv_room (Nat.le_of_ble_eq_true rfl)) dX3_statement_84 ⟨Nat.le_of_ble_eq_true rfl, Nat.le_of_ble_eq_true rfl⟩) hS (fun _ h => h) (fun r u84 H1 locs hw hP1 hk hS => ?_)
          obtain ⟨hw1, hw⟩ := hw; subst r
          have hv := hv u84 hw
          have hP := hP1
          generalize H1 = H at hP hS ⊢
          have hP : va_P (gD g) vwCl (wM g ad u84) H := hP
          have hD : va_D (AD ad 0 21) (wM g ad u84) := hD.addr (by rfl)
          refine lv_if_eq (tgt := 99) hx hb dX3_statement_87 (by decide) (fun c87 => ?_) (fun c87 => ?_)
          · have hv := hv.1 c87
            refine lv_iconst (v := 0) hx hb dX3_statement_99 (by decide) ?_
            exact W.zret (v := 0) hx hb hr rfl (fun t ht hW => ⟨⟨0, u84, rfl, hv, P_at ht hP⟩, hS.F ht⟩) hS.2.2 dX3_statement_100
          · have hv := hv.2 c87
            refine lv_aload_n hx hb dX3_statement_90 rfl (lv_at hl 1 rfl) ?_
            have h8 := hv.1
            have hv := hv.2
            have hPc := hP
            refine ro_int (va_runV (As := []) (rest := []) ⟨hx, hb, hml, hown, hts⟩ (h_X3_next g ad u84 h8) (cwV 0 hts gX3_statement_X3_next rfl rfl rfl (by decide +kernel) ⟨Nat.le_of_ble_eq_true rfl, Nat.le_of_ble_eq_true rfl⟩) ⟨RO_blind, va_recv hK hP (ci := 3) (q0 := 0) rfl rfl, fun U hU hW => ⟨rfl, by rw [hU]; exact hPc, va_K.moved hW.alike hK, hE.call hW hU hS (fun _ h => h.elim)⟩⟩ rfl rfl hl.1 rfl (lv_room (Nat.le_of_ble_eq_true rfl)) dX3_statement_91 ⟨Nat.le_of_ble_eq_true rfl, Nat.le_of_ble_eq_true rfl⟩) hS hP (fun r H locs hw hP hS => ?_)
            subst r
            refine lv_bipush (v := 59) hx hb dX3_statement_94 (by decide) ?_
            refine lv_icmp_eq (tgt := 101) hx hb dX3_statement_96 (by decide) (fun c96 => ?_) (fun c96 => ?_)
            · have hv := hv.1 c96
              refine lv_aload_n hx hb dX3_statement_101 rfl (lv_at hl 1 rfl) ?_
              refine lv_dup hx hb dX3_statement_102 rfl ?_
              refine va_get (D := gD g) (ci := 3) (v := .int (tAt (mT u84))) (C := RX3) (T := TX3) (N := 33) hx hb hts hi3 hown hK hP 0 rfl rfl 21 (by decide) k3 (fun _ h9 => h9) rfl dX3_statement_103 ?_
              refine lv_iconst (v := 1) hx hb dX3_statement_106 (by decide) ?_
              refine lv_iadd hx hb dX3_statement_107 ?_
              refine va_put (D := gD g) (ci := 3) (v := .int ((tAt (mT u84)) + 1)) (ty := .int) (C := RX3) (T := TX3) (N := 33) hx hb hts hi3 tyX3 tyX3_ok nmX3 hown hK hP hD hS 0 rfl rfl 21 (by decide) k3 (fun _ h9 => h9) rfl (by decide +kernel) rfl rfl (Nat.le_of_ble_eq_true rfl) dX3_statement_108 (fun H locs hP hD hS => ?_)
              have hP : va_P (gD g) vwCl (wM g ad ((mS u84), ((tTape (mT u84)), (tLetter (mT u84)), (tLetterAt (mT u84)), (tTold (mT u84)), (tTaped (mT u84)), ((tAt (mT u84)) + 1), (tStm (mT u84))), (mK u84), (mF u84), (mRow u84), (mRowMany u84), (mLots u84), (mRefused u84))) H := hP
              have hD : va_D (AD ad 0 21) (wM g ad ((mS u84), ((tTape (mT u84)), (tLetter (mT u84)), (tLetterAt (mT u84)), (tTold (mT u84)), (tTaped (mT u84)), ((tAt (mT u84)) + 1), (tStm (mT u84))), (mK u84), (mF u84), (mRow u84), (mRowMany u84), (mLots u84), (mRefused u84))) := hD
              refine lv_iconst (v := 1) hx hb dX3_statement_111 (by decide) ?_
              exact W.zret (v := 1) hx hb hr rfl (fun t ht hW => ⟨⟨1, ((mS u84), ((tTape (mT u84)), (tLetter (mT u84)), (tLetterAt (mT u84)), (tTold (mT u84)), (tTaped (mT u84)), ((tAt (mT u84)) + 1), (tStm (mT u84))), (mK u84), (mF u84), (mRow u84), (mRowMany u84), (mLots u84), (mRefused u84)), rfl, hv, P_at ht hP⟩, hS.F ht⟩) hS.2.2 dX3_statement_112
            · have hv := hv.2 c96
              refine lv_iconst (v := 0) hx hb dX3_statement_99 (by decide) ?_
              exact W.zret (v := 0) hx hb hr rfl (fun t ht hW => ⟨⟨0, u84, rfl, hv, P_at ht hP⟩, hS.F ht⟩) hS.2.2 dX3_statement_100
        · have hv := hv.2 c26
          refine lv_iload_n hx hb dX3_statement_29 rfl (lv_at hl 0 rfl) ?_
          refine lv_bipush (v := 97) hx hb dX3_statement_30 (by decide) ?_
          refine lv_icmp_eq (tgt := 43) hx hb dX3_statement_32 (by decide) (fun c32 => ?_) (fun c32 => ?_)
          · have hv := hv.1 c32
            refine lv_aload_n hx hb dX3_statement_43 rfl (lv_at hl 1 rfl) ?_
            refine va_get (D := gD g) (ci := 3) (v := .ref (ad 13)) (C := RX3) (T := TX3) (N := 33) hx hb hts hi3 hown hK hP 0 rfl rfl 17 (by decide) k0 (fun _ h9 => h9) rfl dX3_statement_44 ?_
            refine lv_aload_n hx hb dX3_statement_47 rfl (lv_at hl 1 rfl) ?_
            refine va_get (D := gD g) (ci := 3) (v := .int (tStm (mT σ))) (C := RX3) (T := TX3) (N := 33) hx hb hts hi3 hown hK hP 0 rfl rfl 22 (by decide) k1 (fun _ h9 => h9) rfl dX3_statement_48 ?_
            refine lv_iload_n hx hb dX3_statement_51 rfl (lv_at hl 0 rfl) ?_
            have h9 := hv.1
            have hv := hv.2
            refine va_iast (f := (tLetter (mT σ))) (n := 48) hx hb hK hP hD hS 13 0 rfl rfl h9 dX3_statement_52 (fun H locs hP hD hS => ?_)
            have hP : va_P (gD g) vwCl (wM g ad ((mS σ), ((tTape (mT σ)), (upd (tLetter (mT σ)) ((tStm (mT σ))).toNatClampNeg (nxt (mT σ) (tAt (mT σ)))), (tLetterAt (mT σ)), (tTold (mT σ)), (tTaped (mT σ)), (tAt (mT σ)), (tStm (mT σ))), (mK σ), (mF σ), (mRow σ), (mRowMany σ), (mLots σ), (mRefused σ))) H := hP
            have hD : va_D (AD ad 0 21) (wM g ad ((mS σ), ((tTape (mT σ)), (upd (tLetter (mT σ)) ((tStm (mT σ))).toNatClampNeg (nxt (mT σ) (tAt (mT σ)))), (tLetterAt (mT σ)), (tTold (mT σ)), (tTaped (mT σ)), (tAt (mT σ)), (tStm (mT σ))), (mK σ), (mF σ), (mRow σ), (mRowMany σ), (mLots σ), (mRefused σ))) := hD
            refine lv_aload_n hx hb dX3_statement_53 rfl (lv_at hl 1 rfl) ?_
            refine va_get (D := gD g) (ci := 3) (v := .ref (ad 14)) (C := RX3) (T := TX3) (N := 33) hx hb hts hi3 hown hK hP 0 rfl rfl 18 (by decide) k2 (fun _ h9 => h9) rfl dX3_statement_54 ?_
            refine lv_aload_n hx hb dX3_statement_57 rfl (lv_at hl 1 rfl) ?_
            refine va_get (D := gD g) (ci := 3) (v := .int (tStm (mT σ))) (C := RX3) (T := TX3) (N := 33) hx hb hts hi3 hown hK hP 0 rfl rfl 22 (by decide) k1 (fun _ h9 => h9) rfl dX3_statement_58 ?_
            refine lv_aload_n hx hb dX3_statement_61 rfl (lv_at hl 1 rfl) ?_
            refine va_get (D := gD g) (ci := 3) (v := .int (tAt (mT σ))) (C := RX3) (T := TX3) (N := 33) hx hb hts hi3 hown hK hP 0 rfl rfl 21 (by decide) k3 (fun _ h9 => h9) rfl dX3_statement_62 ?_
            have h9 := hv.1
            have hv := hv.2
            refine va_iast (f := (tLetterAt (mT σ))) (n := 48) hx hb hK hP hD hS 14 0 rfl rfl h9 dX3_statement_65 (fun H locs hP hD hS => ?_)
            have hP : va_P (gD g) vwCl (wM g ad ((mS σ), ((tTape (mT σ)), (upd (tLetter (mT σ)) ((tStm (mT σ))).toNatClampNeg (nxt (mT σ) (tAt (mT σ)))), (upd (tLetterAt (mT σ)) ((tStm (mT σ))).toNatClampNeg (tAt (mT σ))), (tTold (mT σ)), (tTaped (mT σ)), (tAt (mT σ)), (tStm (mT σ))), (mK σ), (mF σ), (mRow σ), (mRowMany σ), (mLots σ), (mRefused σ))) H := hP
            have hD : va_D (AD ad 0 21) (wM g ad ((mS σ), ((tTape (mT σ)), (upd (tLetter (mT σ)) ((tStm (mT σ))).toNatClampNeg (nxt (mT σ) (tAt (mT σ)))), (upd (tLetterAt (mT σ)) ((tStm (mT σ))).toNatClampNeg (tAt (mT σ))), (tTold (mT σ)), (tTaped (mT σ)), (tAt (mT σ)), (tStm (mT σ))), (mK σ), (mF σ), (mRow σ), (mRowMany σ), (mLots σ), (mRefused σ))) := hD
            refine lv_aload_n hx hb dX3_statement_66 rfl (lv_at hl 1 rfl) ?_
            refine lv_dup hx hb dX3_statement_67 rfl ?_
            refine va_get (D := gD g) (ci := 3) (v := .int (tAt (mT σ))) (C := RX3) (T := TX3) (N := 33) hx hb hts hi3 hown hK hP 0 rfl rfl 21 (by decide) k3 (fun _ h9 => h9) rfl dX3_statement_68 ?_
            refine lv_iconst (v := 1) hx hb dX3_statement_71 (by decide) ?_
            refine lv_iadd hx hb dX3_statement_72 ?_
            refine va_put (D := gD g) (ci := 3) (v := .int ((tAt (mT σ)) + 1)) (ty := .int) (C := RX3) (T := TX3) (N := 33) hx hb hts hi3 tyX3 tyX3_ok nmX3 hown hK hP hD hS 0 rfl rfl 21 (by decide) k3 (fun _ h9 => h9) rfl (by decide +kernel) rfl rfl (Nat.le_of_ble_eq_true rfl) dX3_statement_73 (fun H locs hP hD hS => ?_)
            have hP : va_P (gD g) vwCl (wM g ad ((mS σ), ((tTape (mT σ)), (upd (tLetter (mT σ)) ((tStm (mT σ))).toNatClampNeg (nxt (mT σ) (tAt (mT σ)))), (upd (tLetterAt (mT σ)) ((tStm (mT σ))).toNatClampNeg (tAt (mT σ))), (tTold (mT σ)), (tTaped (mT σ)), ((tAt (mT σ)) + 1), (tStm (mT σ))), (mK σ), (mF σ), (mRow σ), (mRowMany σ), (mLots σ), (mRefused σ))) H := hP
            have hD : va_D (AD ad 0 21) (wM g ad ((mS σ), ((tTape (mT σ)), (upd (tLetter (mT σ)) ((tStm (mT σ))).toNatClampNeg (nxt (mT σ) (tAt (mT σ)))), (upd (tLetterAt (mT σ)) ((tStm (mT σ))).toNatClampNeg (tAt (mT σ))), (tTold (mT σ)), (tTaped (mT σ)), ((tAt (mT σ)) + 1), (tStm (mT σ))), (mK σ), (mF σ), (mRow σ), (mRowMany σ), (mLots σ), (mRefused σ))) := hD
            refine lv_aload_n hx hb dX3_statement_76 rfl (lv_at hl 1 rfl) ?_
            refine lv_iload_n hx hb dX3_statement_77 rfl (lv_at hl 0 rfl) ?_
            refine lv_iconst (v := 3) hx hb dX3_statement_78 (by decide) ?_
            refine lv_aload_n hx hb dX3_statement_79 rfl (lv_at hl 1 rfl) ?_
            refine va_get (D := gD g) (ci := 3) (v := .int (tStm (mT σ))) (C := RX3) (T := TX3) (N := 33) hx hb hts hi3 hown hK hP 0 rfl rfl 22 (by decide) k1 (fun _ h9 => h9) rfl dX3_statement_80 ?_
            refine lv_imul hx hb dX3_statement_83 ?_
            have h8 := hv.1
            have hv := hv.2
            have hPc := hP
            have hDc := hD
            refine rw_int (va_runV (As := [.int (nxt (mT σ) (tAt (mT σ))), .int (3 * (tStm (mT σ)))]) (rest := []) ⟨hx, hb, hml, hown, hts⟩ (h_X3_readsAll g ad ((mS σ), ((tTape (mT σ)), (upd (tLetter (mT σ)) ((tStm (mT σ))).toNatClampNeg (nxt (mT σ) (tAt (mT σ)))), (upd (tLetterAt (mT σ)) ((tStm (mT σ))).toNatClampNeg (tAt (mT σ))), (tTold (mT σ)), (tTaped (mT σ)), ((tAt (mT σ)) + 1), (tStm (mT σ))), (mK σ), (mF σ), (mRow σ), (mRowMany σ), (mLots σ), (mRefused σ)) (nxt (mT σ) (tAt (mT σ))) (3 * (tStm (mT σ))) h8) (cwV 2 hts gX3_statement_X3_readsAll rfl rfl rfl (by decide +kernel) ⟨Nat.le_of_ble_eq_true rfl, Nat.le_of_ble_eq_true rfl⟩) ⟨RW_blind, va_recv hK hP (ci := 3) (q0 := 0) rfl rfl, fun U hU hW => ⟨rfl, by rw [hU]; exact hPc, va_K.moved hW.alike hK, hE.call hW hU hS (fun _ h => h), hDc⟩⟩ rfl rfl hl.1 rfl (lv_room (Nat.le_of_ble_eq_true rfl)) dX3_statement_84 ⟨Nat.le_of_ble_eq_true rfl, Nat.le_of_ble_eq_true rfl⟩) hS (fun _ h => h) (fun r u84 H1 locs hw hP1 hk hS => ?_)
            obtain ⟨hw1, hw⟩ := hw; subst r
            have hv := hv u84 hw
            have hP := hP1
            generalize H1 = H at hP hS ⊢
            have hP : va_P (gD g) vwCl (wM g ad u84) H := hP
            have hD : va_D (AD ad 0 21) (wM g ad u84) := hD.addr (by rfl)
            refine lv_if_eq (tgt := 99) hx hb dX3_statement_87 (by decide) (fun c87 => ?_) (fun c87 => ?_)
            · have hv := hv.1 c87
              refine lv_iconst (v := 0) hx hb dX3_statement_99 (by decide) ?_
              exact W.zret (v := 0) hx hb hr rfl (fun t ht hW => ⟨⟨0, u84, rfl, hv, P_at ht hP⟩, hS.F ht⟩) hS.2.2 dX3_statement_100
            · have hv := hv.2 c87
              refine lv_aload_n hx hb dX3_statement_90 rfl (lv_at hl 1 rfl) ?_
              have h8 := hv.1
              have hv := hv.2
              have hPc := hP
              refine ro_int (va_runV (As := []) (rest := []) ⟨hx, hb, hml, hown, hts⟩ (h_X3_next g ad u84 h8) (cwV 0 hts gX3_statement_X3_next rfl rfl rfl (by decide +kernel) ⟨Nat.le_of_ble_eq_true rfl, Nat.le_of_ble_eq_true rfl⟩) ⟨RO_blind, va_recv hK hP (ci := 3) (q0 := 0) rfl rfl, fun U hU hW => ⟨rfl, by rw [hU]; exact hPc, va_K.moved hW.alike hK, hE.call hW hU hS (fun _ h => h.elim)⟩⟩ rfl rfl hl.1 rfl (lv_room (Nat.le_of_ble_eq_true rfl)) dX3_statement_91 ⟨Nat.le_of_ble_eq_true rfl, Nat.le_of_ble_eq_true rfl⟩) hS hP (fun r H locs hw hP hS => ?_)
              subst r
              refine lv_bipush (v := 59) hx hb dX3_statement_94 (by decide) ?_
              refine lv_icmp_eq (tgt := 101) hx hb dX3_statement_96 (by decide) (fun c96 => ?_) (fun c96 => ?_)
              · have hv := hv.1 c96
                refine lv_aload_n hx hb dX3_statement_101 rfl (lv_at hl 1 rfl) ?_
                refine lv_dup hx hb dX3_statement_102 rfl ?_
                refine va_get (D := gD g) (ci := 3) (v := .int (tAt (mT u84))) (C := RX3) (T := TX3) (N := 33) hx hb hts hi3 hown hK hP 0 rfl rfl 21 (by decide) k3 (fun _ h9 => h9) rfl dX3_statement_103 ?_
                refine lv_iconst (v := 1) hx hb dX3_statement_106 (by decide) ?_
                refine lv_iadd hx hb dX3_statement_107 ?_
                refine va_put (D := gD g) (ci := 3) (v := .int ((tAt (mT u84)) + 1)) (ty := .int) (C := RX3) (T := TX3) (N := 33) hx hb hts hi3 tyX3 tyX3_ok nmX3 hown hK hP hD hS 0 rfl rfl 21 (by decide) k3 (fun _ h9 => h9) rfl (by decide +kernel) rfl rfl (Nat.le_of_ble_eq_true rfl) dX3_statement_108 (fun H locs hP hD hS => ?_)
                have hP : va_P (gD g) vwCl (wM g ad ((mS u84), ((tTape (mT u84)), (tLetter (mT u84)), (tLetterAt (mT u84)), (tTold (mT u84)), (tTaped (mT u84)), ((tAt (mT u84)) + 1), (tStm (mT u84))), (mK u84), (mF u84), (mRow u84), (mRowMany u84), (mLots u84), (mRefused u84))) H := hP
                have hD : va_D (AD ad 0 21) (wM g ad ((mS u84), ((tTape (mT u84)), (tLetter (mT u84)), (tLetterAt (mT u84)), (tTold (mT u84)), (tTaped (mT u84)), ((tAt (mT u84)) + 1), (tStm (mT u84))), (mK u84), (mF u84), (mRow u84), (mRowMany u84), (mLots u84), (mRefused u84))) := hD
                refine lv_iconst (v := 1) hx hb dX3_statement_111 (by decide) ?_
                exact W.zret (v := 1) hx hb hr rfl (fun t ht hW => ⟨⟨1, ((mS u84), ((tTape (mT u84)), (tLetter (mT u84)), (tLetterAt (mT u84)), (tTold (mT u84)), (tTaped (mT u84)), ((tAt (mT u84)) + 1), (tStm (mT u84))), (mK u84), (mF u84), (mRow u84), (mRowMany u84), (mLots u84), (mRefused u84)), rfl, hv, P_at ht hP⟩, hS.F ht⟩) hS.2.2 dX3_statement_112
              · have hv := hv.2 c96
                refine lv_iconst (v := 0) hx hb dX3_statement_99 (by decide) ?_
                exact W.zret (v := 0) hx hb hr rfl (fun t ht hW => ⟨⟨0, u84, rfl, hv, P_at ht hP⟩, hS.F ht⟩) hS.2.2 dX3_statement_100
          · have hv := hv.2 c32
            refine lv_iload_n hx hb dX3_statement_35 rfl (lv_at hl 0 rfl) ?_
            refine lv_bipush (v := 110) hx hb dX3_statement_36 (by decide) ?_
            refine lv_icmp_eq (tgt := 43) hx hb dX3_statement_38 (by decide) (fun c38 => ?_) (fun c38 => ?_)
            · have hv := hv.1 c38
              refine lv_aload_n hx hb dX3_statement_43 rfl (lv_at hl 1 rfl) ?_
              refine va_get (D := gD g) (ci := 3) (v := .ref (ad 13)) (C := RX3) (T := TX3) (N := 33) hx hb hts hi3 hown hK hP 0 rfl rfl 17 (by decide) k0 (fun _ h9 => h9) rfl dX3_statement_44 ?_
              refine lv_aload_n hx hb dX3_statement_47 rfl (lv_at hl 1 rfl) ?_
              refine va_get (D := gD g) (ci := 3) (v := .int (tStm (mT σ))) (C := RX3) (T := TX3) (N := 33) hx hb hts hi3 hown hK hP 0 rfl rfl 22 (by decide) k1 (fun _ h9 => h9) rfl dX3_statement_48 ?_
              refine lv_iload_n hx hb dX3_statement_51 rfl (lv_at hl 0 rfl) ?_
              have h9 := hv.1
              have hv := hv.2
              refine va_iast (f := (tLetter (mT σ))) (n := 48) hx hb hK hP hD hS 13 0 rfl rfl h9 dX3_statement_52 (fun H locs hP hD hS => ?_)
              have hP : va_P (gD g) vwCl (wM g ad ((mS σ), ((tTape (mT σ)), (upd (tLetter (mT σ)) ((tStm (mT σ))).toNatClampNeg (nxt (mT σ) (tAt (mT σ)))), (tLetterAt (mT σ)), (tTold (mT σ)), (tTaped (mT σ)), (tAt (mT σ)), (tStm (mT σ))), (mK σ), (mF σ), (mRow σ), (mRowMany σ), (mLots σ), (mRefused σ))) H := hP
              have hD : va_D (AD ad 0 21) (wM g ad ((mS σ), ((tTape (mT σ)), (upd (tLetter (mT σ)) ((tStm (mT σ))).toNatClampNeg (nxt (mT σ) (tAt (mT σ)))), (tLetterAt (mT σ)), (tTold (mT σ)), (tTaped (mT σ)), (tAt (mT σ)), (tStm (mT σ))), (mK σ), (mF σ), (mRow σ), (mRowMany σ), (mLots σ), (mRefused σ))) := hD
              refine lv_aload_n hx hb dX3_statement_53 rfl (lv_at hl 1 rfl) ?_
              refine va_get (D := gD g) (ci := 3) (v := .ref (ad 14)) (C := RX3) (T := TX3) (N := 33) hx hb hts hi3 hown hK hP 0 rfl rfl 18 (by decide) k2 (fun _ h9 => h9) rfl dX3_statement_54 ?_
              refine lv_aload_n hx hb dX3_statement_57 rfl (lv_at hl 1 rfl) ?_
              refine va_get (D := gD g) (ci := 3) (v := .int (tStm (mT σ))) (C := RX3) (T := TX3) (N := 33) hx hb hts hi3 hown hK hP 0 rfl rfl 22 (by decide) k1 (fun _ h9 => h9) rfl dX3_statement_58 ?_
              refine lv_aload_n hx hb dX3_statement_61 rfl (lv_at hl 1 rfl) ?_
              refine va_get (D := gD g) (ci := 3) (v := .int (tAt (mT σ))) (C := RX3) (T := TX3) (N := 33) hx hb hts hi3 hown hK hP 0 rfl rfl 21 (by decide) k3 (fun _ h9 => h9) rfl dX3_statement_62 ?_
              have h9 := hv.1
              have hv := hv.2
              refine va_iast (f := (tLetterAt (mT σ))) (n := 48) hx hb hK hP hD hS 14 0 rfl rfl h9 dX3_statement_65 (fun H locs hP hD hS => ?_)
              have hP : va_P (gD g) vwCl (wM g ad ((mS σ), ((tTape (mT σ)), (upd (tLetter (mT σ)) ((tStm (mT σ))).toNatClampNeg (nxt (mT σ) (tAt (mT σ)))), (upd (tLetterAt (mT σ)) ((tStm (mT σ))).toNatClampNeg (tAt (mT σ))), (tTold (mT σ)), (tTaped (mT σ)), (tAt (mT σ)), (tStm (mT σ))), (mK σ), (mF σ), (mRow σ), (mRowMany σ), (mLots σ), (mRefused σ))) H := hP
              have hD : va_D (AD ad 0 21) (wM g ad ((mS σ), ((tTape (mT σ)), (upd (tLetter (mT σ)) ((tStm (mT σ))).toNatClampNeg (nxt (mT σ) (tAt (mT σ)))), (upd (tLetterAt (mT σ)) ((tStm (mT σ))).toNatClampNeg (tAt (mT σ))), (tTold (mT σ)), (tTaped (mT σ)), (tAt (mT σ)), (tStm (mT σ))), (mK σ), (mF σ), (mRow σ), (mRowMany σ), (mLots σ), (mRefused σ))) := hD
              refine lv_aload_n hx hb dX3_statement_66 rfl (lv_at hl 1 rfl) ?_
              refine lv_dup hx hb dX3_statement_67 rfl ?_
              refine va_get (D := gD g) (ci := 3) (v := .int (tAt (mT σ))) (C := RX3) (T := TX3) (N := 33) hx hb hts hi3 hown hK hP 0 rfl rfl 21 (by decide) k3 (fun _ h9 => h9) rfl dX3_statement_68 ?_
              refine lv_iconst (v := 1) hx hb dX3_statement_71 (by decide) ?_
              refine lv_iadd hx hb dX3_statement_72 ?_
              refine va_put (D := gD g) (ci := 3) (v := .int ((tAt (mT σ)) + 1)) (ty := .int) (C := RX3) (T := TX3) (N := 33) hx hb hts hi3 tyX3 tyX3_ok nmX3 hown hK hP hD hS 0 rfl rfl 21 (by decide) k3 (fun _ h9 => h9) rfl (by decide +kernel) rfl rfl (Nat.le_of_ble_eq_true rfl) dX3_statement_73 (fun H locs hP hD hS => ?_)
              have hP : va_P (gD g) vwCl (wM g ad ((mS σ), ((tTape (mT σ)), (upd (tLetter (mT σ)) ((tStm (mT σ))).toNatClampNeg (nxt (mT σ) (tAt (mT σ)))), (upd (tLetterAt (mT σ)) ((tStm (mT σ))).toNatClampNeg (tAt (mT σ))), (tTold (mT σ)), (tTaped (mT σ)), ((tAt (mT σ)) + 1), (tStm (mT σ))), (mK σ), (mF σ), (mRow σ), (mRowMany σ), (mLots σ), (mRefused σ))) H := hP
              have hD : va_D (AD ad 0 21) (wM g ad ((mS σ), ((tTape (mT σ)), (upd (tLetter (mT σ)) ((tStm (mT σ))).toNatClampNeg (nxt (mT σ) (tAt (mT σ)))), (upd (tLetterAt (mT σ)) ((tStm (mT σ))).toNatClampNeg (tAt (mT σ))), (tTold (mT σ)), (tTaped (mT σ)), ((tAt (mT σ)) + 1), (tStm (mT σ))), (mK σ), (mF σ), (mRow σ), (mRowMany σ), (mLots σ), (mRefused σ))) := hD
              refine lv_aload_n hx hb dX3_statement_76 rfl (lv_at hl 1 rfl) ?_
              refine lv_iload_n hx hb dX3_statement_77 rfl (lv_at hl 0 rfl) ?_
              refine lv_iconst (v := 3) hx hb dX3_statement_78 (by decide) ?_
              refine lv_aload_n hx hb dX3_statement_79 rfl (lv_at hl 1 rfl) ?_
              refine va_get (D := gD g) (ci := 3) (v := .int (tStm (mT σ))) (C := RX3) (T := TX3) (N := 33) hx hb hts hi3 hown hK hP 0 rfl rfl 22 (by decide) k1 (fun _ h9 => h9) rfl dX3_statement_80 ?_
              refine lv_imul hx hb dX3_statement_83 ?_
              have h8 := hv.1
              have hv := hv.2
              have hPc := hP
              have hDc := hD
              refine rw_int (va_runV (As := [.int (nxt (mT σ) (tAt (mT σ))), .int (3 * (tStm (mT σ)))]) (rest := []) ⟨hx, hb, hml, hown, hts⟩ (h_X3_readsAll g ad ((mS σ), ((tTape (mT σ)), (upd (tLetter (mT σ)) ((tStm (mT σ))).toNatClampNeg (nxt (mT σ) (tAt (mT σ)))), (upd (tLetterAt (mT σ)) ((tStm (mT σ))).toNatClampNeg (tAt (mT σ))), (tTold (mT σ)), (tTaped (mT σ)), ((tAt (mT σ)) + 1), (tStm (mT σ))), (mK σ), (mF σ), (mRow σ), (mRowMany σ), (mLots σ), (mRefused σ)) (nxt (mT σ) (tAt (mT σ))) (3 * (tStm (mT σ))) h8) (cwV 2 hts gX3_statement_X3_readsAll rfl rfl rfl (by decide +kernel) ⟨Nat.le_of_ble_eq_true rfl, Nat.le_of_ble_eq_true rfl⟩) ⟨RW_blind, va_recv hK hP (ci := 3) (q0 := 0) rfl rfl, fun U hU hW => ⟨rfl, by rw [hU]; exact hPc, va_K.moved hW.alike hK, hE.call hW hU hS (fun _ h => h), hDc⟩⟩ rfl rfl hl.1 rfl (lv_room (Nat.le_of_ble_eq_true rfl)) dX3_statement_84 ⟨Nat.le_of_ble_eq_true rfl, Nat.le_of_ble_eq_true rfl⟩) hS (fun _ h => h) (fun r u84 H1 locs hw hP1 hk hS => ?_)
              obtain ⟨hw1, hw⟩ := hw; subst r
              have hv := hv u84 hw
              have hP := hP1
              generalize H1 = H at hP hS ⊢
              have hP : va_P (gD g) vwCl (wM g ad u84) H := hP
              have hD : va_D (AD ad 0 21) (wM g ad u84) := hD.addr (by rfl)
              refine lv_if_eq (tgt := 99) hx hb dX3_statement_87 (by decide) (fun c87 => ?_) (fun c87 => ?_)
              · have hv := hv.1 c87
                refine lv_iconst (v := 0) hx hb dX3_statement_99 (by decide) ?_
                exact W.zret (v := 0) hx hb hr rfl (fun t ht hW => ⟨⟨0, u84, rfl, hv, P_at ht hP⟩, hS.F ht⟩) hS.2.2 dX3_statement_100
              · have hv := hv.2 c87
                refine lv_aload_n hx hb dX3_statement_90 rfl (lv_at hl 1 rfl) ?_
                have h8 := hv.1
                have hv := hv.2
                have hPc := hP
                refine ro_int (va_runV (As := []) (rest := []) ⟨hx, hb, hml, hown, hts⟩ (h_X3_next g ad u84 h8) (cwV 0 hts gX3_statement_X3_next rfl rfl rfl (by decide +kernel) ⟨Nat.le_of_ble_eq_true rfl, Nat.le_of_ble_eq_true rfl⟩) ⟨RO_blind, va_recv hK hP (ci := 3) (q0 := 0) rfl rfl, fun U hU hW => ⟨rfl, by rw [hU]; exact hPc, va_K.moved hW.alike hK, hE.call hW hU hS (fun _ h => h.elim)⟩⟩ rfl rfl hl.1 rfl (lv_room (Nat.le_of_ble_eq_true rfl)) dX3_statement_91 ⟨Nat.le_of_ble_eq_true rfl, Nat.le_of_ble_eq_true rfl⟩) hS hP (fun r H locs hw hP hS => ?_)
                subst r
                refine lv_bipush (v := 59) hx hb dX3_statement_94 (by decide) ?_
                refine lv_icmp_eq (tgt := 101) hx hb dX3_statement_96 (by decide) (fun c96 => ?_) (fun c96 => ?_)
                · have hv := hv.1 c96
                  refine lv_aload_n hx hb dX3_statement_101 rfl (lv_at hl 1 rfl) ?_
                  refine lv_dup hx hb dX3_statement_102 rfl ?_
                  refine va_get (D := gD g) (ci := 3) (v := .int (tAt (mT u84))) (C := RX3) (T := TX3) (N := 33) hx hb hts hi3 hown hK hP 0 rfl rfl 21 (by decide) k3 (fun _ h9 => h9) rfl dX3_statement_103 ?_
                  refine lv_iconst (v := 1) hx hb dX3_statement_106 (by decide) ?_
                  refine lv_iadd hx hb dX3_statement_107 ?_
                  refine va_put (D := gD g) (ci := 3) (v := .int ((tAt (mT u84)) + 1)) (ty := .int) (C := RX3) (T := TX3) (N := 33) hx hb hts hi3 tyX3 tyX3_ok nmX3 hown hK hP hD hS 0 rfl rfl 21 (by decide) k3 (fun _ h9 => h9) rfl (by decide +kernel) rfl rfl (Nat.le_of_ble_eq_true rfl) dX3_statement_108 (fun H locs hP hD hS => ?_)
                  have hP : va_P (gD g) vwCl (wM g ad ((mS u84), ((tTape (mT u84)), (tLetter (mT u84)), (tLetterAt (mT u84)), (tTold (mT u84)), (tTaped (mT u84)), ((tAt (mT u84)) + 1), (tStm (mT u84))), (mK u84), (mF u84), (mRow u84), (mRowMany u84), (mLots u84), (mRefused u84))) H := hP
                  have hD : va_D (AD ad 0 21) (wM g ad ((mS u84), ((tTape (mT u84)), (tLetter (mT u84)), (tLetterAt (mT u84)), (tTold (mT u84)), (tTaped (mT u84)), ((tAt (mT u84)) + 1), (tStm (mT u84))), (mK u84), (mF u84), (mRow u84), (mRowMany u84), (mLots u84), (mRefused u84))) := hD
                  refine lv_iconst (v := 1) hx hb dX3_statement_111 (by decide) ?_
                  exact W.zret (v := 1) hx hb hr rfl (fun t ht hW => ⟨⟨1, ((mS u84), ((tTape (mT u84)), (tLetter (mT u84)), (tLetterAt (mT u84)), (tTold (mT u84)), (tTaped (mT u84)), ((tAt (mT u84)) + 1), (tStm (mT u84))), (mK u84), (mF u84), (mRow u84), (mRowMany u84), (mLots u84), (mRefused u84)), rfl, hv, P_at ht hP⟩, hS.F ht⟩) hS.2.2 dX3_statement_112
                · have hv := hv.2 c96
                  refine lv_iconst (v := 0) hx hb dX3_statement_99 (by decide) ?_
                  exact W.zret (v := 0) hx hb hr rfl (fun t ht hW => ⟨⟨0, u84, rfl, hv, P_at ht hP⟩, hS.F ht⟩) hS.2.2 dX3_statement_100
            · have hv := hv.2 c38
              refine lv_iconst (v := 0) hx hb dX3_statement_41 (by decide) ?_
              exact W.zret (v := 0) hx hb hr rfl (fun t ht hW => ⟨⟨0, σ, rfl, hv, P_at ht hP⟩, hS.F ht⟩) hS.2.2 dX3_statement_42

