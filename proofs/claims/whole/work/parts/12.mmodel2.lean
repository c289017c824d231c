set_option maxHeartbeats 4000000 in
set_option maxRecDepth 100000 in
theorem m_X3_knows (l : Launch) (h_X3_bound : C_X3_bound l) (h_X3_isWitness : C_X3_isWitness l) (h_X3_no : C_X3_no l) (g : CX) (ad : Nat → Nat) (σ : KM) (p0 : Int32) (p1 : Int32) (Post : Int32 → KM → Prop) (hv : vc_X3_knows σ p0 p1 Post) : Met l yX3_knows wsX3_knows { frames := 1, cells := 0, slots := 0, locals := 22 } (va_Pc [.ref (ad 0), .int p0, .int p1] (RW g (AD ad 0 21) (wM g ad σ))) (va_Qi (fun (r : Int32) (u : KM) => Post r u) (fun u t => va_P (gD g) vwCl (wM g ad u) t.heap) (AD ad 0 21)) 0 0 (AD ad 0 21) := by
  unfold vc_X3_knows at hv
  refine Met.ofW (cc := cX3_knows) (maxL := 5) (ret := (some .int)) (by decide) rfl ?_
  intro p e s m args below meth c s₁ B hml hv0
  obtain ⟨rfl, hP, hK, hE, hD⟩ := hv0
  have hx := B.exec
  have hb := B.bytes
  have hr := B.returns
  have hts := atoms_spec (ws := wsX3_knows) B.pre
  have hown : s.vm.findClass RX3 = some m.cls := findClass_of_methodNamed B.named
  have hlocks := B.notSynchronized
  have hi3 : ∀ w ∈ wsX30, w ∈ wsX3_knows := by decide +kernel
  have k0 := hts (.fieldLink RX3 28 "JuryHearsAnswersModel" "knows" "[I") (by decide +kernel)
  have hS : va_S (AD ad 0 21) s.heap s.heap [] := va_S.rf
  have hP : va_P (gD g) vwCl (wM g ad σ) s.heap := hP
  have hl := lv_entry ([.ref (ad 0), .int p0, .int p1]) (n := 5) (Nat.le_of_ble_eq_true rfl)
  rw [lg_entry_eq]
  generalize (lg_sl ([.ref (ad 0), .int p0, .int p1]) ++ List.replicate (5 - (lg_sl ([.ref (ad 0), .int p0, .int p1])).length) Slot.unset).toArray = ls at hl ⊢
  have hl : lv_has ls 5 [(0, .ref (ad 0)), (1, .int p0), (2, .int p1)] := hl
  obtain ⟨H, hH⟩ : ∃ z, z = s.heap := ⟨_, rfl⟩
  obtain ⟨locs, hL⟩ : ∃ z : List Loc, z = [] := ⟨_, rfl⟩
  rw [← hL] at hS ⊢
  have hS : va_S (AD ad 0 21) s.heap H locs := by rw [hH]; exact hS
  rw [← hH] at hP ⊢
  clear hH hL
  refine lv_aload_n hx hb dX3_knows_0 rfl (lv_at hl 0 rfl) ?_
  refine lv_iload_n hx hb dX3_knows_1 rfl (lv_at hl 1 rfl) ?_
  have hPc := hP
  refine ro_int (va_runV (As := [.int p0]) (rest := []) ⟨hx, hb, hml, hown, hts⟩ (h_X3_isWitness g ad σ p0) (cwV 1 hts gX3_knows_X3_isWitness rfl rfl rfl (by decide +kernel) ⟨Nat.le_of_ble_eq_true rfl, Nat.le_of_ble_eq_true rfl⟩) ⟨RO_blind, va_recv hK hP (ci := 3) (q0 := 0) rfl rfl, fun U hU hW => ⟨rfl, by rw [hU]; exact hPc, va_K.moved hW.alike hK, hE.call hW hU hS (fun _ h => h.elim)⟩⟩ rfl rfl hl.1 rfl (lv_room (Nat.le_of_ble_eq_true rfl)) dX3_knows_2 ⟨Nat.le_of_ble_eq_true rfl, Nat.le_of_ble_eq_true rfl⟩) hS hP (fun r H locs hw hP hS => ?_)
  subst r
  refine lv_if_ne (tgt := 12) hx hb dX3_knows_5 (by decide) (fun c5 => ?_) (fun c5 => ?_)
  · have hv := hv.1 c5
    refine lv_iload_n hx hb dX3_knows_12 rfl (lv_at hl 2 rfl) ?_
    refine lv_iconst (v := 0) hx hb dX3_knows_13 (by decide) ?_
    refine lv_bipush (v := 63) hx hb dX3_knows_14 (by decide) ?_
    have hPc : va_P (gD g) vwCl [] H := fun k q h => by simp at h
    refine ro_int (va_runS (As := [.int p1, .int 0, .int 63]) (rest := []) ⟨hx, hb, hml, hown, hts⟩ (h_X3_bound g p1 0 63) (va_cwS 3 hts gX3_knows_X3_bound rfl rfl rfl (by decide +kernel) ⟨Nat.le_of_ble_eq_true rfl, Nat.le_of_ble_eq_true rfl⟩) ⟨RO_blind, fun U hU hW => ⟨rfl, by rw [hU]; exact hPc, va_K.moved hW.alike hK, hE.call hW hU hS (fun _ h => h.elim)⟩⟩ rfl rfl hl.1 rfl (lv_room (Nat.le_of_ble_eq_true rfl)) dX3_knows_16 ⟨Nat.le_of_ble_eq_true rfl, Nat.le_of_ble_eq_true rfl⟩) hS hP (fun r H locs hw hP hS => ?_)
    subst r
    refine lv_istore_n (lv' := [(3, .int (boundI p1 (0 : Int32) (63 : Int32))), (0, .ref (ad 0)), (1, .int p0), (2, .int p1)]) hx hb dX3_knows_19 rfl hl (by decide) rfl (fun ls hl => ?_)
    refine lv_iload_n hx hb dX3_knows_20 rfl (lv_at hl 0 rfl) ?_
    refine lv_if_eq (tgt := 30) hx hb dX3_knows_21 (by decide) (fun c21 => ?_) (fun c21 => ?_)
    · have hv := hv.1 c21
      refine lv_aload_n hx hb dX3_knows_30 rfl (lv_at hl 1 rfl) ?_
      refine va_get (D := gD g) (ci := 3) (v := .ref (ad 7)) (C := RX3) (T := TX3) (N := 33) hx hb hts hi3 hown hK hP 0 rfl rfl 6 (by decide) k0 (fun _ h9 => h9) rfl dX3_knows_31 ?_
      refine lv_iload_n hx hb dX3_knows_34 rfl (lv_at hl 2 rfl) ?_
      have h9 := hv.1
      have hv := hv.2
      refine va_iald (f := (sKnows (mS σ))) (n := 5) hx hb hK hP 7 0 rfl rfl h9 dX3_knows_35 ?_
      refine lv_istore (lv' := [(4, .int ((sKnows (mS σ)) (p0).toNatClampNeg)), (3, .int (boundI p1 (0 : Int32) (63 : Int32))), (0, .ref (ad 0)), (1, .int p0), (2, .int p1)]) hx hb dX3_knows_36 hl (by decide) rfl (fun ls hl => ?_)
      refine lv_aload_n hx hb dX3_knows_38 rfl (lv_at hl 2 rfl) ?_
      refine va_get (D := gD g) (ci := 3) (v := .ref (ad 7)) (C := RX3) (T := TX3) (N := 33) hx hb hts hi3 hown hK hP 0 rfl rfl 6 (by decide) k0 (fun _ h9 => h9) rfl dX3_knows_39 ?_
      refine lv_iload_n hx hb dX3_knows_42 rfl (lv_at hl 3 rfl) ?_
      refine lv_iload_n hx hb dX3_knows_43 rfl (lv_at hl 4 rfl) ?_
      have h9 := hv.1
      have hv := hv.2
      refine va_iast (f := (sKnows (mS σ))) (n := 5) hx hb hK hP hD hS 7 0 rfl rfl h9 dX3_knows_44 (fun H locs hP hD hS => ?_)
      have hP : va_P (gD g) vwCl (wM g ad (((sCase (mS σ)), (sAsked (mS σ)), (sNq (mS σ)), (sNw (mS σ)), (sNh (mS σ)), (sForm (mS σ)), (sFirst (mS σ)), (sSecond (mS σ)), (sKind (mS σ)), (sFigure (mS σ)), (upd (sKnows (mS σ)) (p0).toNatClampNeg p1), (sWhom (mS σ)), (sWhat (mS σ)), (sSaid (mS σ)), (sWhen (mS σ))), (mT σ), (mK σ), (mF σ), (mRow σ), (mRowMany σ), (mLots σ), (mRefused σ))) H := hP
      have hD : va_D (AD ad 0 21) (wM g ad (((sCase (mS σ)), (sAsked (mS σ)), (sNq (mS σ)), (sNw (mS σ)), (sNh (mS σ)), (sForm (mS σ)), (sFirst (mS σ)), (sSecond (mS σ)), (sKind (mS σ)), (sFigure (mS σ)), (upd (sKnows (mS σ)) (p0).toNatClampNeg p1), (sWhom (mS σ)), (sWhat (mS σ)), (sSaid (mS σ)), (sWhen (mS σ))), (mT σ), (mK σ), (mF σ), (mRow σ), (mRowMany σ), (mLots σ), (mRefused σ))) := hD
      refine lv_iload hx hb dX3_knows_45 (lv_at hl 0 rfl) ?_
      exact W.iret (v := ((sKnows (mS σ)) (p0).toNatClampNeg)) hx hb hr (fun t ht hW => ⟨⟨((sKnows (mS σ)) (p0).toNatClampNeg), (((sCase (mS σ)), (sAsked (mS σ)), (sNq (mS σ)), (sNw (mS σ)), (sNh (mS σ)), (sForm (mS σ)), (sFirst (mS σ)), (sSecond (mS σ)), (sKind (mS σ)), (sFigure (mS σ)), (upd (sKnows (mS σ)) (p0).toNatClampNeg p1), (sWhom (mS σ)), (sWhat (mS σ)), (sSaid (mS σ)), (sWhen (mS σ))), (mT σ), (mK σ), (mF σ), (mRow σ), (mRowMany σ), (mLots σ), (mRefused σ)), rfl, hv, P_at ht hP⟩, hS.F ht⟩) hS.2.2 dX3_knows_47
    · have hv := hv.2 c21
      refine lv_aload_n hx hb dX3_knows_24 rfl (lv_at hl 1 rfl) ?_
      refine lv_iload_n hx hb dX3_knows_25 rfl (lv_at hl 0 rfl) ?_
      have h8 := hv.1
      have hv := hv.2
      have hPc := hP
      have hDc := hD
      refine rw_int (va_runV (As := [.int (boundI p1 (0 : Int32) (63 : Int32))]) (rest := []) ⟨hx, hb, hml, hown, hts⟩ (h_X3_no g ad σ (boundI p1 (0 : Int32) (63 : Int32)) h8) (cwV 1 hts gX3_knows_X3_no rfl rfl rfl (by decide +kernel) ⟨Nat.le_of_ble_eq_true rfl, Nat.le_of_ble_eq_true rfl⟩) ⟨RW_blind, va_recv hK hP (ci := 3) (q0 := 0) rfl rfl, fun U hU hW => ⟨rfl, by rw [hU]; exact hPc, va_K.moved hW.alike hK, hE.call hW hU hS (fun _ h => h), hDc⟩⟩ rfl rfl hl.1 rfl (lv_room (Nat.le_of_ble_eq_true rfl)) dX3_knows_26 ⟨Nat.le_of_ble_eq_true rfl, Nat.le_of_ble_eq_true rfl⟩) hS (fun _ h => h) (fun r u H1 locs hw hP1 hk hS => ?_)
      obtain ⟨hw1, hw⟩ := hw; subst r; subst u
      have hP := hP1
      generalize H1 = H at hP hS ⊢
      have hP : va_P (gD g) vwCl (wM g ad ((mS σ), (mT σ), (mK σ), (mF σ), (mRow σ), (mRowMany σ), (mLots σ), (refuX (mRefused σ) (boundI p1 (0 : Int32) (63 : Int32))))) H := hP
      have hD : va_D (AD ad 0 21) (wM g ad ((mS σ), (mT σ), (mK σ), (mF σ), (mRow σ), (mRowMany σ), (mLots σ), (refuX (mRefused σ) (boundI p1 (0 : Int32) (63 : Int32))))) := hD.addr (by rfl)
      exact W.iret (v := ((boundI p1 (0 : Int32) (63 : Int32)))) hx hb hr (fun t ht hW => ⟨⟨((boundI p1 (0 : Int32) (63 : Int32))), ((mS σ), (mT σ), (mK σ), (mF σ), (mRow σ), (mRowMany σ), (mLots σ), (refuX (mRefused σ) (boundI p1 (0 : Int32) (63 : Int32)))), rfl, hv, P_at ht hP⟩, hS.F ht⟩) hS.2.2 dX3_knows_29
  · have hv := hv.2 c5
    refine lv_iconst (v := (-1)) hx hb dX3_knows_8 (by decide) ?_
    refine lv_goto (tgt := 19) hx hb dX3_knows_9 (by decide) ?_
    refine lv_istore_n (lv' := [(3, .int (-1)), (0, .ref (ad 0)), (1, .int p0), (2, .int p1)]) hx hb dX3_knows_19 rfl hl (by decide) rfl (fun ls hl => ?_)
    refine lv_iload_n hx hb dX3_knows_20 rfl (lv_at hl 0 rfl) ?_
    refine lv_if_eq (tgt := 30) hx hb dX3_knows_21 (by decide) (fun c21 => ?_) (fun c21 => ?_)
    · exact absurd c21 (by decide)
    · refine lv_aload_n hx hb dX3_knows_24 rfl (lv_at hl 1 rfl) ?_
      refine lv_iload_n hx hb dX3_knows_25 rfl (lv_at hl 0 rfl) ?_
      have h8 := hv.1
      have hv := hv.2
      have hPc := hP
      have hDc := hD
      refine rw_int (va_runV (As := [.int (-1)]) (rest := []) ⟨hx, hb, hml, hown, hts⟩ (h_X3_no g ad σ (-1) h8) (cwV 1 hts gX3_knows_X3_no rfl rfl rfl (by decide +kernel) ⟨Nat.le_of_ble_eq_true rfl, Nat.le_of_ble_eq_true rfl⟩) ⟨RW_blind, va_recv hK hP (ci := 3) (q0 := 0) rfl rfl, fun U hU hW => ⟨rfl, by rw [hU]; exact hPc, va_K.moved hW.alike hK, hE.call hW hU hS (fun _ h => h), hDc⟩⟩ rfl rfl hl.1 rfl (lv_room (Nat.le_of_ble_eq_true rfl)) dX3_knows_26 ⟨Nat.le_of_ble_eq_true rfl, Nat.le_of_ble_eq_true rfl⟩) hS (fun _ h => h) (fun r u H1 locs hw hP1 hk hS => ?_)
      obtain ⟨hw1, hw⟩ := hw; subst r; subst u
      have hP := hP1
      generalize H1 = H at hP hS ⊢
      have hP : va_P (gD g) vwCl (wM g ad ((mS σ), (mT σ), (mK σ), (mF σ), (mRow σ), (mRowMany σ), (mLots σ), (refuX (mRefused σ) ((-1) : Int32)))) H := hP
      have hD : va_D (AD ad 0 21) (wM g ad ((mS σ), (mT σ), (mK σ), (mF σ), (mRow σ), (mRowMany σ), (mLots σ), (refuX (mRefused σ) ((-1) : Int32)))) := hD.addr (by rfl)
      exact W.iret (v := (((-1) : Int32))) hx hb hr (fun t ht hW => ⟨⟨(((-1) : Int32)), ((mS σ), (mT σ), (mK σ), (mF σ), (mRow σ), (mRowMany σ), (mLots σ), (refuX (mRefused σ) ((-1) : Int32))), rfl, hv, P_at ht hP⟩, hS.F ht⟩) hS.2.2 dX3_knows_29

set_option maxHeartbeats 4000000 in
set_option maxRecDepth 100000 in
theorem m_X3_turn (l : Launch) (h_X3_bound : C_X3_bound l) (h_X3_isIn : C_X3_isIn l) (h_X3_isWitness : C_X3_isWitness l) (h_X3_no : C_X3_no l) (g : CX) (ad : Nat → Nat) (σ : KM) (p0 : Int32) (p1 : Int32) (p2 : Int32) (Post : Int32 → KM → Prop) (hv : vc_X3_turn σ p0 p1 p2 Post) : Met l yX3_turn wsX3_turn { frames := 1, cells := 0, slots := 0, locals := 22 } (va_Pc [.ref (ad 0), .int p0, .int p1, .int p2] (RW g (AD ad 0 21) (wM g ad σ))) (va_Qi (fun (r : Int32) (u : KM) => Post r u) (fun u t => va_P (gD g) vwCl (wM g ad u) t.heap) (AD ad 0 21)) 0 0 (AD ad 0 21) := by
  unfold vc_X3_turn at hv
  refine Met.ofW (cc := cX3_turn) (maxL := 6) (ret := (some .int)) (by decide) rfl ?_
  intro p e s m args below meth c s₁ B hml hv0
  obtain ⟨rfl, hP, hK, hE, hD⟩ := hv0
  have hx := B.exec
  have hb := B.bytes
  have hr := B.returns
  have hts := atoms_spec (ws := wsX3_turn) B.pre
  have hown : s.vm.findClass RX3 = some m.cls := findClass_of_methodNamed B.named
  have hlocks := B.notSynchronized
  have hi3 : ∀ w ∈ wsX30, w ∈ wsX3_turn := by decide +kernel
  have k0 := hts (.fieldLink RX3 22 "JuryHearsAnswersModel" "kind" "[I") (by decide +kernel)
  have k1 := hts (.fieldLink RX3 25 "JuryHearsAnswersModel" "figure" "[I") (by decide +kernel)
  have hS : va_S (AD ad 0 21) s.heap s.heap [] := va_S.rf
  have hP : va_P (gD g) vwCl (wM g ad σ) s.heap := hP
  have hl := lv_entry ([.ref (ad 0), .int p0, .int p1, .int p2]) (n := 6) (Nat.le_of_ble_eq_true rfl)
  rw [lg_entry_eq]
  generalize (lg_sl ([.ref (ad 0), .int p0, .int p1, .int p2]) ++ List.replicate (6 - (lg_sl ([.ref (ad 0), .int p0, .int p1, .int p2])).length) Slot.unset).toArray = ls at hl ⊢
  have hl : lv_has ls 6 [(0, .ref (ad 0)), (1, .int p0), (2, .int p1), (3, .int p2)] := hl
  obtain ⟨H, hH⟩ : ∃ z, z = s.heap := ⟨_, rfl⟩
  obtain ⟨locs, hL⟩ : ∃ z : List Loc, z = [] := ⟨_, rfl⟩
  rw [← hL] at hS ⊢
  have hS : va_S (AD ad 0 21) s.heap H locs := by rw [hH]; exact hS
  rw [← hH] at hP ⊢
  clear hH hL
  refine lv_aload_n hx hb dX3_turn_0 rfl (lv_at hl 0 rfl) ?_
  refine lv_iload_n hx hb dX3_turn_1 rfl (lv_at hl 1 rfl) ?_
  have hPc := hP
  refine ro_int (va_runV (As := [.int p0]) (rest := []) ⟨hx, hb, hml, hown, hts⟩ (h_X3_isWitness g ad σ p0) (cwV 1 hts gX3_turn_X3_isWitness rfl rfl rfl (by decide +kernel) ⟨Nat.le_of_ble_eq_true rfl, Nat.le_of_ble_eq_true rfl⟩) ⟨RO_blind, va_recv hK hP (ci := 3) (q0 := 0) rfl rfl, fun U hU hW => ⟨rfl, by rw [hU]; exact hPc, va_K.moved hW.alike hK, hE.call hW hU hS (fun _ h => h.elim)⟩⟩ rfl rfl hl.1 rfl (lv_room (Nat.le_of_ble_eq_true rfl)) dX3_turn_2 ⟨Nat.le_of_ble_eq_true rfl, Nat.le_of_ble_eq_true rfl⟩) hS hP (fun r H locs hw hP hS => ?_)
  subst r
  refine lv_if_ne (tgt := 12) hx hb dX3_turn_5 (by decide) (fun c5 => ?_) (fun c5 => ?_)
  · have hv := hv.1 c5
    refine lv_iload_n hx hb dX3_turn_12 rfl (lv_at hl 2 rfl) ?_
    refine lv_iconst (v := 0) hx hb dX3_turn_13 (by decide) ?_
    refine lv_iconst (v := 5) hx hb dX3_turn_14 (by decide) ?_
    have hPc : va_P (gD g) vwCl [] H := fun k q h => by simp at h
    refine ro_int (va_runS (As := [.int p1, .int 0, .int 5]) (rest := []) ⟨hx, hb, hml, hown, hts⟩ (h_X3_isIn g p1 0 5) (va_cwS 3 hts gX3_turn_X3_isIn rfl rfl rfl (by decide +kernel) ⟨Nat.le_of_ble_eq_true rfl, Nat.le_of_ble_eq_true rfl⟩) ⟨RO_blind, fun U hU hW => ⟨rfl, by rw [hU]; exact hPc, va_K.moved hW.alike hK, hE.call hW hU hS (fun _ h => h.elim)⟩⟩ rfl rfl hl.1 rfl (lv_room (Nat.le_of_ble_eq_true rfl)) dX3_turn_15 ⟨Nat.le_of_ble_eq_true rfl, Nat.le_of_ble_eq_true rfl⟩) hS hP (fun r H locs hw hP hS => ?_)
    subst r
    refine lv_if_ne (tgt := 26) hx hb dX3_turn_18 (by decide) (fun c18 => ?_) (fun c18 => ?_)
    · have hv := hv.1 c18
      refine lv_iload_n hx hb dX3_turn_26 rfl (lv_at hl 3 rfl) ?_
      refine lv_iconst (v := 0) hx hb dX3_turn_27 (by decide) ?_
      refine lv_bipush (v := 9) hx hb dX3_turn_28 (by decide) ?_
      have hPc : va_P (gD g) vwCl [] H := fun k q h => by simp at h
      refine ro_int (va_runS (As := [.int p2, .int 0, .int 9]) (rest := []) ⟨hx, hb, hml, hown, hts⟩ (h_X3_bound g p2 0 9) (va_cwS 3 hts gX3_turn_X3_bound rfl rfl rfl (by decide +kernel) ⟨Nat.le_of_ble_eq_true rfl, Nat.le_of_ble_eq_true rfl⟩) ⟨RO_blind, fun U hU hW => ⟨rfl, by rw [hU]; exact hPc, va_K.moved hW.alike hK, hE.call hW hU hS (fun _ h => h.elim)⟩⟩ rfl rfl hl.1 rfl (lv_room (Nat.le_of_ble_eq_true rfl)) dX3_turn_30 ⟨Nat.le_of_ble_eq_true rfl, Nat.le_of_ble_eq_true rfl⟩) hS hP (fun r H locs hw hP hS => ?_)
      subst r
      refine lv_istore (lv' := [(4, .int (boundI p2 (0 : Int32) (9 : Int32))), (0, .ref (ad 0)), (1, .int p0), (2, .int p1), (3, .int p2)]) hx hb dX3_turn_33 hl (by decide) rfl (fun ls hl => ?_)
      refine lv_iload hx hb dX3_turn_35 (lv_at hl 0 rfl) ?_
      refine lv_if_eq (tgt := 47) hx hb dX3_turn_37 (by decide) (fun c37 => ?_) (fun c37 => ?_)
      · have hv := hv.1 c37
        refine lv_bipush (v := 10) hx hb dX3_turn_47 (by decide) ?_
        refine lv_aload_n hx hb dX3_turn_49 rfl (lv_at hl 1 rfl) ?_
        refine va_get (D := gD g) (ci := 3) (v := .ref (ad 5)) (C := RX3) (T := TX3) (N := 33) hx hb hts hi3 hown hK hP 0 rfl rfl 4 (by decide) k0 (fun _ h9 => h9) rfl dX3_turn_50 ?_
        refine lv_iload_n hx hb dX3_turn_53 rfl (lv_at hl 2 rfl) ?_
        have h9 := hv.1
        have hv := hv.2
        refine va_iald (f := (sKind (mS σ))) (n := 5) hx hb hK hP 5 0 rfl rfl h9 dX3_turn_54 ?_
        refine lv_imul hx hb dX3_turn_55 ?_
        refine lv_aload_n hx hb dX3_turn_56 rfl (lv_at hl 1 rfl) ?_
        refine va_get (D := gD g) (ci := 3) (v := .ref (ad 6)) (C := RX3) (T := TX3) (N := 33) hx hb hts hi3 hown hK hP 0 rfl rfl 5 (by decide) k1 (fun _ h9 => h9) rfl dX3_turn_57 ?_
        refine lv_iload_n hx hb dX3_turn_60 rfl (lv_at hl 2 rfl) ?_
        have h9 := hv.1
        have hv := hv.2
        refine va_iald (f := (sFigure (mS σ))) (n := 5) hx hb hK hP 6 0 rfl rfl h9 dX3_turn_61 ?_
        refine lv_iadd hx hb dX3_turn_62 ?_
        refine lv_istore (lv' := [(5, .int ((10 * ((sKind (mS σ)) (p0).toNatClampNeg)) + ((sFigure (mS σ)) (p0).toNatClampNeg))), (4, .int (boundI p2 (0 : Int32) (9 : Int32))), (0, .ref (ad 0)), (1, .int p0), (2, .int p1), (3, .int p2)]) hx hb dX3_turn_63 hl (by decide) rfl (fun ls hl => ?_)
        refine lv_aload_n hx hb dX3_turn_65 rfl (lv_at hl 2 rfl) ?_
        refine va_get (D := gD g) (ci := 3) (v := .ref (ad 5)) (C := RX3) (T := TX3) (N := 33) hx hb hts hi3 hown hK hP 0 rfl rfl 4 (by decide) k0 (fun _ h9 => h9) rfl dX3_turn_66 ?_
        refine lv_iload_n hx hb dX3_turn_69 rfl (lv_at hl 3 rfl) ?_
        refine lv_iload_n hx hb dX3_turn_70 rfl (lv_at hl 4 rfl) ?_
        have h9 := hv.1
        have hv := hv.2
        refine va_iast (f := (sKind (mS σ))) (n := 5) hx hb hK hP hD hS 5 0 rfl rfl h9 dX3_turn_71 (fun H locs hP hD hS => ?_)
        have hP : va_P (gD g) vwCl (wM g ad (((sCase (mS σ)), (sAsked (mS σ)), (sNq (mS σ)), (sNw (mS σ)), (sNh (mS σ)), (sForm (mS σ)), (sFirst (mS σ)), (sSecond (mS σ)), (upd (sKind (mS σ)) (p0).toNatClampNeg p1), (sFigure (mS σ)), (sKnows (mS σ)), (sWhom (mS σ)), (sWhat (mS σ)), (sSaid (mS σ)), (sWhen (mS σ))), (mT σ), (mK σ), (mF σ), (mRow σ), (mRowMany σ), (mLots σ), (mRefused σ))) H := hP
        have hD : va_D (AD ad 0 21) (wM g ad (((sCase (mS σ)), (sAsked (mS σ)), (sNq (mS σ)), (sNw (mS σ)), (sNh (mS σ)), (sForm (mS σ)), (sFirst (mS σ)), (sSecond (mS σ)), (upd (sKind (mS σ)) (p0).toNatClampNeg p1), (sFigure (mS σ)), (sKnows (mS σ)), (sWhom (mS σ)), (sWhat (mS σ)), (sSaid (mS σ)), (sWhen (mS σ))), (mT σ), (mK σ), (mF σ), (mRow σ), (mRowMany σ), (mLots σ), (mRefused σ))) := hD
        refine lv_aload_n hx hb dX3_turn_72 rfl (lv_at hl 2 rfl) ?_
        refine va_get (D := gD g) (ci := 3) (v := .ref (ad 6)) (C := RX3) (T := TX3) (N := 33) hx hb hts hi3 hown hK hP 0 rfl rfl 5 (by decide) k1 (fun _ h9 => h9) rfl dX3_turn_73 ?_
        refine lv_iload_n hx hb dX3_turn_76 rfl (lv_at hl 3 rfl) ?_
        refine lv_iload_n hx hb dX3_turn_77 rfl (lv_at hl 5 rfl) ?_
        have h9 := hv.1
        have hv := hv.2
        refine va_iast (f := (sFigure (mS σ))) (n := 5) hx hb hK hP hD hS 6 0 rfl rfl h9 dX3_turn_78 (fun H locs hP hD hS => ?_)
        have hP : va_P (gD g) vwCl (wM g ad (((sCase (mS σ)), (sAsked (mS σ)), (sNq (mS σ)), (sNw (mS σ)), (sNh (mS σ)), (sForm (mS σ)), (sFirst (mS σ)), (sSecond (mS σ)), (upd (sKind (mS σ)) (p0).toNatClampNeg p1), (upd (sFigure (mS σ)) (p0).toNatClampNeg p2), (sKnows (mS σ)), (sWhom (mS σ)), (sWhat (mS σ)), (sSaid (mS σ)), (sWhen (mS σ))), (mT σ), (mK σ), (mF σ), (mRow σ), (mRowMany σ), (mLots σ), (mRefused σ))) H := hP
        have hD : va_D (AD ad 0 21) (wM g ad (((sCase (mS σ)), (sAsked (mS σ)), (sNq (mS σ)), (sNw (mS σ)), (sNh (mS σ)), (sForm (mS σ)), (sFirst (mS σ)), (sSecond (mS σ)), (upd (sKind (mS σ)) (p0).toNatClampNeg p1), (upd (sFigure (mS σ)) (p0).toNatClampNeg p2), (sKnows (mS σ)), (sWhom (mS σ)), (sWhat (mS σ)), (sSaid (mS σ)), (sWhen (mS σ))), (mT σ), (mK σ), (mF σ), (mRow σ), (mRowMany σ), (mLots σ), (mRefused σ))) := hD
        refine lv_iload hx hb dX3_turn_79 (lv_at hl 0 rfl) ?_
        exact W.iret (v := ((10 * ((sKind (mS σ)) (p0).toNatClampNeg)) + ((sFigure (mS σ)) (p0).toNatClampNeg))) hx hb hr (fun t ht hW => ⟨⟨((10 * ((sKind (mS σ)) (p0).toNatClampNeg)) + ((sFigure (mS σ)) (p0).toNatClampNeg)), (((sCase (mS σ)), (sAsked (mS σ)), (sNq (mS σ)), (sNw (mS σ)), (sNh (mS σ)), (sForm (mS σ)), (sFirst (mS σ)), (sSecond (mS σ)), (upd (sKind (mS σ)) (p0).toNatClampNeg p1), (upd (sFigure (mS σ)) (p0).toNatClampNeg p2), (sKnows (mS σ)), (sWhom (mS σ)), (sWhat (mS σ)), (sSaid (mS σ)), (sWhen (mS σ))), (mT σ), (mK σ), (mF σ), (mRow σ), (mRowMany σ), (mLots σ), (mRefused σ)), rfl, hv, P_at ht hP⟩, hS.F ht⟩) hS.2.2 dX3_turn_81
      · have hv := hv.2 c37
        refine lv_aload_n hx hb dX3_turn_40 rfl (lv_at hl 1 rfl) ?_
        refine lv_iload hx hb dX3_turn_41 (lv_at hl 0 rfl) ?_
        have h8 := hv.1
        have hv := hv.2
        have hPc := hP
        have hDc := hD
        refine rw_int (va_runV (As := [.int (boundI p2 (0 : Int32) (9 : Int32))]) (rest := []) ⟨hx, hb, hml, hown, hts⟩ (h_X3_no g ad σ (boundI p2 (0 : Int32) (9 : Int32)) h8) (cwV 1 hts gX3_turn_X3_no rfl rfl rfl (by decide +kernel) ⟨Nat.le_of_ble_eq_true rfl, Nat.le_of_ble_eq_true rfl⟩) ⟨RW_blind, va_recv hK hP (ci := 3) (q0 := 0) rfl rfl, fun U hU hW => ⟨rfl, by rw [hU]; exact hPc, va_K.moved hW.alike hK, hE.call hW hU hS (fun _ h => h), hDc⟩⟩ rfl rfl hl.1 rfl (lv_room (Nat.le_of_ble_eq_true rfl)) dX3_turn_43 ⟨Nat.le_of_ble_eq_true rfl, Nat.le_of_ble_eq_true rfl⟩) hS (fun _ h => h) (fun r u H1 locs hw hP1 hk hS => ?_)
        obtain ⟨hw1, hw⟩ := hw; subst r; subst u
        have hP := hP1
        generalize H1 = H at hP hS ⊢
        have hP : va_P (gD g) vwCl (wM g ad ((mS σ), (mT σ), (mK σ), (mF σ), (mRow σ), (mRowMany σ), (mLots σ), (refuX (mRefused σ) (boundI p2 (0 : Int32) (9 : Int32))))) H := hP
        have hD : va_D (AD ad 0 21) (wM g ad ((mS σ), (mT σ), (mK σ), (mF σ), (mRow σ), (mRowMany σ), (mLots σ), (refuX (mRefused σ) (boundI p2 (0 : Int32) (9 : Int32))))) := hD.addr (by rfl)
        exact W.iret (v := ((boundI p2 (0 : Int32) (9 : Int32)))) hx hb hr (fun t ht hW => ⟨⟨((boundI p2 (0 : Int32) (9 : Int32))), ((mS σ), (mT σ), (mK σ), (mF σ), (mRow σ), (mRowMany σ), (mLots σ), (refuX (mRefused σ) (boundI p2 (0 : Int32) (9 : Int32)))), rfl, hv, P_at ht hP⟩, hS.F ht⟩) hS.2.2 dX3_turn_46
    · have hv := hv.2 c18
      refine lv_bipush (v := (-2)) hx hb dX3_turn_21 (by decide) ?_
      refine lv_goto (tgt := 33) hx hb dX3_turn_23 (by decide) ?_
      refine lv_istore (lv' := [(4, .int (-2)), (0, .ref (ad 0)), (1, .int p0), (2, .int p1), (3, .int p2)]) hx hb dX3_turn_33 hl (by decide) rfl (fun ls hl => ?_)
      refine lv_iload hx hb dX3_turn_35 (lv_at hl 0 rfl) ?_
      refine lv_if_eq (tgt := 47) hx hb dX3_turn_37 (by decide) (fun c37 => ?_) (fun c37 => ?_)
      · exact absurd c37 (by decide)
      · refine lv_aload_n hx hb dX3_turn_40 rfl (lv_at hl 1 rfl) ?_
        refine lv_iload hx hb dX3_turn_41 (lv_at hl 0 rfl) ?_
        have h8 := hv.1
        have hv := hv.2
        have hPc := hP
        have hDc := hD
        refine rw_int (va_runV (As := [.int (-2)]) (rest := []) ⟨hx, hb, hml, hown, hts⟩ (h_X3_no g ad σ (-2) h8) (cwV 1 hts gX3_turn_X3_no rfl rfl rfl (by decide +kernel) ⟨Nat.le_of_ble_eq_true rfl, Nat.le_of_ble_eq_true rfl⟩) ⟨RW_blind, va_recv hK hP (ci := 3) (q0 := 0) rfl rfl, fun U hU hW => ⟨rfl, by rw [hU]; exact hPc, va_K.moved hW.alike hK, hE.call hW hU hS (fun _ h => h), hDc⟩⟩ rfl rfl hl.1 rfl (lv_room (Nat.le_of_ble_eq_true rfl)) dX3_turn_43 ⟨Nat.le_of_ble_eq_true rfl, Nat.le_of_ble_eq_true rfl⟩) hS (fun _ h => h) (fun r u H1 locs hw hP1 hk hS => ?_)
        obtain ⟨hw1, hw⟩ := hw; subst r; subst u
        have hP := hP1
        generalize H1 = H at hP hS ⊢
        have hP : va_P (gD g) vwCl (wM g ad ((mS σ), (mT σ), (mK σ), (mF σ), (mRow σ), (mRowMany σ), (mLots σ), (refuX (mRefused σ) ((-2) : Int32)))) H := hP
        have hD : va_D (AD ad 0 21) (wM g ad ((mS σ), (mT σ), (mK σ), (mF σ), (mRow σ), (mRowMany σ), (mLots σ), (refuX (mRefused σ) ((-2) : Int32)))) := hD.addr (by rfl)
        exact W.iret (v := (((-2) : Int32))) hx hb hr (fun t ht hW => ⟨⟨(((-2) : Int32)), ((mS σ), (mT σ), (mK σ), (mF σ), (mRow σ), (mRowMany σ), (mLots σ), (refuX (mRefused σ) ((-2) : Int32))), rfl, hv, P_at ht hP⟩, hS.F ht⟩) hS.2.2 dX3_turn_46
  · have hv := hv.2 c5
    refine lv_iconst (v := (-1)) hx hb dX3_turn_8 (by decide) ?_
    refine lv_goto (tgt := 33) hx hb dX3_turn_9 (by decide) ?_
    refine lv_istore (lv' := [(4, .int (-1)), (0, .ref (ad 0)), (1, .int p0), (2, .int p1), (3, .int p2)]) hx hb dX3_turn_33 hl (by decide) rfl (fun ls hl => ?_)
    refine lv_iload hx hb dX3_turn_35 (lv_at hl 0 rfl) ?_
    refine lv_if_eq (tgt := 47) hx hb dX3_turn_37 (by decide) (fun c37 => ?_) (fun c37 => ?_)
    · exact absurd c37 (by decide)
    · refine lv_aload_n hx hb dX3_turn_40 rfl (lv_at hl 1 rfl) ?_
      refine lv_iload hx hb dX3_turn_41 (lv_at hl 0 rfl) ?_
      have h8 := hv.1
      have hv := hv.2
      have hPc := hP
      have hDc := hD
      refine rw_int (va_runV (As := [.int (-1)]) (rest := []) ⟨hx, hb, hml, hown, hts⟩ (h_X3_no g ad σ (-1) h8) (cwV 1 hts gX3_turn_X3_no rfl rfl rfl (by decide +kernel) ⟨Nat.le_of_ble_eq_true rfl, Nat.le_of_ble_eq_true rfl⟩) ⟨RW_blind, va_recv hK hP (ci := 3) (q0 := 0) rfl rfl, fun U hU hW => ⟨rfl, by rw [hU]; exact hPc, va_K.moved hW.alike hK, hE.call hW hU hS (fun _ h => h), hDc⟩⟩ rfl rfl hl.1 rfl (lv_room (Nat.le_of_ble_eq_true rfl)) dX3_turn_43 ⟨Nat.le_of_ble_eq_true rfl, Nat.le_of_ble_eq_true rfl⟩) hS (fun _ h => h) (fun r u H1 locs hw hP1 hk hS => ?_)
      obtain ⟨hw1, hw⟩ := hw; subst r; subst u
      have hP := hP1
      generalize H1 = H at hP hS ⊢
      have hP : va_P (gD g) vwCl (wM g ad ((mS σ), (mT σ), (mK σ), (mF σ), (mRow σ), (mRowMany σ), (mLots σ), (refuX (mRefused σ) ((-1) : Int32)))) H := hP
      have hD : va_D (AD ad 0 21) (wM g ad ((mS σ), (mT σ), (mK σ), (mF σ), (mRow σ), (mRowMany σ), (mLots σ), (refuX (mRefused σ) ((-1) : Int32)))) := hD.addr (by rfl)
      exact W.iret (v := (((-1) : Int32))) hx hb hr (fun t ht hW => ⟨⟨(((-1) : Int32)), ((mS σ), (mT σ), (mK σ), (mF σ), (mRow σ), (mRowMany σ), (mLots σ), (refuX (mRefused σ) ((-1) : Int32))), rfl, hv, P_at ht hP⟩, hS.F ht⟩) hS.2.2 dX3_turn_46

set_option maxHeartbeats 4000000 in
set_option maxRecDepth 100000 in
theorem m_X3_empties (l : Launch)  (g : CX) (ad : Nat → Nat) (σ : KM)  (Post : Int32 → KM → Prop) (hv : vc_X3_empties σ Post) : Met l yX3_empties wsX3_empties { frames := 0, cells := 0, slots := 0, locals := 0 } (va_Pc [.ref (ad 0)] (RW g (AD ad 0 21) (wM g ad σ))) (va_Qi (fun (r : Int32) (u : KM) => Post r u) (fun u t => va_P (gD g) vwCl (wM g ad u) t.heap) (AD ad 0 21)) 0 0 (AD ad 0 21) := by
  unfold vc_X3_empties at hv
  refine Met.ofW (cc := cX3_empties) (maxL := 2) (ret := (some .int)) (by decide) rfl ?_
  intro p e s m args below meth c s₁ B hml hv0
  obtain ⟨rfl, hP, hK, hE, hD⟩ := hv0
  have hx := B.exec
  have hb := B.bytes
  have hr := B.returns
  have hts := atoms_spec (ws := wsX3_empties) B.pre
  have hown : s.vm.findClass RX3 = some m.cls := findClass_of_methodNamed B.named
  have hlocks := B.notSynchronized
  have hi3 : ∀ w ∈ wsX30, w ∈ wsX3_empties := by decide +kernel
  have k0 := hts (.fieldLink RX3 146 "JuryHearsAnswersModel" "heard" "I") (by decide +kernel)
  have hS : va_S (AD ad 0 21) s.heap s.heap [] := va_S.rf
  have hP : va_P (gD g) vwCl (wM g ad σ) s.heap := hP
  have hl := lv_entry ([.ref (ad 0)]) (n := 2) (Nat.le_of_ble_eq_true rfl)
  rw [lg_entry_eq]
  generalize (lg_sl ([.ref (ad 0)]) ++ List.replicate (2 - (lg_sl ([.ref (ad 0)])).length) Slot.unset).toArray = ls at hl ⊢
  have hl : lv_has ls 2 [(0, .ref (ad 0))] := hl
  obtain ⟨H, hH⟩ : ∃ z, z = s.heap := ⟨_, rfl⟩
  obtain ⟨locs, hL⟩ : ∃ z : List Loc, z = [] := ⟨_, rfl⟩
  rw [← hL] at hS ⊢
  have hS : va_S (AD ad 0 21) s.heap H locs := by rw [hH]; exact hS
  rw [← hH] at hP ⊢
  clear hH hL
  refine lv_aload_n hx hb dX3_empties_0 rfl (lv_at hl 0 rfl) ?_
  refine va_get (D := gD g) (ci := 3) (v := .int (sNh (mS σ))) (C := RX3) (T := TX3) (N := 33) hx hb hts hi3 hown hK hP 0 rfl rfl 14 (by decide) k0 (fun _ h9 => h9) rfl dX3_empties_1 ?_
  refine lv_istore_n (lv' := [(1, .int (sNh (mS σ))), (0, .ref (ad 0))]) hx hb dX3_empties_4 rfl hl (by decide) rfl (fun ls hl => ?_)
  refine lv_aload_n hx hb dX3_empties_5 rfl (lv_at hl 1 rfl) ?_
  refine lv_iconst (v := 0) hx hb dX3_empties_6 (by decide) ?_
  refine va_put (D := gD g) (ci := 3) (v := .int 0) (ty := .int) (C := RX3) (T := TX3) (N := 33) hx hb hts hi3 tyX3 tyX3_ok nmX3 hown hK hP hD hS 0 rfl rfl 14 (by decide) k0 (fun _ h9 => h9) rfl (by decide +kernel) rfl rfl (Nat.le_of_ble_eq_true rfl) dX3_empties_7 (fun H locs hP hD hS => ?_)
  have hP : va_P (gD g) vwCl (wM g ad (((sCase (mS σ)), (sAsked (mS σ)), (sNq (mS σ)), (sNw (mS σ)), 0, (sForm (mS σ)), (sFirst (mS σ)), (sSecond (mS σ)), (sKind (mS σ)), (sFigure (mS σ)), (sKnows (mS σ)), (sWhom (mS σ)), (sWhat (mS σ)), (sSaid (mS σ)), (sWhen (mS σ))), (mT σ), (mK σ), (mF σ), (mRow σ), (mRowMany σ), (mLots σ), (mRefused σ))) H := hP
  have hD : va_D (AD ad 0 21) (wM g ad (((sCase (mS σ)), (sAsked (mS σ)), (sNq (mS σ)), (sNw (mS σ)), 0, (sForm (mS σ)), (sFirst (mS σ)), (sSecond (mS σ)), (sKind (mS σ)), (sFigure (mS σ)), (sKnows (mS σ)), (sWhom (mS σ)), (sWhat (mS σ)), (sSaid (mS σ)), (sWhen (mS σ))), (mT σ), (mK σ), (mF σ), (mRow σ), (mRowMany σ), (mLots σ), (mRefused σ))) := hD
  refine lv_iload_n hx hb dX3_empties_10 rfl (lv_at hl 0 rfl) ?_
  exact W.iret (v := (sNh (mS σ))) hx hb hr (fun t ht hW => ⟨⟨(sNh (mS σ)), (((sCase (mS σ)), (sAsked (mS σ)), (sNq (mS σ)), (sNw (mS σ)), 0, (sForm (mS σ)), (sFirst (mS σ)), (sSecond (mS σ)), (sKind (mS σ)), (sFigure (mS σ)), (sKnows (mS σ)), (sWhom (mS σ)), (sWhat (mS σ)), (sSaid (mS σ)), (sWhen (mS σ))), (mT σ), (mK σ), (mF σ), (mRow σ), (mRowMany σ), (mLots σ), (mRefused σ)), rfl, hv, P_at ht hP⟩, hS.F ht⟩) hS.2.2 dX3_empties_11

set_option maxHeartbeats 4000000 in
set_option maxRecDepth 100000 in
theorem m_X3_answer (l : Launch) (h_X3_answerOf : C_X3_answerOf l) (h_X3_bound : C_X3_bound l) (h_X3_isQuestion : C_X3_isQuestion l) (h_X3_isWitness : C_X3_isWitness l) (h_X3_no : C_X3_no l) (g : CX) (ad : Nat → Nat) (σ : KM) (p0 : Int32) (p1 : Int32) (p2 : Int32) (Post : Int32 → KM → Prop) (hv : vc_X3_answer σ p0 p1 p2 Post) : Met l yX3_answer wsX3_answer { frames := 4, cells := 0, slots := 0, locals := 93 } (va_Pc [.ref (ad 0), .int p0, .int p1, .int p2] (RW g (AD ad 0 21) (wM g ad σ))) (va_Qi (fun (r : Int32) (u : KM) => Post r u) (fun u t => va_P (gD g) vwCl (wM g ad u) t.heap) (AD ad 0 21)) 0 0 (AD ad 0 21) := by
  unfold vc_X3_answer at hv
  refine Met.ofW (cc := cX3_answer) (maxL := 5) (ret := (some .int)) (by decide) rfl ?_
  intro p e s m args below meth c s₁ B hml hv0
  obtain ⟨rfl, hP, hK, hE, hD⟩ := hv0
  have hx := B.exec
  have hb := B.bytes
  have hr := B.returns
  have hts := atoms_spec (ws := wsX3_answer) B.pre
  have hown : s.vm.findClass RX3 = some m.cls := findClass_of_methodNamed B.named
  have hlocks := B.notSynchronized
  have hi3 : ∀ w ∈ wsX30, w ∈ wsX3_answer := by decide +kernel
  have k0 := hts (.fieldLink RX3 127 "JuryHearsAnswersModel" "asked" "I") (by decide +kernel)
  have k1 := hts (.fieldLink RX3 134 "JuryHearsAnswersModel" "theCase" "I") (by decide +kernel)
  have hS : va_S (AD ad 0 21) s.heap s.heap [] := va_S.rf
  have hP : va_P (gD g) vwCl (wM g ad σ) s.heap := hP
  have hl := lv_entry ([.ref (ad 0), .int p0, .int p1, .int p2]) (n := 5) (Nat.le_of_ble_eq_true rfl)
  rw [lg_entry_eq]
  generalize (lg_sl ([.ref (ad 0), .int p0, .int p1, .int p2]) ++ List.replicate (5 - (lg_sl ([.ref (ad 0), .int p0, .int p1, .int p2])).length) Slot.unset).toArray = ls at hl ⊢
  have hl : lv_has ls 5 [(0, .ref (ad 0)), (1, .int p0), (2, .int p1), (3, .int p2)] := hl
  obtain ⟨H, hH⟩ : ∃ z, z = s.heap := ⟨_, rfl⟩
  obtain ⟨locs, hL⟩ : ∃ z : List Loc, z = [] := ⟨_, rfl⟩
  rw [← hL] at hS ⊢
  have hS : va_S (AD ad 0 21) s.heap H locs := by rw [hH]; exact hS
  rw [← hH] at hP ⊢
  clear hH hL
  refine lv_aload_n hx hb dX3_answer_0 rfl (lv_at hl 0 rfl) ?_
  refine lv_iload_n hx hb dX3_answer_1 rfl (lv_at hl 1 rfl) ?_
  have hPc := hP
  refine ro_int (va_runV (As := [.int p0]) (rest := []) ⟨hx, hb, hml, hown, hts⟩ (h_X3_isWitness g ad σ p0) (cwV 1 hts gX3_answer_X3_isWitness rfl rfl rfl (by decide +kernel) ⟨Nat.le_of_ble_eq_true rfl, Nat.le_of_ble_eq_true rfl⟩) ⟨RO_blind, va_recv hK hP (ci := 3) (q0 := 0) rfl rfl, fun U hU hW => ⟨rfl, by rw [hU]; exact hPc, va_K.moved hW.alike hK, hE.call hW hU hS (fun _ h => h.elim)⟩⟩ rfl rfl hl.1 rfl (lv_room (Nat.le_of_ble_eq_true rfl)) dX3_answer_2 ⟨Nat.le_of_ble_eq_true rfl, Nat.le_of_ble_eq_true rfl⟩) hS hP (fun r H locs hw hP hS => ?_)
  subst r
  refine lv_if_eq (tgt := 16) hx hb dX3_answer_5 (by decide) (fun c5 => ?_) (fun c5 => ?_)
  · have hv := hv.1 c5
    refine lv_iconst (v := (-1)) hx hb dX3_answer_16 (by decide) ?_
    refine lv_goto (tgt := 27) hx hb dX3_answer_17 (by decide) ?_
    refine lv_istore (lv' := [(4, .int (-1)), (0, .ref (ad 0)), (1, .int p0), (2, .int p1), (3, .int p2)]) hx hb dX3_answer_27 hl (by decide) rfl (fun ls hl => ?_)
    refine lv_iload hx hb dX3_answer_29 (lv_at hl 0 rfl) ?_
    refine lv_if_eq (tgt := 41) hx hb dX3_answer_31 (by decide) (fun c31 => ?_) (fun c31 => ?_)
    · exact absurd c31 (by decide)
    · refine lv_aload_n hx hb dX3_answer_34 rfl (lv_at hl 1 rfl) ?_
      refine lv_iload hx hb dX3_answer_35 (lv_at hl 0 rfl) ?_
      have h8 := hv.1
      have hv := hv.2
      have hPc := hP
      have hDc := hD
      refine rw_int (va_runV (As := [.int (-1)]) (rest := []) ⟨hx, hb, hml, hown, hts⟩ (h_X3_no g ad σ (-1) h8) (cwV 1 hts gX3_answer_X3_no rfl rfl rfl (by decide +kernel) ⟨Nat.le_of_ble_eq_true rfl, Nat.le_of_ble_eq_true rfl⟩) ⟨RW_blind, va_recv hK hP (ci := 3) (q0 := 0) rfl rfl, fun U hU hW => ⟨rfl, by rw [hU]; exact hPc, va_K.moved hW.alike hK, hE.call hW hU hS (fun _ h => h), hDc⟩⟩ rfl rfl hl.1 rfl (lv_room (Nat.le_of_ble_eq_true rfl)) dX3_answer_37 ⟨Nat.le_of_ble_eq_true rfl, Nat.le_of_ble_eq_true rfl⟩) hS (fun _ h => h) (fun r u H1 locs hw hP1 hk hS => ?_)
      obtain ⟨hw1, hw⟩ := hw; subst r; subst u
      have hP := hP1
      generalize H1 = H at hP hS ⊢
      have hP : va_P (gD g) vwCl (wM g ad ((mS σ), (mT σ), (mK σ), (mF σ), (mRow σ), (mRowMany σ), (mLots σ), (refuX (mRefused σ) ((-1) : Int32)))) H := hP
      have hD : va_D (AD ad 0 21) (wM g ad ((mS σ), (mT σ), (mK σ), (mF σ), (mRow σ), (mRowMany σ), (mLots σ), (refuX (mRefused σ) ((-1) : Int32)))) := hD.addr (by rfl)
      exact W.iret (v := (((-1) : Int32))) hx hb hr (fun t ht hW => ⟨⟨(((-1) : Int32)), ((mS σ), (mT σ), (mK σ), (mF σ), (mRow σ), (mRowMany σ), (mLots σ), (refuX (mRefused σ) ((-1) : Int32))), rfl, hv, P_at ht hP⟩, hS.F ht⟩) hS.2.2 dX3_answer_40
  · have hv := hv.2 c5
    refine lv_aload_n hx hb dX3_answer_8 rfl (lv_at hl 0 rfl) ?_
    refine lv_iload_n hx hb dX3_answer_9 rfl (lv_at hl 2 rfl) ?_
    have hPc := hP
    refine ro_int (va_runV (As := [.int p1]) (rest := []) ⟨hx, hb, hml, hown, hts⟩ (h_X3_isQuestion g ad σ p1) (cwV 1 hts gX3_answer_X3_isQuestion rfl rfl rfl (by decide +kernel) ⟨Nat.le_of_ble_eq_true rfl, Nat.le_of_ble_eq_true rfl⟩) ⟨RO_blind, va_recv hK hP (ci := 3) (q0 := 0) rfl rfl, fun U hU hW => ⟨rfl, by rw [hU]; exact hPc, va_K.moved hW.alike hK, hE.call hW hU hS (fun _ h => h.elim)⟩⟩ rfl rfl hl.1 rfl (lv_room (Nat.le_of_ble_eq_true rfl)) dX3_answer_10 ⟨Nat.le_of_ble_eq_true rfl, Nat.le_of_ble_eq_true rfl⟩) hS hP (fun r H locs hw hP hS => ?_)
    subst r
    refine lv_if_ne (tgt := 20) hx hb dX3_answer_13 (by decide) (fun c13 => ?_) (fun c13 => ?_)
    · have hv := hv.1 c13
      refine lv_iload_n hx hb dX3_answer_20 rfl (lv_at hl 3 rfl) ?_
      refine lv_iconst (v := (-1)) hx hb dX3_answer_21 (by decide) ?_
      refine lv_bipush (v := 63) hx hb dX3_answer_22 (by decide) ?_
      have hPc : va_P (gD g) vwCl [] H := fun k q h => by simp at h
      refine ro_int (va_runS (As := [.int p2, .int (-1), .int 63]) (rest := []) ⟨hx, hb, hml, hown, hts⟩ (h_X3_bound g p2 (-1) 63) (va_cwS 3 hts gX3_answer_X3_bound rfl rfl rfl (by decide +kernel) ⟨Nat.le_of_ble_eq_true rfl, Nat.le_of_ble_eq_true rfl⟩) ⟨RO_blind, fun U hU hW => ⟨rfl, by rw [hU]; exact hPc, va_K.moved hW.alike hK, hE.call hW hU hS (fun _ h => h.elim)⟩⟩ rfl rfl hl.1 rfl (lv_room (Nat.le_of_ble_eq_true rfl)) dX3_answer_24 ⟨Nat.le_of_ble_eq_true rfl, Nat.le_of_ble_eq_true rfl⟩) hS hP (fun r H locs hw hP hS => ?_)
      subst r
      refine lv_istore (lv' := [(4, .int (boundI p2 ((-1) : Int32) (63 : Int32))), (0, .ref (ad 0)), (1, .int p0), (2, .int p1), (3, .int p2)]) hx hb dX3_answer_27 hl (by decide) rfl (fun ls hl => ?_)
      refine lv_iload hx hb dX3_answer_29 (lv_at hl 0 rfl) ?_
      refine lv_if_eq (tgt := 41) hx hb dX3_answer_31 (by decide) (fun c31 => ?_) (fun c31 => ?_)
      · have hv := hv.1 c31
        refine lv_aload_n hx hb dX3_answer_41 rfl (lv_at hl 1 rfl) ?_
        refine lv_iload_n hx hb dX3_answer_42 rfl (lv_at hl 2 rfl) ?_
        refine lv_iload_n hx hb dX3_answer_43 rfl (lv_at hl 3 rfl) ?_
        refine lv_iload_n hx hb dX3_answer_44 rfl (lv_at hl 4 rfl) ?_
        refine lv_if_ge (tgt := 55) hx hb dX3_answer_45 (by decide) (fun c45 => ?_) (fun c45 => ?_)
        · have hv := hv.1 c45
          refine lv_iload_n hx hb dX3_answer_55 rfl (lv_at hl 4 rfl) ?_
          refine lv_aload_n hx hb dX3_answer_56 rfl (lv_at hl 1 rfl) ?_
          refine va_get (D := gD g) (ci := 3) (v := .int (sAsked (mS σ))) (C := RX3) (T := TX3) (N := 33) hx hb hts hi3 hown hK hP 0 rfl rfl 15 (by decide) k0 (fun _ h9 => h9) rfl dX3_answer_57 ?_
          refine lv_iconst (v := 1) hx hb dX3_answer_60 (by decide) ?_
          refine lv_iadd hx hb dX3_answer_61 ?_
          have h8 := hv.1
          have hv := hv.2
          have hPc := hP
          refine ro_int (va_runV (As := [.int p0, .int p1, .int p2, .int ((sAsked (mS σ)) + 1)]) (rest := []) ⟨hx, hb, hml, hown, hts⟩ (h_X3_answerOf g ad σ p0 p1 p2 ((sAsked (mS σ)) + 1) h8) (cwV 4 hts gX3_answer_X3_answerOf rfl rfl rfl (by decide +kernel) ⟨Nat.le_of_ble_eq_true rfl, Nat.le_of_ble_eq_true rfl⟩) ⟨RO_blind, va_recv hK hP (ci := 3) (q0 := 0) rfl rfl, fun U hU hW => ⟨rfl, by rw [hU]; exact hPc, va_K.moved hW.alike hK, hE.call hW hU hS (fun _ h => h.elim)⟩⟩ rfl rfl hl.1 rfl (lv_room (Nat.le_of_ble_eq_true rfl)) dX3_answer_62 ⟨Nat.le_of_ble_eq_true rfl, Nat.le_of_ble_eq_true rfl⟩) hS hP (fun r H locs hw hP hS => ?_)
          subst r
          exact W.iret (v := (ansI (mS σ) p0 p1 p2 ((sAsked (mS σ)) + 1))) hx hb hr (fun t ht hW => ⟨⟨(ansI (mS σ) p0 p1 p2 ((sAsked (mS σ)) + 1)), σ, rfl, hv, P_at ht hP⟩, hS.F ht⟩) hS.2.2 dX3_answer_65
        · have hv := hv.2 c45
          refine lv_aload_n hx hb dX3_answer_48 rfl (lv_at hl 1 rfl) ?_
          refine va_get (D := gD g) (ci := 3) (v := .int (sCase (mS σ))) (C := RX3) (T := TX3) (N := 33) hx hb hts hi3 hown hK hP 0 rfl rfl 11 (by decide) k1 (fun _ h9 => h9) rfl dX3_answer_49 ?_
          refine lv_goto (tgt := 56) hx hb dX3_answer_52 (by decide) ?_
          refine lv_aload_n hx hb dX3_answer_56 rfl (lv_at hl 1 rfl) ?_
          refine va_get (D := gD g) (ci := 3) (v := .int (sAsked (mS σ))) (C := RX3) (T := TX3) (N := 33) hx hb hts hi3 hown hK hP 0 rfl rfl 15 (by decide) k0 (fun _ h9 => h9) rfl dX3_answer_57 ?_
          refine lv_iconst (v := 1) hx hb dX3_answer_60 (by decide) ?_
          refine lv_iadd hx hb dX3_answer_61 ?_
          have h8 := hv.1
          have hv := hv.2
          have hPc := hP
          refine ro_int (va_runV (As := [.int p0, .int p1, .int (sCase (mS σ)), .int ((sAsked (mS σ)) + 1)]) (rest := []) ⟨hx, hb, hml, hown, hts⟩ (h_X3_answerOf g ad σ p0 p1 (sCase (mS σ)) ((sAsked (mS σ)) + 1) h8) (cwV 4 hts gX3_answer_X3_answerOf rfl rfl rfl (by decide +kernel) ⟨Nat.le_of_ble_eq_true rfl, Nat.le_of_ble_eq_true rfl⟩) ⟨RO_blind, va_recv hK hP (ci := 3) (q0 := 0) rfl rfl, fun U hU hW => ⟨rfl, by rw [hU]; exact hPc, va_K.moved hW.alike hK, hE.call hW hU hS (fun _ h => h.elim)⟩⟩ rfl rfl hl.1 rfl (lv_room (Nat.le_of_ble_eq_true rfl)) dX3_answer_62 ⟨Nat.le_of_ble_eq_true rfl, Nat.le_of_ble_eq_true rfl⟩) hS hP (fun r H locs hw hP hS => ?_)
          subst r
          exact W.iret (v := (ansI (mS σ) p0 p1 (sCase (mS σ)) ((sAsked (mS σ)) + 1))) hx hb hr (fun t ht hW => ⟨⟨(ansI (mS σ) p0 p1 (sCase (mS σ)) ((sAsked (mS σ)) + 1)), σ, rfl, hv, P_at ht hP⟩, hS.F ht⟩) hS.2.2 dX3_answer_65
      · have hv := hv.2 c31
        refine lv_aload_n hx hb dX3_answer_34 rfl (lv_at hl 1 rfl) ?_
        refine lv_iload hx hb dX3_answer_35 (lv_at hl 0 rfl) ?_
        have h8 := hv.1
        have hv := hv.2
        have hPc := hP
        have hDc := hD
        refine rw_int (va_runV (As := [.int (boundI p2 ((-1) : Int32) (63 : Int32))]) (rest := []) ⟨hx, hb, hml, hown, hts⟩ (h_X3_no g ad σ (boundI p2 ((-1) : Int32) (63 : Int32)) h8) (cwV 1 hts gX3_answer_X3_no rfl rfl rfl (by decide +kernel) ⟨Nat.le_of_ble_eq_true rfl, Nat.le_of_ble_eq_true rfl⟩) ⟨RW_blind, va_recv hK hP (ci := 3) (q0 := 0) rfl rfl, fun U hU hW => ⟨rfl, by rw [hU]; exact hPc, va_K.moved hW.alike hK, hE.call hW hU hS (fun _ h => h), hDc⟩⟩ rfl rfl hl.1 rfl (lv_room (Nat.le_of_ble_eq_true rfl)) dX3_answer_37 ⟨Nat.le_of_ble_eq_true rfl, Nat.le_of_ble_eq_true rfl⟩) hS (fun _ h => h) (fun r u H1 locs hw hP1 hk hS => ?_)
        obtain ⟨hw1, hw⟩ := hw; subst r; subst u
        have hP := hP1
        generalize H1 = H at hP hS ⊢
        have hP : va_P (gD g) vwCl (wM g ad ((mS σ), (mT σ), (mK σ), (mF σ), (mRow σ), (mRowMany σ), (mLots σ), (refuX (mRefused σ) (boundI p2 ((-1) : Int32) (63 : Int32))))) H := hP
        have hD : va_D (AD ad 0 21) (wM g ad ((mS σ), (mT σ), (mK σ), (mF σ), (mRow σ), (mRowMany σ), (mLots σ), (refuX (mRefused σ) (boundI p2 ((-1) : Int32) (63 : Int32))))) := hD.addr (by rfl)
        exact W.iret (v := ((boundI p2 ((-1) : Int32) (63 : Int32)))) hx hb hr (fun t ht hW => ⟨⟨((boundI p2 ((-1) : Int32) (63 : Int32))), ((mS σ), (mT σ), (mK σ), (mF σ), (mRow σ), (mRowMany σ), (mLots σ), (refuX (mRefused σ) (boundI p2 ((-1) : Int32) (63 : Int32)))), rfl, hv, P_at ht hP⟩, hS.F ht⟩) hS.2.2 dX3_answer_40
    · have hv := hv.2 c13
      refine lv_iconst (v := (-1)) hx hb dX3_answer_16 (by decide) ?_
      refine lv_goto (tgt := 27) hx hb dX3_answer_17 (by decide) ?_
      refine lv_istore (lv' := [(4, .int (-1)), (0, .ref (ad 0)), (1, .int p0), (2, .int p1), (3, .int p2)]) hx hb dX3_answer_27 hl (by decide) rfl (fun ls hl => ?_)
      refine lv_iload hx hb dX3_answer_29 (lv_at hl 0 rfl) ?_
      refine lv_if_eq (tgt := 41) hx hb dX3_answer_31 (by decide) (fun c31 => ?_) (fun c31 => ?_)
      · exact absurd c31 (by decide)
      · refine lv_aload_n hx hb dX3_answer_34 rfl (lv_at hl 1 rfl) ?_
        refine lv_iload hx hb dX3_answer_35 (lv_at hl 0 rfl) ?_
        have h8 := hv.1
        have hv := hv.2
        have hPc := hP
        have hDc := hD
        refine rw_int (va_runV (As := [.int (-1)]) (rest := []) ⟨hx, hb, hml, hown, hts⟩ (h_X3_no g ad σ (-1) h8) (cwV 1 hts gX3_answer_X3_no rfl rfl rfl (by decide +kernel) ⟨Nat.le_of_ble_eq_true rfl, Nat.le_of_ble_eq_true rfl⟩) ⟨RW_blind, va_recv hK hP (ci := 3) (q0 := 0) rfl rfl, fun U hU hW => ⟨rfl, by rw [hU]; exact hPc, va_K.moved hW.alike hK, hE.call hW hU hS (fun _ h => h), hDc⟩⟩ rfl rfl hl.1 rfl (lv_room (Nat.le_of_ble_eq_true rfl)) dX3_answer_37 ⟨Nat.le_of_ble_eq_true rfl, Nat.le_of_ble_eq_true rfl⟩) hS (fun _ h => h) (fun r u H1 locs hw hP1 hk hS => ?_)
        obtain ⟨hw1, hw⟩ := hw; subst r; subst u
        have hP := hP1
        generalize H1 = H at hP hS ⊢
        have hP : va_P (gD g) vwCl (wM g ad ((mS σ), (mT σ), (mK σ), (mF σ), (mRow σ), (mRowMany σ), (mLots σ), (refuX (mRefused σ) ((-1) : Int32)))) H := hP
        have hD : va_D (AD ad 0 21) (wM g ad ((mS σ), (mT σ), (mK σ), (mF σ), (mRow σ), (mRowMany σ), (mLots σ), (refuX (mRefused σ) ((-1) : Int32)))) := hD.addr (by rfl)
        exact W.iret (v := (((-1) : Int32))) hx hb hr (fun t ht hW => ⟨⟨(((-1) : Int32)), ((mS σ), (mT σ), (mK σ), (mF σ), (mRow σ), (mRowMany σ), (mLots σ), (refuX (mRefused σ) ((-1) : Int32))), rfl, hv, P_at ht hP⟩, hS.F ht⟩) hS.2.2 dX3_answer_40

set_option maxHeartbeats 4000000 in
set_option maxRecDepth 100000 in
theorem m_X3_fitsAll (l : Launch) (h_X3_answerOf : C_X3_answerOf l) (g : CX) (ad : Nat → Nat) (σ : KM) (p0 : Int32) (Post : Int32 → Prop) (hv : vc_X3_fitsAll σ p0 Post) : Met l yX3_fitsAll wsX3_fitsAll { frames := 4, cells := 0, slots := 0, locals := 93 } (va_Pc [.ref (ad 0), .int p0] (RO g (wM g ad σ))) (va_Qi (fun r (_ : Unit) => Post r) (fun _ _ => True) A0) 0 0 A0 := by
  unfold vc_X3_fitsAll at hv
  refine Met.ofW (cc := cX3_fitsAll) (maxL := 3) (ret := (some .boolean)) (by decide) rfl ?_
  intro p e s m args below meth c s₁ B hml hv0
  obtain ⟨rfl, hP, hK, hE⟩ := hv0
  have hx := B.exec
  have hb := B.bytes
  have hr := B.returns
  have hts := atoms_spec (ws := wsX3_fitsAll) B.pre
  have hown : s.vm.findClass RX3 = some m.cls := findClass_of_methodNamed B.named
  have hlocks := B.notSynchronized
  have hi3 : ∀ w ∈ wsX30, w ∈ wsX3_fitsAll := by decide +kernel
  have k0 := hts (.fieldLink RX3 146 "JuryHearsAnswersModel" "heard" "I") (by decide +kernel)
  have k1 := hts (.fieldLink RX3 31 "JuryHearsAnswersModel" "whom" "[I") (by decide +kernel)
  have k2 := hts (.fieldLink RX3 34 "JuryHearsAnswersModel" "what" "[I") (by decide +kernel)
  have k3 := hts (.fieldLink RX3 40 "JuryHearsAnswersModel" "when" "[I") (by decide +kernel)
  have k4 := hts (.fieldLink RX3 37 "JuryHearsAnswersModel" "said" "[I") (by decide +kernel)
  have hS : va_S A0 s.heap s.heap [] := va_S.rf
  have hP : va_P (gD g) vwCl (wM g ad σ) s.heap := hP
  have hl := lv_entry ([.ref (ad 0), .int p0]) (n := 3) (Nat.le_of_ble_eq_true rfl)
  rw [lg_entry_eq]
  generalize (lg_sl ([.ref (ad 0), .int p0]) ++ List.replicate (3 - (lg_sl ([.ref (ad 0), .int p0])).length) Slot.unset).toArray = ls at hl ⊢
  have hl : lv_has ls 3 [(0, .ref (ad 0)), (1, .int p0)] := hl
  have hv := hv (fun (x2 : Int32) => ∀ (H : Heap) (locs : List Loc) (ls : Array Slot), va_P (gD g) vwCl (wM g ad σ) H → va_S A0 s.heap H locs → lv_has ls 3 [(0, .ref (ad 0)), (1, .int p0), (2, .int x2)] → W p l e { frames := 4, cells := 0, slots := 0, locals := 93 } s m ([.ref (ad 0), .int p0] : List Value).toArray below meth c H locs 0 0 (MQ below (va_Qi (fun r (_ : Unit) => Post r) (fun _ _ => True) A0) ([.ref (ad 0), .int p0] : List Value).toArray s 0 0 A0) (F0 m 2 ls []))
  have hv := hv (by
    intro x2 hv H locs ls hP hS hl
    refine lv_iload_n hx hb dX3_fitsAll_2 rfl (lv_at hl 2 rfl) ?_
    refine lv_aload_n hx hb dX3_fitsAll_3 rfl (lv_at hl 0 rfl) ?_
    refine va_get (D := gD g) (ci := 3) (v := .int (sNh (mS σ))) (C := RX3) (T := TX3) (N := 33) hx hb hts hi3 hown hK hP 0 rfl rfl 14 (by decide) k0 (fun _ h9 => h9) rfl dX3_fitsAll_4 ?_
    refine lv_icmp_ge (tgt := 50) hx hb dX3_fitsAll_7 (by decide) (fun c7 => ?_) (fun c7 => ?_)
    · have hv := hv.1 c7
      refine lv_iconst (v := 1) hx hb dX3_fitsAll_50 (by decide) ?_
      exact W.zret (v := 1) hx hb hr rfl (fun t ht hW => ⟨⟨1, (), rfl, hv, trivial⟩, hS.F ht⟩) hS.2.2 dX3_fitsAll_51
    · have hv := hv.2 c7
      refine lv_aload_n hx hb dX3_fitsAll_10 rfl (lv_at hl 0 rfl) ?_
      refine lv_aload_n hx hb dX3_fitsAll_11 rfl (lv_at hl 0 rfl) ?_
      refine va_get (D := gD g) (ci := 3) (v := .ref (ad 8)) (C := RX3) (T := TX3) (N := 33) hx hb hts hi3 hown hK hP 0 rfl rfl 7 (by decide) k1 (fun _ h9 => h9) rfl dX3_fitsAll_12 ?_
      refine lv_iload_n hx hb dX3_fitsAll_15 rfl (lv_at hl 2 rfl) ?_
      have h9 := hv.1
      have hv := hv.2
      refine va_iald (f := (sWhom (mS σ))) (n := 12) hx hb hK hP 8 0 rfl rfl h9 dX3_fitsAll_16 ?_
      refine lv_aload_n hx hb dX3_fitsAll_17 rfl (lv_at hl 0 rfl) ?_
      refine va_get (D := gD g) (ci := 3) (v := .ref (ad 9)) (C := RX3) (T := TX3) (N := 33) hx hb hts hi3 hown hK hP 0 rfl rfl 8 (by decide) k2 (fun _ h9 => h9) rfl dX3_fitsAll_18 ?_
      refine lv_iload_n hx hb dX3_fitsAll_21 rfl (lv_at hl 2 rfl) ?_
      have h9 := hv.1
      have hv := hv.2
      refine va_iald (f := (sWhat (mS σ))) (n := 12) hx hb hK hP 9 0 rfl rfl h9 dX3_fitsAll_22 ?_
      refine lv_iload_n hx hb dX3_fitsAll_23 rfl (lv_at hl 1 rfl) ?_
      refine lv_aload_n hx hb dX3_fitsAll_24 rfl (lv_at hl 0 rfl) ?_
      refine va_get (D := gD g) (ci := 3) (v := .ref (ad 11)) (C := RX3) (T := TX3) (N := 33) hx hb hts hi3 hown hK hP 0 rfl rfl 10 (by decide) k3 (fun _ h9 => h9) rfl dX3_fitsAll_25 ?_
      refine lv_iload_n hx hb dX3_fitsAll_28 rfl (lv_at hl 2 rfl) ?_
      have h9 := hv.1
      have hv := hv.2
      refine va_iald (f := (sWhen (mS σ))) (n := 12) hx hb hK hP 11 0 rfl rfl h9 dX3_fitsAll_29 ?_
      have h8 := hv.1
      have hv := hv.2
      have hPc := hP
      refine ro_int (va_runV (As := [.int ((sWhom (mS σ)) (x2).toNatClampNeg), .int ((sWhat (mS σ)) (x2).toNatClampNeg), .int p0, .int ((sWhen (mS σ)) (x2).toNatClampNeg)]) (rest := []) ⟨hx, hb, hml, hown, hts⟩ (h_X3_answerOf g ad σ ((sWhom (mS σ)) (x2).toNatClampNeg) ((sWhat (mS σ)) (x2).toNatClampNeg) p0 ((sWhen (mS σ)) (x2).toNatClampNeg) h8) (cwV 4 hts gX3_fitsAll_X3_answerOf rfl rfl rfl (by decide +kernel) ⟨Nat.le_of_ble_eq_true rfl, Nat.le_of_ble_eq_true rfl⟩) ⟨RO_blind, va_recv hK hP (ci := 3) (q0 := 0) rfl rfl, fun U hU hW => ⟨rfl, by rw [hU]; exact hPc, va_K.moved hW.alike hK, hE.call hW hU hS (fun _ h => h.elim)⟩⟩ rfl rfl hl.1 rfl (lv_room (Nat.le_of_ble_eq_true rfl)) dX3_fitsAll_30 ⟨Nat.le_of_ble_eq_true rfl, Nat.le_of_ble_eq_true rfl⟩) hS hP (fun r H locs hw hP hS => ?_)
      subst r
      refine lv_aload_n hx hb dX3_fitsAll_33 rfl (lv_at hl 0 rfl) ?_
      refine va_get (D := gD g) (ci := 3) (v := .ref (ad 10)) (C := RX3) (T := TX3) (N := 33) hx hb hts hi3 hown hK hP 0 rfl rfl 9 (by decide) k4 (fun _ h9 => h9) rfl dX3_fitsAll_34 ?_
      refine lv_iload_n hx hb dX3_fitsAll_37 rfl (lv_at hl 2 rfl) ?_
      have h9 := hv.1
      have hv := hv.2
      refine va_iald (f := (sSaid (mS σ))) (n := 12) hx hb hK hP 10 0 rfl rfl h9 dX3_fitsAll_38 ?_
      refine lv_icmp_eq (tgt := 44) hx hb dX3_fitsAll_39 (by decide) (fun c39 => ?_) (fun c39 => ?_)
      · have hv := hv.1 c39
        refine lv_iinc (v := (x2 + 1)) (lv' := [(2, .int (x2 + 1)), (0, .ref (ad 0)), (1, .int p0)]) hx hb dX3_fitsAll_44 hl (k := 2) rfl (by first | rfl | exact congrArg _ (by decide)) (by decide) rfl (fun ls hl => ?_)
        refine lv_goto (tgt := 2) hx hb dX3_fitsAll_47 (by decide) ?_
        exact hv H locs ls hP hS (lv_sub hl [1, 2, 0] rfl)
      · have hv := hv.2 c39
        refine lv_iconst (v := 0) hx hb dX3_fitsAll_42 (by decide) ?_
        exact W.zret (v := 0) hx hb hr rfl (fun t ht hW => ⟨⟨0, (), rfl, hv, trivial⟩, hS.F ht⟩) hS.2.2 dX3_fitsAll_43)
  obtain ⟨H, hH⟩ : ∃ z, z = s.heap := ⟨_, rfl⟩
  obtain ⟨locs, hL⟩ : ∃ z : List Loc, z = [] := ⟨_, rfl⟩
  rw [← hL] at hS ⊢
  have hS : va_S A0 s.heap H locs := by rw [hH]; exact hS
  rw [← hH] at hP ⊢
  clear hH hL
  refine lv_iconst (v := 0) hx hb dX3_fitsAll_0 (by decide) ?_
  refine lv_istore_n (lv' := [(2, .int 0), (0, .ref (ad 0)), (1, .int p0)]) hx hb dX3_fitsAll_1 rfl hl (by decide) rfl (fun ls hl => ?_)
  exact hv H locs ls hP hS (lv_sub hl [1, 2, 0] rfl)

set_option maxHeartbeats 4000000 in
set_option maxRecDepth 100000 in
theorem m_X3_couldSay (l : Launch) (h_X3_answerOf : C_X3_answerOf l) (g : CX) (ad : Nat → Nat) (σ : KM) (p0 : Int32) (p1 : Int32) (Post : Int32 → Prop) (hv : vc_X3_couldSay σ p0 p1 Post) : Met l yX3_couldSay wsX3_couldSay { frames := 4, cells := 0, slots := 0, locals := 93 } (va_Pc [.ref (ad 0), .int p0, .int p1] (RO g (wM g ad σ))) (va_Qi (fun r (_ : Unit) => Post r) (fun _ _ => True) A0) 0 0 A0 := by
  unfold vc_X3_couldSay at hv
  refine Met.ofW (cc := cX3_couldSay) (maxL := 4) (ret := (some .boolean)) (by decide) rfl ?_
  intro p e s m args below meth c s₁ B hml hv0
  obtain ⟨rfl, hP, hK, hE⟩ := hv0
  have hx := B.exec
  have hb := B.bytes
  have hr := B.returns
  have hts := atoms_spec (ws := wsX3_couldSay) B.pre
  have hown : s.vm.findClass RX3 = some m.cls := findClass_of_methodNamed B.named
  have hlocks := B.notSynchronized
  have hi3 : ∀ w ∈ wsX30, w ∈ wsX3_couldSay := by decide +kernel
  have k0 := hts (.fieldLink RX3 70 "JuryHearsAnswersModel" "questions" "I") (by decide +kernel)
  have k1 := hts (.fieldLink RX3 31 "JuryHearsAnswersModel" "whom" "[I") (by decide +kernel)
  have k2 := hts (.fieldLink RX3 40 "JuryHearsAnswersModel" "when" "[I") (by decide +kernel)
  have k3 := hts (.fieldLink RX3 37 "JuryHearsAnswersModel" "said" "[I") (by decide +kernel)
  have hS : va_S A0 s.heap s.heap [] := va_S.rf
  have hP : va_P (gD g) vwCl (wM g ad σ) s.heap := hP
  have hl := lv_entry ([.ref (ad 0), .int p0, .int p1]) (n := 4) (Nat.le_of_ble_eq_true rfl)
  rw [lg_entry_eq]
  generalize (lg_sl ([.ref (ad 0), .int p0, .int p1]) ++ List.replicate (4 - (lg_sl ([.ref (ad 0), .int p0, .int p1])).length) Slot.unset).toArray = ls at hl ⊢
  have hl : lv_has ls 4 [(0, .ref (ad 0)), (1, .int p0), (2, .int p1)] := hl
  have hv := hv (fun (x3 : Int32) => ∀ (H : Heap) (locs : List Loc) (ls : Array Slot), va_P (gD g) vwCl (wM g ad σ) H → va_S A0 s.heap H locs → lv_has ls 4 [(0, .ref (ad 0)), (1, .int p0), (2, .int p1), (3, .int x3)] → W p l e { frames := 4, cells := 0, slots := 0, locals := 93 } s m ([.ref (ad 0), .int p0, .int p1] : List Value).toArray below meth c H locs 0 0 (MQ below (va_Qi (fun r (_ : Unit) => Post r) (fun _ _ => True) A0) ([.ref (ad 0), .int p0, .int p1] : List Value).toArray s 0 0 A0) (F0 m 2 ls []))
  have hv := hv (by
    intro x3 hv H locs ls hP hS hl
    refine lv_iload_n hx hb dX3_couldSay_2 rfl (lv_at hl 3 rfl) ?_
    refine lv_aload_n hx hb dX3_couldSay_3 rfl (lv_at hl 0 rfl) ?_
    refine va_get (D := gD g) (ci := 3) (v := .int (sNq (mS σ))) (C := RX3) (T := TX3) (N := 33) hx hb hts hi3 hown hK hP 0 rfl rfl 12 (by decide) k0 (fun _ h9 => h9) rfl dX3_couldSay_4 ?_
    refine lv_icmp_ge (tgt := 45) hx hb dX3_couldSay_7 (by decide) (fun c7 => ?_) (fun c7 => ?_)
    · have hv := hv.1 c7
      refine lv_iconst (v := 0) hx hb dX3_couldSay_45 (by decide) ?_
      exact W.zret (v := 0) hx hb hr rfl (fun t ht hW => ⟨⟨0, (), rfl, hv, trivial⟩, hS.F ht⟩) hS.2.2 dX3_couldSay_46
    · have hv := hv.2 c7
      refine lv_aload_n hx hb dX3_couldSay_10 rfl (lv_at hl 0 rfl) ?_
      refine lv_aload_n hx hb dX3_couldSay_11 rfl (lv_at hl 0 rfl) ?_
      refine va_get (D := gD g) (ci := 3) (v := .ref (ad 8)) (C := RX3) (T := TX3) (N := 33) hx hb hts hi3 hown hK hP 0 rfl rfl 7 (by decide) k1 (fun _ h9 => h9) rfl dX3_couldSay_12 ?_
      refine lv_iload_n hx hb dX3_couldSay_15 rfl (lv_at hl 1 rfl) ?_
      have h9 := hv.1
      have hv := hv.2
      refine va_iald (f := (sWhom (mS σ))) (n := 12) hx hb hK hP 8 0 rfl rfl h9 dX3_couldSay_16 ?_
      refine lv_iload_n hx hb dX3_couldSay_17 rfl (lv_at hl 3 rfl) ?_
      refine lv_iload_n hx hb dX3_couldSay_18 rfl (lv_at hl 2 rfl) ?_
      refine lv_aload_n hx hb dX3_couldSay_19 rfl (lv_at hl 0 rfl) ?_
      refine va_get (D := gD g) (ci := 3) (v := .ref (ad 11)) (C := RX3) (T := TX3) (N := 33) hx hb hts hi3 hown hK hP 0 rfl rfl 10 (by decide) k2 (fun _ h9 => h9) rfl dX3_couldSay_20 ?_
      refine lv_iload_n hx hb dX3_couldSay_23 rfl (lv_at hl 1 rfl) ?_
      have h9 := hv.1
      have hv := hv.2
      refine va_iald (f := (sWhen (mS σ))) (n := 12) hx hb hK hP 11 0 rfl rfl h9 dX3_couldSay_24 ?_
      have h8 := hv.1
      have hv := hv.2
      have hPc := hP
      refine ro_int (va_runV (As := [.int ((sWhom (mS σ)) (p0).toNatClampNeg), .int x3, .int p1, .int ((sWhen (mS σ)) (p0).toNatClampNeg)]) (rest := []) ⟨hx, hb, hml, hown, hts⟩ (h_X3_answerOf g ad σ ((sWhom (mS σ)) (p0).toNatClampNeg) x3 p1 ((sWhen (mS σ)) (p0).toNatClampNeg) h8) (cwV 4 hts gX3_couldSay_X3_answerOf rfl rfl rfl (by decide +kernel) ⟨Nat.le_of_ble_eq_true rfl, Nat.le_of_ble_eq_true rfl⟩) ⟨RO_blind, va_recv hK hP (ci := 3) (q0 := 0) rfl rfl, fun U hU hW => ⟨rfl, by rw [hU]; exact hPc, va_K.moved hW.alike hK, hE.call hW hU hS (fun _ h => h.elim)⟩⟩ rfl rfl hl.1 rfl (lv_room (Nat.le_of_ble_eq_true rfl)) dX3_couldSay_25 ⟨Nat.le_of_ble_eq_true rfl, Nat.le_of_ble_eq_true rfl⟩) hS hP (fun r H locs hw hP hS => ?_)
      subst r
      refine lv_aload_n hx hb dX3_couldSay_28 rfl (lv_at hl 0 rfl) ?_
      refine va_get (D := gD g) (ci := 3) (v := .ref (ad 10)) (C := RX3) (T := TX3) (N := 33) hx hb hts hi3 hown hK hP 0 rfl rfl 9 (by decide) k3 (fun _ h9 => h9) rfl dX3_couldSay_29 ?_
      refine lv_iload_n hx hb dX3_couldSay_32 rfl (lv_at hl 1 rfl) ?_
      have h9 := hv.1
      have hv := hv.2
      refine va_iald (f := (sSaid (mS σ))) (n := 12) hx hb hK hP 10 0 rfl rfl h9 dX3_couldSay_33 ?_
      refine lv_icmp_ne (tgt := 39) hx hb dX3_couldSay_34 (by decide) (fun c34 => ?_) (fun c34 => ?_)
      · have hv := hv.1 c34
        refine lv_iinc (v := (x3 + 1)) (lv' := [(3, .int (x3 + 1)), (0, .ref (ad 0)), (1, .int p0), (2, .int p1)]) hx hb dX3_couldSay_39 hl (k := 3) rfl (by first | rfl | exact congrArg _ (by decide)) (by decide) rfl (fun ls hl => ?_)
        refine lv_goto (tgt := 2) hx hb dX3_couldSay_42 (by decide) ?_
        exact hv H locs ls hP hS (lv_sub hl [1, 2, 3, 0] rfl)
      · have hv := hv.2 c34
        refine lv_iconst (v := 1) hx hb dX3_couldSay_37 (by decide) ?_
        exact W.zret (v := 1) hx hb hr rfl (fun t ht hW => ⟨⟨1, (), rfl, hv, trivial⟩, hS.F ht⟩) hS.2.2 dX3_couldSay_38)
  obtain ⟨H, hH⟩ : ∃ z, z = s.heap := ⟨_, rfl⟩
  obtain ⟨locs, hL⟩ : ∃ z : List Loc, z = [] := ⟨_, rfl⟩
  rw [← hL] at hS ⊢
  have hS : va_S A0 s.heap H locs := by rw [hH]; exact hS
  rw [← hH] at hP ⊢
  clear hH hL
  refine lv_iconst (v := 0) hx hb dX3_couldSay_0 (by decide) ?_
  refine lv_istore_n (lv' := [(3, .int 0), (0, .ref (ad 0)), (1, .int p0), (2, .int p1)]) hx hb dX3_couldSay_1 rfl hl (by decide) rfl (fun ls hl => ?_)
  exact hv H locs ls hP hS (lv_sub hl [1, 2, 3, 0] rfl)

set_option maxHeartbeats 4000000 in
set_option maxRecDepth 100000 in
theorem m_X3_fitsJury (l : Launch) (h_X3_couldSay : C_X3_couldSay l) (g : CX) (ad : Nat → Nat) (σ : KM) (p0 : Int32) (Post : Int32 → Prop) (hv : vc_X3_fitsJury σ p0 Post) : Met l yX3_fitsJury wsX3_fitsJury { frames := 5, cells := 0, slots := 0, locals := 116 } (va_Pc [.ref (ad 0), .int p0] (RO g (wM g ad σ))) (va_Qi (fun r (_ : Unit) => Post r) (fun _ _ => True) A0) 0 0 A0 := by
  unfold vc_X3_fitsJury at hv
  refine Met.ofW (cc := cX3_fitsJury) (maxL := 3) (ret := (some .boolean)) (by decide) rfl ?_
  intro p e s m args below meth c s₁ B hml hv0
  obtain ⟨rfl, hP, hK, hE⟩ := hv0
  have hx := B.exec
  have hb := B.bytes
  have hr := B.returns
  have hts := atoms_spec (ws := wsX3_fitsJury) B.pre
  have hown : s.vm.findClass RX3 = some m.cls := findClass_of_methodNamed B.named
  have hlocks := B.notSynchronized
  have hi3 : ∀ w ∈ wsX30, w ∈ wsX3_fitsJury := by decide +kernel
  have k0 := hts (.fieldLink RX3 146 "JuryHearsAnswersModel" "heard" "I") (by decide +kernel)
  have hS : va_S A0 s.heap s.heap [] := va_S.rf
  have hP : va_P (gD g) vwCl (wM g ad σ) s.heap := hP
  have hl := lv_entry ([.ref (ad 0), .int p0]) (n := 3) (Nat.le_of_ble_eq_true rfl)
  rw [lg_entry_eq]
  generalize (lg_sl ([.ref (ad 0), .int p0]) ++ List.replicate (3 - (lg_sl ([.ref (ad 0), .int p0])).length) Slot.unset).toArray = ls at hl ⊢
  have hl : lv_has ls 3 [(0, .ref (ad 0)), (1, .int p0)] := hl
  have hv := hv (fun (x2 : Int32) => ∀ (H : Heap) (locs : List Loc) (ls : Array Slot), va_P (gD g) vwCl (wM g ad σ) H → va_S A0 s.heap H locs → lv_has ls 3 [(0, .ref (ad 0)), (1, .int p0), (2, .int x2)] → W p l e { frames := 5, cells := 0, slots := 0, locals := 116 } s m ([.ref (ad 0), .int p0] : List Value).toArray below meth c H locs 0 0 (MQ below (va_Qi (fun r (_ : Unit) => Post r) (fun _ _ => True) A0) ([.ref (ad 0), .int p0] : List Value).toArray s 0 0 A0) (F0 m 2 ls []))
  have hv := hv (by
    intro x2 hv H locs ls hP hS hl
    refine lv_iload_n hx hb dX3_fitsJury_2 rfl (lv_at hl 2 rfl) ?_
    refine lv_aload_n hx hb dX3_fitsJury_3 rfl (lv_at hl 0 rfl) ?_
    refine va_get (D := gD g) (ci := 3) (v := .int (sNh (mS σ))) (C := RX3) (T := TX3) (N := 33) hx hb hts hi3 hown hK hP 0 rfl rfl 14 (by decide) k0 (fun _ h9 => h9) rfl dX3_fitsJury_4 ?_
    refine lv_icmp_ge (tgt := 27) hx hb dX3_fitsJury_7 (by decide) (fun c7 => ?_) (fun c7 => ?_)
    · have hv := hv.1 c7
      refine lv_iconst (v := 1) hx hb dX3_fitsJury_27 (by decide) ?_
      exact W.zret (v := 1) hx hb hr rfl (fun t ht hW => ⟨⟨1, (), rfl, hv, trivial⟩, hS.F ht⟩) hS.2.2 dX3_fitsJury_28
    · have hv := hv.2 c7
      refine lv_aload_n hx hb dX3_fitsJury_10 rfl (lv_at hl 0 rfl) ?_
      refine lv_iload_n hx hb dX3_fitsJury_11 rfl (lv_at hl 2 rfl) ?_
      refine lv_iload_n hx hb dX3_fitsJury_12 rfl (lv_at hl 1 rfl) ?_
      have h8 := hv.1
      have hv := hv.2
      have hPc := hP
      refine ro_int (va_runV (As := [.int x2, .int p0]) (rest := []) ⟨hx, hb, hml, hown, hts⟩ (h_X3_couldSay g ad σ x2 p0 h8) (cwV 2 hts gX3_fitsJury_X3_couldSay rfl rfl rfl (by decide +kernel) ⟨Nat.le_of_ble_eq_true rfl, Nat.le_of_ble_eq_true rfl⟩) ⟨RO_blind, va_recv hK hP (ci := 3) (q0 := 0) rfl rfl, fun U hU hW => ⟨rfl, by rw [hU]; exact hPc, va_K.moved hW.alike hK, hE.call hW hU hS (fun _ h => h.elim)⟩⟩ rfl rfl hl.1 rfl (lv_room (Nat.le_of_ble_eq_true rfl)) dX3_fitsJury_13 ⟨Nat.le_of_ble_eq_true rfl, Nat.le_of_ble_eq_true rfl⟩) hS hP (fun r H locs hw hP hS => ?_)
      subst r
      refine lv_if_ne (tgt := 21) hx hb dX3_fitsJury_16 (by decide) (fun c16 => ?_) (fun c16 => ?_)
      · have hv := hv.1 c16
        refine lv_iinc (v := (x2 + 1)) (lv' := [(2, .int (x2 + 1)), (0, .ref (ad 0)), (1, .int p0)]) hx hb dX3_fitsJury_21 hl (k := 2) rfl (by first | rfl | exact congrArg _ (by decide)) (by decide) rfl (fun ls hl => ?_)
        refine lv_goto (tgt := 2) hx hb dX3_fitsJury_24 (by decide) ?_
        exact hv H locs ls hP hS (lv_sub hl [1, 2, 0] rfl)
      · have hv := hv.2 c16
        refine lv_iconst (v := 0) hx hb dX3_fitsJury_19 (by decide) ?_
        exact W.zret (v := 0) hx hb hr rfl (fun t ht hW => ⟨⟨0, (), rfl, hv, trivial⟩, hS.F ht⟩) hS.2.2 dX3_fitsJury_20)
  obtain ⟨H, hH⟩ : ∃ z, z = s.heap := ⟨_, rfl⟩
  obtain ⟨locs, hL⟩ : ∃ z : List Loc, z = [] := ⟨_, rfl⟩
  rw [← hL] at hS ⊢
  have hS : va_S A0 s.heap H locs := by rw [hH]; exact hS
  rw [← hH] at hP ⊢
  clear hH hL
  refine lv_iconst (v := 0) hx hb dX3_fitsJury_0 (by decide) ?_
  refine lv_istore_n (lv' := [(2, .int 0), (0, .ref (ad 0)), (1, .int p0)]) hx hb dX3_fitsJury_1 rfl hl (by decide) rfl (fun ls hl => ?_)
  exact hv H locs ls hP hS (lv_sub hl [1, 2, 0] rfl)

set_option maxHeartbeats 4000000 in
set_option maxRecDepth 100000 in
theorem m_X3_findFit (l : Launch) (h_X3_fitsAll : C_X3_fitsAll l) (h_X3_fitsJury : C_X3_fitsJury l) (g : CX) (ad : Nat → Nat) (σ : KM) (p0 : Int32) (Post : KM → Prop) (hv : vc_X3_findFit σ p0 Post) : Met l yX3_findFit wsX3_findFit { frames := 6, cells := 0, slots := 0, locals := 138 } (va_Pc [.ref (ad 0), .int p0] (RW g (AD ad 0 21) (wM g ad σ))) (va_Qv (fun (u : KM) => Post u) (fun u t => va_P (gD g) vwCl (wM g ad u) t.heap) (AD ad 0 21)) 0 0 (AD ad 0 21) := by
  unfold vc_X3_findFit at hv
  refine Met.ofW (cc := cX3_findFit) (maxL := 3) (ret := none) (by decide) rfl ?_
  intro p e s m args below meth c s₁ B hml hv0
  obtain ⟨rfl, hP, hK, hE, hD⟩ := hv0
  have hx := B.exec
  have hb := B.bytes
  have hr := B.returns
  have hts := atoms_spec (ws := wsX3_findFit) B.pre
  have hown : s.vm.findClass RX3 = some m.cls := findClass_of_methodNamed B.named
  have hlocks := B.notSynchronized
  have hi3 : ∀ w ∈ wsX30, w ∈ wsX3_findFit := by decide +kernel
  have k0 := hts (.fieldLink RX3 58 "JuryHearsAnswersModel" "fit" "[I") (by decide +kernel)
  have hS : va_S (AD ad 0 21) s.heap s.heap [] := va_S.rf
  have hP : va_P (gD g) vwCl (wM g ad σ) s.heap := hP
  have hl := lv_entry ([.ref (ad 0), .int p0]) (n := 3) (Nat.le_of_ble_eq_true rfl)
  rw [lg_entry_eq]
  generalize (lg_sl ([.ref (ad 0), .int p0]) ++ List.replicate (3 - (lg_sl ([.ref (ad 0), .int p0])).length) Slot.unset).toArray = ls at hl ⊢
  have hl : lv_has ls 3 [(0, .ref (ad 0)), (1, .int p0)] := hl
  have hv := hv (fun (x2 : Int32) (s_F_fit : FI) => ∀ (H : Heap) (locs : List Loc) (ls : Array Slot), va_P (gD g) vwCl (wM g ad ((mS σ), (mT σ), (mK σ), (s_F_fit, (fLeft (mF σ)), (fLeftBy (mF σ))), (mRow σ), (mRowMany σ), (mLots σ), (mRefused σ))) H → va_D (AD ad 0 21) (wM g ad ((mS σ), (mT σ), (mK σ), (s_F_fit, (fLeft (mF σ)), (fLeftBy (mF σ))), (mRow σ), (mRowMany σ), (mLots σ), (mRefused σ))) → va_S (AD ad 0 21) s.heap H locs → lv_has ls 3 [(0, .ref (ad 0)), (1, .int p0), (2, .int x2)] → W p l e { frames := 6, cells := 0, slots := 0, locals := 138 } s m ([.ref (ad 0), .int p0] : List Value).toArray below meth c H locs 0 0 (MQ below (va_Qv (fun (u : KM) => Post u) (fun u t => va_P (gD g) vwCl (wM g ad u) t.heap) (AD ad 0 21)) ([.ref (ad 0), .int p0] : List Value).toArray s 0 0 (AD ad 0 21)) (F0 m 2 ls []))
  have hv := hv (by
    intro x2 s_F_fit hv H locs ls hP hD hS hl
    refine lv_iload_n hx hb dX3_findFit_2 rfl (lv_at hl 2 rfl) ?_
    refine lv_bipush (v := 64) hx hb dX3_findFit_3 (by decide) ?_
    refine lv_icmp_ge (tgt := 48) hx hb dX3_findFit_5 (by decide) (fun c5 => ?_) (fun c5 => ?_)
    · have hv := hv.1 c5
      exact W.vret hx hb hr (fun t ht hW => ⟨⟨((mS σ), (mT σ), (mK σ), (s_F_fit, (fLeft (mF σ)), (fLeftBy (mF σ))), (mRow σ), (mRowMany σ), (mLots σ), (mRefused σ)), rfl, hv, P_at ht hP⟩, hS.F ht⟩) hS.2.2 dX3_findFit_48
    · have hv := hv.2 c5
      refine lv_aload_n hx hb dX3_findFit_8 rfl (lv_at hl 0 rfl) ?_
      refine va_get (D := gD g) (ci := 3) (v := .ref (ad 17)) (C := RX3) (T := TX3) (N := 33) hx hb hts hi3 hown hK hP 0 rfl rfl 27 (by decide) k0 (fun _ h9 => h9) rfl dX3_findFit_9 ?_
      refine lv_iload_n hx hb dX3_findFit_12 rfl (lv_at hl 2 rfl) ?_
      refine lv_iload_n hx hb dX3_findFit_13 rfl (lv_at hl 1 rfl) ?_
      refine lv_if_eq (tgt := 28) hx hb dX3_findFit_14 (by decide) (fun c14 => ?_) (fun c14 => ?_)
      · have hv := hv.1 c14
        refine lv_aload_n hx hb dX3_findFit_28 rfl (lv_at hl 0 rfl) ?_
        refine lv_iload_n hx hb dX3_findFit_29 rfl (lv_at hl 2 rfl) ?_
        have h8 := hv.1
        have hv := hv.2
        have hPc := hP
        refine ro_int (va_runV (As := [.int x2]) (rest := [.int x2, .ref (ad 17)]) ⟨hx, hb, hml, hown, hts⟩ (h_X3_fitsAll g ad ((mS σ), (mT σ), (mK σ), (s_F_fit, (fLeft (mF σ)), (fLeftBy (mF σ))), (mRow σ), (mRowMany σ), (mLots σ), (mRefused σ)) x2 h8) (cwV 1 hts gX3_findFit_X3_fitsAll rfl rfl rfl (by decide +kernel) ⟨Nat.le_of_ble_eq_true rfl, Nat.le_of_ble_eq_true rfl⟩) ⟨RO_blind, va_recv hK hP (ci := 3) (q0 := 0) rfl rfl, fun U hU hW => ⟨rfl, by rw [hU]; exact hPc, va_K.moved hW.alike hK, hE.call hW hU hS (fun _ h => h.elim)⟩⟩ rfl rfl hl.1 rfl (lv_room (Nat.le_of_ble_eq_true rfl)) dX3_findFit_30 ⟨Nat.le_of_ble_eq_true rfl, Nat.le_of_ble_eq_true rfl⟩) hS hP (fun r H locs hw hP hS => ?_)
        subst r
        refine lv_if_eq (tgt := 40) hx hb dX3_findFit_33 (by decide) (fun c33 => ?_) (fun c33 => ?_)
        · have hv := hv.1 c33
          refine lv_iconst (v := 0) hx hb dX3_findFit_40 (by decide) ?_
          have h9 := hv.1
          have hv := hv.2
          refine va_iast (f := s_F_fit) (n := 64) hx hb hK hP hD hS 17 0 rfl rfl h9 dX3_findFit_41 (fun H locs hP hD hS => ?_)
          have hP : va_P (gD g) vwCl (wM g ad ((mS σ), (mT σ), (mK σ), ((upd s_F_fit (x2).toNatClampNeg 0), (fLeft (mF σ)), (fLeftBy (mF σ))), (mRow σ), (mRowMany σ), (mLots σ), (mRefused σ))) H := hP
          have hD : va_D (AD ad 0 21) (wM g ad ((mS σ), (mT σ), (mK σ), ((upd s_F_fit (x2).toNatClampNeg 0), (fLeft (mF σ)), (fLeftBy (mF σ))), (mRow σ), (mRowMany σ), (mLots σ), (mRefused σ))) := hD
          refine lv_iinc (v := (x2 + 1)) (lv' := [(2, .int (x2 + 1)), (0, .ref (ad 0)), (1, .int p0)]) hx hb dX3_findFit_42 hl (k := 2) rfl (by first | rfl | exact congrArg _ (by decide)) (by decide) rfl (fun ls hl => ?_)
          refine lv_goto (tgt := 2) hx hb dX3_findFit_45 (by decide) ?_
          exact hv H locs ls hP hD hS (lv_sub hl [1, 2, 0] rfl)
        · have hv := hv.2 c33
          refine lv_iconst (v := 1) hx hb dX3_findFit_36 (by decide) ?_
          refine lv_goto (tgt := 41) hx hb dX3_findFit_37 (by decide) ?_
          have h9 := hv.1
          have hv := hv.2
          refine va_iast (f := s_F_fit) (n := 64) hx hb hK hP hD hS 17 0 rfl rfl h9 dX3_findFit_41 (fun H locs hP hD hS => ?_)
          have hP : va_P (gD g) vwCl (wM g ad ((mS σ), (mT σ), (mK σ), ((upd s_F_fit (x2).toNatClampNeg 1), (fLeft (mF σ)), (fLeftBy (mF σ))), (mRow σ), (mRowMany σ), (mLots σ), (mRefused σ))) H := hP
          have hD : va_D (AD ad 0 21) (wM g ad ((mS σ), (mT σ), (mK σ), ((upd s_F_fit (x2).toNatClampNeg 1), (fLeft (mF σ)), (fLeftBy (mF σ))), (mRow σ), (mRowMany σ), (mLots σ), (mRefused σ))) := hD
          refine lv_iinc (v := (x2 + 1)) (lv' := [(2, .int (x2 + 1)), (0, .ref (ad 0)), (1, .int p0)]) hx hb dX3_findFit_42 hl (k := 2) rfl (by first | rfl | exact congrArg _ (by decide)) (by decide) rfl (fun ls hl => ?_)
          refine lv_goto (tgt := 2) hx hb dX3_findFit_45 (by decide) ?_
          exact hv H locs ls hP hD hS (lv_sub hl [1, 2, 0] rfl)
      · have hv := hv.2 c14
        refine lv_aload_n hx hb dX3_findFit_17 rfl (lv_at hl 0 rfl) ?_
        refine lv_iload_n hx hb dX3_findFit_18 rfl (lv_at hl 2 rfl) ?_
        have h8 := hv.1
        have hv := hv.2
        have hPc := hP
        refine ro_int (va_runV (As := [.int x2]) (rest := [.int x2, .ref (ad 17)]) ⟨hx, hb, hml, hown, hts⟩ (h_X3_fitsJury g ad ((mS σ), (mT σ), (mK σ), (s_F_fit, (fLeft (mF σ)), (fLeftBy (mF σ))), (mRow σ), (mRowMany σ), (mLots σ), (mRefused σ)) x2 h8) (cwV 1 hts gX3_findFit_X3_fitsJury rfl rfl rfl (by decide +kernel) ⟨Nat.le_of_ble_eq_true rfl, Nat.le_of_ble_eq_true rfl⟩) ⟨RO_blind, va_recv hK hP (ci := 3) (q0 := 0) rfl rfl, fun U hU hW => ⟨rfl, by rw [hU]; exact hPc, va_K.moved hW.alike hK, hE.call hW hU hS (fun _ h => h.elim)⟩⟩ rfl rfl hl.1 rfl (lv_room (Nat.le_of_ble_eq_true rfl)) dX3_findFit_19 ⟨Nat.le_of_ble_eq_true rfl, Nat.le_of_ble_eq_true rfl⟩) hS hP (fun r H locs hw hP hS => ?_)
        subst r
        refine lv_if_eq (tgt := 40) hx hb dX3_findFit_22 (by decide) (fun c22 => ?_) (fun c22 => ?_)
        · have hv := hv.1 c22
          refine lv_iconst (v := 0) hx hb dX3_findFit_40 (by decide) ?_
          have h9 := hv.1
          have hv := hv.2
          refine va_iast (f := s_F_fit) (n := 64) hx hb hK hP hD hS 17 0 rfl rfl h9 dX3_findFit_41 (fun H locs hP hD hS => ?_)
          have hP : va_P (gD g) vwCl (wM g ad ((mS σ), (mT σ), (mK σ), ((upd s_F_fit (x2).toNatClampNeg 0), (fLeft (mF σ)), (fLeftBy (mF σ))), (mRow σ), (mRowMany σ), (mLots σ), (mRefused σ))) H := hP
          have hD : va_D (AD ad 0 21) (wM g ad ((mS σ), (mT σ), (mK σ), ((upd s_F_fit (x2).toNatClampNeg 0), (fLeft (mF σ)), (fLeftBy (mF σ))), (mRow σ), (mRowMany σ), (mLots σ), (mRefused σ))) := hD
          refine lv_iinc (v := (x2 + 1)) (lv' := [(2, .int (x2 + 1)), (0, .ref (ad 0)), (1, .int p0)]) hx hb dX3_findFit_42 hl (k := 2) rfl (by first | rfl | exact congrArg _ (by decide)) (by decide) rfl (fun ls hl => ?_)
          refine lv_goto (tgt := 2) hx hb dX3_findFit_45 (by decide) ?_
          exact hv H locs ls hP hD hS (lv_sub hl [1, 2, 0] rfl)
        · have hv := hv.2 c22
          refine lv_goto (tgt := 36) hx hb dX3_findFit_25 (by decide) ?_
          refine lv_iconst (v := 1) hx hb dX3_findFit_36 (by decide) ?_
          refine lv_goto (tgt := 41) hx hb dX3_findFit_37 (by decide) ?_
          have h9 := hv.1
          have hv := hv.2
          refine va_iast (f := s_F_fit) (n := 64) hx hb hK hP hD hS 17 0 rfl rfl h9 dX3_findFit_41 (fun H locs hP hD hS => ?_)
          have hP : va_P (gD g) vwCl (wM g ad ((mS σ), (mT σ), (mK σ), ((upd s_F_fit (x2).toNatClampNeg 1), (fLeft (mF σ)), (fLeftBy (mF σ))), (mRow σ), (mRowMany σ), (mLots σ), (mRefused σ))) H := hP
          have hD : va_D (AD ad 0 21) (wM g ad ((mS σ), (mT σ), (mK σ), ((upd s_F_fit (x2).toNatClampNeg 1), (fLeft (mF σ)), (fLeftBy (mF σ))), (mRow σ), (mRowMany σ), (mLots σ), (mRefused σ))) := hD
          refine lv_iinc (v := (x2 + 1)) (lv' := [(2, .int (x2 + 1)), (0, .ref (ad 0)), (1, .int p0)]) hx hb dX3_findFit_42 hl (k := 2) rfl (by first | rfl | exact congrArg _ (by decide)) (by decide) rfl (fun ls hl => ?_)
          refine lv_goto (tgt := 2) hx hb dX3_findFit_45 (by decide) ?_
          exact hv H locs ls hP hD hS (lv_sub hl [1, 2, 0] rfl))
  obtain ⟨H, hH⟩ : ∃ z, z = s.heap := ⟨_, rfl⟩
  obtain ⟨locs, hL⟩ : ∃ z : List Loc, z = [] := ⟨_, rfl⟩
  rw [← hL] at hS ⊢
  have hS : va_S (AD ad 0 21) s.heap H locs := by rw [hH]; exact hS
  rw [← hH] at hP ⊢
  clear hH hL
  refine lv_iconst (v := 0) hx hb dX3_findFit_0 (by decide) ?_
  refine lv_istore_n (lv' := [(2, .int 0), (0, .ref (ad 0)), (1, .int p0)]) hx hb dX3_findFit_1 rfl hl (by decide) rfl (fun ls hl => ?_)
  exact hv H locs ls hP hD hS (lv_sub hl [1, 2, 0] rfl)

set_option maxHeartbeats 4000000 in
set_option maxRecDepth 100000 in
theorem m_X3_manyIn (l : Launch)  (g : CX) (ad : Nat → Nat) (o : Nat) (σ : FI)  (Post : Int32 → Prop) (hv : vc_X3_manyIn σ Post) : Met l yX3_manyIn wsX3_manyIn { frames := 0, cells := 0, slots := 0, locals := 0 } (va_Pc [.ref (ad o)] (RO g (wA g ad o σ))) (va_Qi (fun r (_ : Unit) => Post r) (fun _ _ => True) A0) 0 0 A0 := by
  unfold vc_X3_manyIn at hv
  refine Met.ofW (cc := cX3_manyIn) (maxL := 3) (ret := (some .int)) (by decide) rfl ?_
  intro p e s m args below meth c s₁ B hml hv0
  obtain ⟨rfl, hP, hK, hE⟩ := hv0
  have hx := B.exec
  have hb := B.bytes
  have hr := B.returns
  have hts := atoms_spec (ws := wsX3_manyIn) B.pre
  have hown : s.vm.findClass RX3 = some m.cls := findClass_of_methodNamed B.named
  have hlocks := B.notSynchronized
  have hS : va_S A0 s.heap s.heap [] := va_S.rf
  have hP : va_P (gD g) vwCl (wA g ad o σ) s.heap := hP
  have hl := lv_entry ([.ref (ad o)]) (n := 3) (Nat.le_of_ble_eq_true rfl)
  rw [lg_entry_eq]
  generalize (lg_sl ([.ref (ad o)]) ++ List.replicate (3 - (lg_sl ([.ref (ad o)])).length) Slot.unset).toArray = ls at hl ⊢
  have hl : lv_has ls 3 [(0, .ref (ad o))] := hl
  have hv := hv (fun (x1 : Int32) (x2 : Int32) => ∀ (H : Heap) (locs : List Loc) (ls : Array Slot), va_P (gD g) vwCl (wA g ad o σ) H → va_S A0 s.heap H locs → lv_has ls 3 [(0, .ref (ad o)), (1, .int x1), (2, .int x2)] → W p l e { frames := 0, cells := 0, slots := 0, locals := 0 } s m ([.ref (ad o)] : List Value).toArray below meth c H locs 0 0 (MQ below (va_Qi (fun r (_ : Unit) => Post r) (fun _ _ => True) A0) ([.ref (ad o)] : List Value).toArray s 0 0 A0) (F0 m 4 ls []))
  have hv := hv (by
    intro x1 x2 hv H locs ls hP hS hl
    refine lv_iload_n hx hb dX3_manyIn_4 rfl (lv_at hl 2 rfl) ?_
    refine lv_bipush (v := 64) hx hb dX3_manyIn_5 (by decide) ?_
    refine lv_icmp_ge (tgt := 22) hx hb dX3_manyIn_7 (by decide) (fun c7 => ?_) (fun c7 => ?_)
    · have hv := hv.1 c7
      refine lv_iload_n hx hb dX3_manyIn_22 rfl (lv_at hl 1 rfl) ?_
      exact W.iret (v := x1) hx hb hr (fun t ht hW => ⟨⟨x1, (), rfl, hv, trivial⟩, hS.F ht⟩) hS.2.2 dX3_manyIn_23
    · have hv := hv.2 c7
      refine lv_iload_n hx hb dX3_manyIn_10 rfl (lv_at hl 1 rfl) ?_
      refine lv_aload_n hx hb dX3_manyIn_11 rfl (lv_at hl 0 rfl) ?_
      refine lv_iload_n hx hb dX3_manyIn_12 rfl (lv_at hl 2 rfl) ?_
      have h9 := hv.1
      have hv := hv.2
      refine va_iald (f := σ) (n := 64) hx hb hK hP 0 0 rfl rfl h9 dX3_manyIn_13 ?_
      refine lv_iadd hx hb dX3_manyIn_14 ?_
      refine lv_istore_n (lv' := [(1, .int (x1 + (σ (x2).toNatClampNeg))), (0, .ref (ad o)), (2, .int x2)]) hx hb dX3_manyIn_15 rfl hl (by decide) rfl (fun ls hl => ?_)
      refine lv_iinc (v := (x2 + 1)) (lv' := [(2, .int (x2 + 1)), (1, .int (x1 + (σ (x2).toNatClampNeg))), (0, .ref (ad o))]) hx hb dX3_manyIn_16 hl (k := 2) rfl (by first | rfl | exact congrArg _ (by decide)) (by decide) rfl (fun ls hl => ?_)
      refine lv_goto (tgt := 4) hx hb dX3_manyIn_19 (by decide) ?_
      exact hv H locs ls hP hS (lv_sub hl [2, 1, 0] rfl))
  obtain ⟨H, hH⟩ : ∃ z, z = s.heap := ⟨_, rfl⟩
  obtain ⟨locs, hL⟩ : ∃ z : List Loc, z = [] := ⟨_, rfl⟩
  rw [← hL] at hS ⊢
  have hS : va_S A0 s.heap H locs := by rw [hH]; exact hS
  rw [← hH] at hP ⊢
  clear hH hL
  refine lv_iconst (v := 0) hx hb dX3_manyIn_0 (by decide) ?_
  refine lv_istore_n (lv' := [(1, .int 0), (0, .ref (ad o))]) hx hb dX3_manyIn_1 rfl hl (by decide) rfl (fun ls hl => ?_)
  refine lv_iconst (v := 0) hx hb dX3_manyIn_2 (by decide) ?_
  refine lv_istore_n (lv' := [(2, .int 0), (1, .int 0), (0, .ref (ad o))]) hx hb dX3_manyIn_3 rfl hl (by decide) rfl (fun ls hl => ?_)
  exact hv H locs ls hP hS (lv_sub hl [2, 1, 0] rfl)

set_option maxHeartbeats 4000000 in
set_option maxRecDepth 100000 in
theorem m_X3_leastIn (l : Launch)  (g : CX) (ad : Nat → Nat) (o : Nat) (σ : FI)  (Post : Int32 → Prop) (hv : vc_X3_leastIn σ Post) : Met l yX3_leastIn wsX3_leastIn { frames := 0, cells := 0, slots := 0, locals := 0 } (va_Pc [.ref (ad o)] (RO g (wA g ad o σ))) (va_Qi (fun r (_ : Unit) => Post r) (fun _ _ => True) A0) 0 0 A0 := by
  unfold vc_X3_leastIn at hv
  refine Met.ofW (cc := cX3_leastIn) (maxL := 2) (ret := (some .int)) (by decide) rfl ?_
  intro p e s m args below meth c s₁ B hml hv0
  obtain ⟨rfl, hP, hK, hE⟩ := hv0
  have hx := B.exec
  have hb := B.bytes
  have hr := B.returns
  have hts := atoms_spec (ws := wsX3_leastIn) B.pre
  have hown : s.vm.findClass RX3 = some m.cls := findClass_of_methodNamed B.named
  have hlocks := B.notSynchronized
  have hS : va_S A0 s.heap s.heap [] := va_S.rf
  have hP : va_P (gD g) vwCl (wA g ad o σ) s.heap := hP
  have hl := lv_entry ([.ref (ad o)]) (n := 2) (Nat.le_of_ble_eq_true rfl)
  rw [lg_entry_eq]
  generalize (lg_sl ([.ref (ad o)]) ++ List.replicate (2 - (lg_sl ([.ref (ad o)])).length) Slot.unset).toArray = ls at hl ⊢
  have hl : lv_has ls 2 [(0, .ref (ad o))] := hl
  have hv := hv (fun (x1 : Int32) => ∀ (H : Heap) (locs : List Loc) (ls : Array Slot), va_P (gD g) vwCl (wA g ad o σ) H → va_S A0 s.heap H locs → lv_has ls 2 [(0, .ref (ad o)), (1, .int x1)] → W p l e { frames := 0, cells := 0, slots := 0, locals := 0 } s m ([.ref (ad o)] : List Value).toArray below meth c H locs 0 0 (MQ below (va_Qi (fun r (_ : Unit) => Post r) (fun _ _ => True) A0) ([.ref (ad o)] : List Value).toArray s 0 0 A0) (F0 m 2 ls []))
  have hv := hv (by
    intro x1 hv H locs ls hP hS hl
    refine lv_iload_n hx hb dX3_leastIn_2 rfl (lv_at hl 1 rfl) ?_
    refine lv_bipush (v := 64) hx hb dX3_leastIn_3 (by decide) ?_
    refine lv_icmp_ge (tgt := 23) hx hb dX3_leastIn_5 (by decide) (fun c5 => ?_) (fun c5 => ?_)
    · have hv := hv.1 c5
      refine lv_bipush (v := (-9)) hx hb dX3_leastIn_23 (by decide) ?_
      exact W.iret (v := (-9)) hx hb hr (fun t ht hW => ⟨⟨(-9), (), rfl, hv, trivial⟩, hS.F ht⟩) hS.2.2 dX3_leastIn_25
    · have hv := hv.2 c5
      refine lv_aload_n hx hb dX3_leastIn_8 rfl (lv_at hl 0 rfl) ?_
      refine lv_iload_n hx hb dX3_leastIn_9 rfl (lv_at hl 1 rfl) ?_
      have h9 := hv.1
      have hv := hv.2
      refine va_iald (f := σ) (n := 64) hx hb hK hP 0 0 rfl rfl h9 dX3_leastIn_10 ?_
      refine lv_iconst (v := 1) hx hb dX3_leastIn_11 (by decide) ?_
      refine lv_icmp_ne (tgt := 17) hx hb dX3_leastIn_12 (by decide) (fun c12 => ?_) (fun c12 => ?_)
      · have hv := hv.1 c12
        refine lv_iinc (v := (x1 + 1)) (lv' := [(1, .int (x1 + 1)), (0, .ref (ad o))]) hx hb dX3_leastIn_17 hl (k := 1) rfl (by first | rfl | exact congrArg _ (by decide)) (by decide) rfl (fun ls hl => ?_)
        refine lv_goto (tgt := 2) hx hb dX3_leastIn_20 (by decide) ?_
        exact hv H locs ls hP hS (lv_sub hl [1, 0] rfl)
      · have hv := hv.2 c12
        refine lv_iload_n hx hb dX3_leastIn_15 rfl (lv_at hl 1 rfl) ?_
        exact W.iret (v := x1) hx hb hr (fun t ht hW => ⟨⟨x1, (), rfl, hv, trivial⟩, hS.F ht⟩) hS.2.2 dX3_leastIn_16)
  obtain ⟨H, hH⟩ : ∃ z, z = s.heap := ⟨_, rfl⟩
  obtain ⟨locs, hL⟩ : ∃ z : List Loc, z = [] := ⟨_, rfl⟩
  rw [← hL] at hS ⊢
  have hS : va_S A0 s.heap H locs := by rw [hH]; exact hS
  rw [← hH] at hP ⊢
  clear hH hL
  refine lv_iconst (v := 0) hx hb dX3_leastIn_0 (by decide) ?_
  refine lv_istore_n (lv' := [(1, .int 0), (0, .ref (ad o))]) hx hb dX3_leastIn_1 rfl hl (by decide) rfl (fun ls hl => ?_)
  exact hv H locs ls hP hS (lv_sub hl [1, 0] rfl)

set_option maxHeartbeats 4000000 in
set_option maxRecDepth 100000 in
theorem m_X3_sureIn (l : Launch) (h_X3_manyIn : C_X3_manyIn l) (g : CX) (ad : Nat → Nat) (o : Nat) (σ : FI)  (Post : Int32 → Prop) (hv : vc_X3_sureIn σ Post) : Met l yX3_sureIn wsX3_sureIn { frames := 1, cells := 0, slots := 0, locals := 22 } (va_Pc [.ref (ad o)] (RO g (wA g ad o σ))) (va_Qi (fun r (_ : Unit) => Post r) (fun _ _ => True) A0) 0 0 A0 := by
  unfold vc_X3_sureIn at hv
  refine Met.ofW (cc := cX3_sureIn) (maxL := 4) (ret := (some .int)) (by decide) rfl ?_
  intro p e s m args below meth c s₁ B hml hv0
  obtain ⟨rfl, hP, hK, hE⟩ := hv0
  have hx := B.exec
  have hb := B.bytes
  have hr := B.returns
  have hts := atoms_spec (ws := wsX3_sureIn) B.pre
  have hown : s.vm.findClass RX3 = some m.cls := findClass_of_methodNamed B.named
  have hlocks := B.notSynchronized
  have hS : va_S A0 s.heap s.heap [] := va_S.rf
  have hP : va_P (gD g) vwCl (wA g ad o σ) s.heap := hP
  have hl := lv_entry ([.ref (ad o)]) (n := 4) (Nat.le_of_ble_eq_true rfl)
  rw [lg_entry_eq]
  generalize (lg_sl ([.ref (ad o)]) ++ List.replicate (4 - (lg_sl ([.ref (ad o)])).length) Slot.unset).toArray = ls at hl ⊢
  have hl : lv_has ls 4 [(0, .ref (ad o))] := hl
  have hv := hv (fun (x1 : Int32) (x2 : Int32) (x3 : Int32) => ∀ (H : Heap) (locs : List Loc) (ls : Array Slot), va_P (gD g) vwCl (wA g ad o σ) H → va_S A0 s.heap H locs → lv_has ls 4 [(0, .ref (ad o)), (1, .int x1), (2, .int x2), (3, .int x3)] → W p l e { frames := 1, cells := 0, slots := 0, locals := 22 } s m ([.ref (ad o)] : List Value).toArray below meth c H locs 0 0 (MQ below (va_Qi (fun r (_ : Unit) => Post r) (fun _ _ => True) A0) ([.ref (ad o)] : List Value).toArray s 0 0 A0) (F0 m 7 ls []))
  have hv := hv (by
    intro x1 x2 x3 hv H locs ls hP hS hl
    refine lv_iload_n hx hb dX3_sureIn_7 rfl (lv_at hl 3 rfl) ?_
    refine lv_bipush (v := 64) hx hb dX3_sureIn_8 (by decide) ?_
    refine lv_icmp_ge (tgt := 50) hx hb dX3_sureIn_10 (by decide) (fun c10 => ?_) (fun c10 => ?_)
    · have hv := hv.1 c10
      refine lv_aload_n hx hb dX3_sureIn_50 rfl (lv_at hl 0 rfl) ?_
      have hPc := hP
      refine ro_int (va_runS (As := [.ref (ad o)]) (rest := []) ⟨hx, hb, hml, hown, hts⟩ (h_X3_manyIn g ad o σ) (va_cwS 1 hts gX3_sureIn_X3_manyIn rfl rfl rfl (by decide +kernel) ⟨Nat.le_of_ble_eq_true rfl, Nat.le_of_ble_eq_true rfl⟩) ⟨RO_blind, fun U hU hW => ⟨rfl, by rw [hU]; exact hPc, va_K.moved hW.alike hK, hE.call hW hU hS (fun _ h => h.elim)⟩⟩ rfl rfl hl.1 rfl (lv_room (Nat.le_of_ble_eq_true rfl)) dX3_sureIn_51 ⟨Nat.le_of_ble_eq_true rfl, Nat.le_of_ble_eq_true rfl⟩) hS hP (fun r H locs hw hP hS => ?_)
      subst r
      refine lv_if_ne (tgt := 61) hx hb dX3_sureIn_54 (by decide) (fun c54 => ?_) (fun c54 => ?_)
      · have hv := hv.1 c54
        refine lv_iload_n hx hb dX3_sureIn_61 rfl (lv_at hl 1 rfl) ?_
        refine lv_bipush (v := 63) hx hb dX3_sureIn_62 (by decide) ?_
        refine lv_iload_n hx hb dX3_sureIn_64 rfl (lv_at hl 2 rfl) ?_
        refine lv_iconst (v := (-1)) hx hb dX3_sureIn_65 (by decide) ?_
        refine lv_ixor hx hb dX3_sureIn_66 ?_
        refine lv_iand hx hb dX3_sureIn_67 ?_
        refine lv_ior hx hb dX3_sureIn_68 ?_
        exact W.iret (v := (x1 ||| (63 &&& (x2 ^^^ (-1))))) hx hb hr (fun t ht hW => ⟨⟨(x1 ||| (63 &&& (x2 ^^^ (-1)))), (), rfl, hv, trivial⟩, hS.F ht⟩) hS.2.2 dX3_sureIn_69
      · have hv := hv.2 c54
        refine lv_iconst (v := 0) hx hb dX3_sureIn_57 (by decide) ?_
        refine lv_goto (tgt := 69) hx hb dX3_sureIn_58 (by decide) ?_
        exact W.iret (v := 0) hx hb hr (fun t ht hW => ⟨⟨0, (), rfl, hv, trivial⟩, hS.F ht⟩) hS.2.2 dX3_sureIn_69
    · have hv := hv.2 c10
      refine lv_iload_n hx hb dX3_sureIn_13 rfl (lv_at hl 1 rfl) ?_
      refine lv_aload_n hx hb dX3_sureIn_14 rfl (lv_at hl 0 rfl) ?_
      refine lv_iload_n hx hb dX3_sureIn_15 rfl (lv_at hl 3 rfl) ?_
      have h9 := hv.1
      have hv := hv.2
      refine va_iald (f := σ) (n := 64) hx hb hK hP 0 0 rfl rfl h9 dX3_sureIn_16 ?_
      refine lv_iconst (v := 1) hx hb dX3_sureIn_17 (by decide) ?_
      refine lv_icmp_ne (tgt := 25) hx hb dX3_sureIn_18 (by decide) (fun c18 => ?_) (fun c18 => ?_)
      · have hv := hv.1 c18
        refine lv_bipush (v := 63) hx hb dX3_sureIn_25 (by decide) ?_
        refine lv_iand hx hb dX3_sureIn_27 ?_
        refine lv_istore_n (lv' := [(1, .int (x1 &&& 63)), (0, .ref (ad o)), (2, .int x2), (3, .int x3)]) hx hb dX3_sureIn_28 rfl hl (by decide) rfl (fun ls hl => ?_)
        refine lv_iload_n hx hb dX3_sureIn_29 rfl (lv_at hl 2 rfl) ?_
        refine lv_aload_n hx hb dX3_sureIn_30 rfl (lv_at hl 1 rfl) ?_
        refine lv_iload_n hx hb dX3_sureIn_31 rfl (lv_at hl 3 rfl) ?_
        have h9 := hv.1
        have hv := hv.2
        refine va_iald (f := σ) (n := 64) hx hb hK hP 0 0 rfl rfl h9 dX3_sureIn_32 ?_
        refine lv_iconst (v := 1) hx hb dX3_sureIn_33 (by decide) ?_
        refine lv_icmp_ne (tgt := 41) hx hb dX3_sureIn_34 (by decide) (fun c34 => ?_) (fun c34 => ?_)
        · have hv := hv.1 c34
          refine lv_iconst (v := 0) hx hb dX3_sureIn_41 (by decide) ?_
          refine lv_ior hx hb dX3_sureIn_42 ?_
          refine lv_istore_n (lv' := [(2, .int (x2 ||| 0)), (1, .int (x1 &&& 63)), (0, .ref (ad o)), (3, .int x3)]) hx hb dX3_sureIn_43 rfl hl (by decide) rfl (fun ls hl => ?_)
          refine lv_iinc (v := (x3 + 1)) (lv' := [(3, .int (x3 + 1)), (2, .int (x2 ||| 0)), (1, .int (x1 &&& 63)), (0, .ref (ad o))]) hx hb dX3_sureIn_44 hl (k := 3) rfl (by first | rfl | exact congrArg _ (by decide)) (by decide) rfl (fun ls hl => ?_)
          refine lv_goto (tgt := 7) hx hb dX3_sureIn_47 (by decide) ?_
          exact hv H locs ls hP hS (lv_sub hl [3, 2, 1, 0] rfl)
        · have hv := hv.2 c34
          refine lv_iload_n hx hb dX3_sureIn_37 rfl (lv_at hl 3 rfl) ?_
          refine lv_goto (tgt := 42) hx hb dX3_sureIn_38 (by decide) ?_
          refine lv_ior hx hb dX3_sureIn_42 ?_
          refine lv_istore_n (lv' := [(2, .int (x2 ||| x3)), (1, .int (x1 &&& 63)), (0, .ref (ad o)), (3, .int x3)]) hx hb dX3_sureIn_43 rfl hl (by decide) rfl (fun ls hl => ?_)
          refine lv_iinc (v := (x3 + 1)) (lv' := [(3, .int (x3 + 1)), (2, .int (x2 ||| x3)), (1, .int (x1 &&& 63)), (0, .ref (ad o))]) hx hb dX3_sureIn_44 hl (k := 3) rfl (by first | rfl | exact congrArg _ (by decide)) (by decide) rfl (fun ls hl => ?_)
          refine lv_goto (tgt := 7) hx hb dX3_sureIn_47 (by decide) ?_
          exact hv H locs ls hP hS (lv_sub hl [3, 2, 1, 0] rfl)
      · have hv := hv.2 c18
        refine lv_iload_n hx hb dX3_sureIn_21 rfl (lv_at hl 3 rfl) ?_
        refine lv_goto (tgt := 27) hx hb dX3_sureIn_22 (by decide) ?_
        refine lv_iand hx hb dX3_sureIn_27 ?_
        refine lv_istore_n (lv' := [(1, .int (x1 &&& x3)), (0, .ref (ad o)), (2, .int x2), (3, .int x3)]) hx hb dX3_sureIn_28 rfl hl (by decide) rfl (fun ls hl => ?_)
        refine lv_iload_n hx hb dX3_sureIn_29 rfl (lv_at hl 2 rfl) ?_
        refine lv_aload_n hx hb dX3_sureIn_30 rfl (lv_at hl 1 rfl) ?_
        refine lv_iload_n hx hb dX3_sureIn_31 rfl (lv_at hl 3 rfl) ?_
        have h9 := hv.1
        have hv := hv.2
        refine va_iald (f := σ) (n := 64) hx hb hK hP 0 0 rfl rfl h9 dX3_sureIn_32 ?_
        refine lv_iconst (v := 1) hx hb dX3_sureIn_33 (by decide) ?_
        refine lv_icmp_ne (tgt := 41) hx hb dX3_sureIn_34 (by decide) (fun c34 => ?_) (fun c34 => ?_)
        · have hv := hv.1 c34
          refine lv_iconst (v := 0) hx hb dX3_sureIn_41 (by decide) ?_
          refine lv_ior hx hb dX3_sureIn_42 ?_
          refine lv_istore_n (lv' := [(2, .int (x2 ||| 0)), (1, .int (x1 &&& x3)), (0, .ref (ad o)), (3, .int x3)]) hx hb dX3_sureIn_43 rfl hl (by decide) rfl (fun ls hl => ?_)
          refine lv_iinc (v := (x3 + 1)) (lv' := [(3, .int (x3 + 1)), (2, .int (x2 ||| 0)), (1, .int (x1 &&& x3)), (0, .ref (ad o))]) hx hb dX3_sureIn_44 hl (k := 3) rfl (by first | rfl | exact congrArg _ (by decide)) (by decide) rfl (fun ls hl => ?_)
          refine lv_goto (tgt := 7) hx hb dX3_sureIn_47 (by decide) ?_
          exact hv H locs ls hP hS (lv_sub hl [3, 2, 1, 0] rfl)
        · have hv := hv.2 c34
          refine lv_iload_n hx hb dX3_sureIn_37 rfl (lv_at hl 3 rfl) ?_
          refine lv_goto (tgt := 42) hx hb dX3_sureIn_38 (by decide) ?_
          refine lv_ior hx hb dX3_sureIn_42 ?_
          refine lv_istore_n (lv' := [(2, .int (x2 ||| x3)), (1, .int (x1 &&& x3)), (0, .ref (ad o)), (3, .int x3)]) hx hb dX3_sureIn_43 rfl hl (by decide) rfl (fun ls hl => ?_)
          refine lv_iinc (v := (x3 + 1)) (lv' := [(3, .int (x3 + 1)), (2, .int (x2 ||| x3)), (1, .int (x1 &&& x3)), (0, .ref (ad o))]) hx hb dX3_sureIn_44 hl (k := 3) rfl (by first | rfl | exact congrArg _ (by decide)) (by decide) rfl (fun ls hl => ?_)
          refine lv_goto (tgt := 7) hx hb dX3_sureIn_47 (by decide) ?_
          exact hv H locs ls hP hS (lv_sub hl [3, 2, 1, 0] rfl))
  obtain ⟨H, hH⟩ : ∃ z, z = s.heap := ⟨_, rfl⟩
  obtain ⟨locs, hL⟩ : ∃ z : List Loc, z = [] := ⟨_, rfl⟩
  rw [← hL] at hS ⊢
  have hS : va_S A0 s.heap H locs := by rw [hH]; exact hS
  rw [← hH] at hP ⊢
  clear hH hL
  refine lv_bipush (v := 63) hx hb dX3_sureIn_0 (by decide) ?_
  refine lv_istore_n (lv' := [(1, .int 63), (0, .ref (ad o))]) hx hb dX3_sureIn_2 rfl hl (by decide) rfl (fun ls hl => ?_)
  refine lv_iconst (v := 0) hx hb dX3_sureIn_3 (by decide) ?_
  refine lv_istore_n (lv' := [(2, .int 0), (1, .int 63), (0, .ref (ad o))]) hx hb dX3_sureIn_4 rfl hl (by decide) rfl (fun ls hl => ?_)
  refine lv_iconst (v := 0) hx hb dX3_sureIn_5 (by decide) ?_
  refine lv_istore_n (lv' := [(3, .int 0), (2, .int 0), (1, .int 63), (0, .ref (ad o))]) hx hb dX3_sureIn_6 rfl hl (by decide) rfl (fun ls hl => ?_)
  exact hv H locs ls hP hS (lv_sub hl [3, 2, 1, 0] rfl)

set_option maxHeartbeats 4000000 in
set_option maxRecDepth 100000 in
theorem m_X3_manyOrLeast (l : Launch) (h_X3_isIn : C_X3_isIn l) (h_X3_leastIn : C_X3_leastIn l) (h_X3_manyIn : C_X3_manyIn l) (h_X3_no : C_X3_no l) (g : CX) (ad : Nat → Nat) (σ : KM) (p0 : Int32) (Post : Int32 → KM → Prop) (hv : vc_X3_manyOrLeast σ p0 Post) : Met l yX3_manyOrLeast wsX3_manyOrLeast { frames := 1, cells := 0, slots := 0, locals := 22 } (va_Pc [.ref (ad 0), .int p0] (RW g (AD ad 0 21) (wM g ad σ))) (va_Qi (fun (r : Int32) (u : KM) => Post r u) (fun u t => va_P (gD g) vwCl (wM g ad u) t.heap) (AD ad 0 21)) 0 0 (AD ad 0 21) := by
  unfold vc_X3_manyOrLeast at hv
  refine Met.ofW (cc := cX3_manyOrLeast) (maxL := 2) (ret := (some .int)) (by decide) rfl ?_
  intro p e s m args below meth c s₁ B hml hv0
  obtain ⟨rfl, hP, hK, hE, hD⟩ := hv0
  have hx := B.exec
  have hb := B.bytes
  have hr := B.returns
  have hts := atoms_spec (ws := wsX3_manyOrLeast) B.pre
  have hown : s.vm.findClass RX3 = some m.cls := findClass_of_methodNamed B.named
  have hlocks := B.notSynchronized
  have hi3 : ∀ w ∈ wsX30, w ∈ wsX3_manyOrLeast := by decide +kernel
  have k0 := hts (.fieldLink RX3 58 "JuryHearsAnswersModel" "fit" "[I") (by decide +kernel)
  have hS : va_S (AD ad 0 21) s.heap s.heap [] := va_S.rf
  have hP : va_P (gD g) vwCl (wM g ad σ) s.heap := hP
  have hl := lv_entry ([.ref (ad 0), .int p0]) (n := 2) (Nat.le_of_ble_eq_true rfl)
  rw [lg_entry_eq]
  generalize (lg_sl ([.ref (ad 0), .int p0]) ++ List.replicate (2 - (lg_sl ([.ref (ad 0), .int p0])).length) Slot.unset).toArray = ls at hl ⊢
  have hl : lv_has ls 2 [(0, .ref (ad 0)), (1, .int p0)] := hl
  obtain ⟨H, hH⟩ : ∃ z, z = s.heap := ⟨_, rfl⟩
  obtain ⟨locs, hL⟩ : ∃ z : List Loc, z = [] := ⟨_, rfl⟩
  rw [← hL] at hS ⊢
  have hS : va_S (AD ad 0 21) s.heap H locs := by rw [hH]; exact hS
  rw [← hH] at hP ⊢
  clear hH hL
  refine lv_iload_n hx hb dX3_manyOrLeast_0 rfl (lv_at hl 1 rfl) ?_
  refine lv_iconst (v := 0) hx hb dX3_manyOrLeast_1 (by decide) ?_
  refine lv_iconst (v := 1) hx hb dX3_manyOrLeast_2 (by decide) ?_
  have hPc : va_P (gD g) vwCl [] H := fun k q h => by simp at h
  refine ro_int (va_runS (As := [.int p0, .int 0, .int 1]) (rest := []) ⟨hx, hb, hml, hown, hts⟩ (h_X3_isIn g p0 0 1) (va_cwS 3 hts gX3_manyOrLeast_X3_isIn rfl rfl rfl (by decide +kernel) ⟨Nat.le_of_ble_eq_true rfl, Nat.le_of_ble_eq_true rfl⟩) ⟨RO_blind, fun U hU hW => ⟨rfl, by rw [hU]; exact hPc, va_K.moved hW.alike hK, hE.call hW hU hS (fun _ h => h.elim)⟩⟩ rfl rfl hl.1 rfl (lv_room (Nat.le_of_ble_eq_true rfl)) dX3_manyOrLeast_3 ⟨Nat.le_of_ble_eq_true rfl, Nat.le_of_ble_eq_true rfl⟩) hS hP (fun r H locs hw hP hS => ?_)
  subst r
  refine lv_if_ne (tgt := 16) hx hb dX3_manyOrLeast_6 (by decide) (fun c6 => ?_) (fun c6 => ?_)
  · have hv := hv.1 c6
    refine lv_iload_n hx hb dX3_manyOrLeast_16 rfl (lv_at hl 1 rfl) ?_
    refine lv_if_ne (tgt := 30) hx hb dX3_manyOrLeast_17 (by decide) (fun c17 => ?_) (fun c17 => ?_)
    · have hv := hv.1 c17
      refine lv_aload_n hx hb dX3_manyOrLeast_30 rfl (lv_at hl 0 rfl) ?_
      refine va_get (D := gD g) (ci := 3) (v := .ref (ad 17)) (C := RX3) (T := TX3) (N := 33) hx hb hts hi3 hown hK hP 0 rfl rfl 27 (by decide) k0 (fun _ h9 => h9) rfl dX3_manyOrLeast_31 ?_
      have hPc : va_P (gD g) vwCl (wA g ad 17 (fFit (mF σ))) H := hP.sub [17] rfl
      refine ro_int (va_runS (As := [.ref (ad 17)]) (rest := []) ⟨hx, hb, hml, hown, hts⟩ (h_X3_leastIn g ad 17 (fFit (mF σ))) (va_cwS 1 hts gX3_manyOrLeast_X3_leastIn rfl rfl rfl (by decide +kernel) ⟨Nat.le_of_ble_eq_true rfl, Nat.le_of_ble_eq_true rfl⟩) ⟨RO_blind, fun U hU hW => ⟨rfl, by rw [hU]; exact hPc, va_K.moved hW.alike hK, hE.call hW hU hS (fun _ h => h.elim)⟩⟩ rfl rfl hl.1 rfl (lv_room (Nat.le_of_ble_eq_true rfl)) dX3_manyOrLeast_34 ⟨Nat.le_of_ble_eq_true rfl, Nat.le_of_ble_eq_true rfl⟩) hS hP (fun r H locs hw hP hS => ?_)
      subst r
      exact W.iret (v := (leastOf (fFit (mF σ)))) hx hb hr (fun t ht hW => ⟨⟨(leastOf (fFit (mF σ))), σ, rfl, hv, P_at ht hP⟩, hS.F ht⟩) hS.2.2 dX3_manyOrLeast_37
    · have hv := hv.2 c17
      refine lv_aload_n hx hb dX3_manyOrLeast_20 rfl (lv_at hl 0 rfl) ?_
      refine va_get (D := gD g) (ci := 3) (v := .ref (ad 17)) (C := RX3) (T := TX3) (N := 33) hx hb hts hi3 hown hK hP 0 rfl rfl 27 (by decide) k0 (fun _ h9 => h9) rfl dX3_manyOrLeast_21 ?_
      have hPc : va_P (gD g) vwCl (wA g ad 17 (fFit (mF σ))) H := hP.sub [17] rfl
      refine ro_int (va_runS (As := [.ref (ad 17)]) (rest := []) ⟨hx, hb, hml, hown, hts⟩ (h_X3_manyIn g ad 17 (fFit (mF σ))) (va_cwS 1 hts gX3_manyOrLeast_X3_manyIn rfl rfl rfl (by decide +kernel) ⟨Nat.le_of_ble_eq_true rfl, Nat.le_of_ble_eq_true rfl⟩) ⟨RO_blind, fun U hU hW => ⟨rfl, by rw [hU]; exact hPc, va_K.moved hW.alike hK, hE.call hW hU hS (fun _ h => h.elim)⟩⟩ rfl rfl hl.1 rfl (lv_room (Nat.le_of_ble_eq_true rfl)) dX3_manyOrLeast_24 ⟨Nat.le_of_ble_eq_true rfl, Nat.le_of_ble_eq_true rfl⟩) hS hP (fun r H locs hw hP hS => ?_)
      subst r
      refine lv_goto (tgt := 37) hx hb dX3_manyOrLeast_27 (by decide) ?_
      exact W.iret (v := (sumN (fFit (mF σ)) 64)) hx hb hr (fun t ht hW => ⟨⟨(sumN (fFit (mF σ)) 64), σ, rfl, hv, P_at ht hP⟩, hS.F ht⟩) hS.2.2 dX3_manyOrLeast_37
  · have hv := hv.2 c6
    refine lv_aload_n hx hb dX3_manyOrLeast_9 rfl (lv_at hl 0 rfl) ?_
    refine lv_bipush (v := (-2)) hx hb dX3_manyOrLeast_10 (by decide) ?_
    have h8 := hv.1
    have hv := hv.2
    have hPc := hP
    have hDc := hD
    refine rw_int (va_runV (As := [.int (-2)]) (rest := []) ⟨hx, hb, hml, hown, hts⟩ (h_X3_no g ad σ (-2) h8) (cwV 1 hts gX3_manyOrLeast_X3_no rfl rfl rfl (by decide +kernel) ⟨Nat.le_of_ble_eq_true rfl, Nat.le_of_ble_eq_true rfl⟩) ⟨RW_blind, va_recv hK hP (ci := 3) (q0 := 0) rfl rfl, fun U hU hW => ⟨rfl, by rw [hU]; exact hPc, va_K.moved hW.alike hK, hE.call hW hU hS (fun _ h => h), hDc⟩⟩ rfl rfl hl.1 rfl (lv_room (Nat.le_of_ble_eq_true rfl)) dX3_manyOrLeast_12 ⟨Nat.le_of_ble_eq_true rfl, Nat.le_of_ble_eq_true rfl⟩) hS (fun _ h => h) (fun r u H1 locs hw hP1 hk hS => ?_)
    obtain ⟨hw1, hw⟩ := hw; subst r; subst u
    have hP := hP1
    generalize H1 = H at hP hS ⊢
    have hP : va_P (gD g) vwCl (wM g ad ((mS σ), (mT σ), (mK σ), (mF σ), (mRow σ), (mRowMany σ), (mLots σ), (refuX (mRefused σ) ((-2) : Int32)))) H := hP
    have hD : va_D (AD ad 0 21) (wM g ad ((mS σ), (mT σ), (mK σ), (mF σ), (mRow σ), (mRowMany σ), (mLots σ), (refuX (mRefused σ) ((-2) : Int32)))) := hD.addr (by rfl)
    exact W.iret (v := (((-2) : Int32))) hx hb hr (fun t ht hW => ⟨⟨(((-2) : Int32)), ((mS σ), (mT σ), (mK σ), (mF σ), (mRow σ), (mRowMany σ), (mLots σ), (refuX (mRefused σ) ((-2) : Int32))), rfl, hv, P_at ht hP⟩, hS.F ht⟩) hS.2.2 dX3_manyOrLeast_15

set_option maxHeartbeats 4000000 in
set_option maxRecDepth 100000 in
theorem m_X3_fits (l : Launch) (h_X3_findFit : C_X3_findFit l) (h_X3_manyOrLeast : C_X3_manyOrLeast l) (g : CX) (ad : Nat → Nat) (σ : KM) (p0 : Int32) (Post : Int32 → KM → Prop) (hv : vc_X3_fits σ p0 Post) : Met l yX3_fits wsX3_fits { frames := 7, cells := 0, slots := 0, locals := 160 } (va_Pc [.ref (ad 0), .int p0] (RW g (AD ad 0 21) (wM g ad σ))) (va_Qi (fun (r : Int32) (u : KM) => Post r u) (fun u t => va_P (gD g) vwCl (wM g ad u) t.heap) (AD ad 0 21)) 0 0 (AD ad 0 21) := by
  unfold vc_X3_fits at hv
  refine Met.ofW (cc := cX3_fits) (maxL := 2) (ret := (some .int)) (by decide) rfl ?_
  intro p e s m args below meth c s₁ B hml hv0
  obtain ⟨rfl, hP, hK, hE, hD⟩ := hv0
  have hx := B.exec
  have hb := B.bytes
  have hr := B.returns
  have hts := atoms_spec (ws := wsX3_fits) B.pre
  have hown : s.vm.findClass RX3 = some m.cls := findClass_of_methodNamed B.named
  have hlocks := B.notSynchronized
  have hS : va_S (AD ad 0 21) s.heap s.heap [] := va_S.rf
  have hP : va_P (gD g) vwCl (wM g ad σ) s.heap := hP
  have hl := lv_entry ([.ref (ad 0), .int p0]) (n := 2) (Nat.le_of_ble_eq_true rfl)
  rw [lg_entry_eq]
  generalize (lg_sl ([.ref (ad 0), .int p0]) ++ List.replicate (2 - (lg_sl ([.ref (ad 0), .int p0])).length) Slot.unset).toArray = ls at hl ⊢
  have hl : lv_has ls 2 [(0, .ref (ad 0)), (1, .int p0)] := hl
  obtain ⟨H, hH⟩ : ∃ z, z = s.heap := ⟨_, rfl⟩
  obtain ⟨locs, hL⟩ : ∃ z : List Loc, z = [] := ⟨_, rfl⟩
  rw [← hL] at hS ⊢
  have hS : va_S (AD ad 0 21) s.heap H locs := by rw [hH]; exact hS
  rw [← hH] at hP ⊢
  clear hH hL
  refine lv_aload_n hx hb dX3_fits_0 rfl (lv_at hl 0 rfl) ?_
  refine lv_iconst (v := 0) hx hb dX3_fits_1 (by decide) ?_
  have h8 := hv.1
  have hv := hv.2
  have hPc := hP
  have hDc := hD
  refine rw_void (va_runV (As := [.int 0]) (rest := []) ⟨hx, hb, hml, hown, hts⟩ (h_X3_findFit g ad σ 0 h8) (cwV 1 hts gX3_fits_X3_findFit rfl rfl rfl (by decide +kernel) ⟨Nat.le_of_ble_eq_true rfl, Nat.le_of_ble_eq_true rfl⟩) ⟨RW_blind, va_recv hK hP (ci := 3) (q0 := 0) rfl rfl, fun U hU hW => ⟨rfl, by rw [hU]; exact hPc, va_K.moved hW.alike hK, hE.call hW hU hS (fun _ h => h), hDc⟩⟩ rfl rfl hl.1 rfl (lv_room (Nat.le_of_ble_eq_true rfl)) dX3_fits_2 ⟨Nat.le_of_ble_eq_true rfl, Nat.le_of_ble_eq_true rfl⟩) hS (fun _ h => h) (fun u H1 locs hw hP1 hk hS => ?_)
  subst u
  have hP := hP1
  generalize H1 = H at hP hS ⊢
  have hP : va_P (gD g) vwCl (wM g ad ((mS σ), (mT σ), (mK σ), ((fitM (mS σ) (0 : Int32) (fFit (mF σ))), (fLeft (mF σ)), (fLeftBy (mF σ))), (mRow σ), (mRowMany σ), (mLots σ), (mRefused σ))) H := hP
  have hD : va_D (AD ad 0 21) (wM g ad ((mS σ), (mT σ), (mK σ), ((fitM (mS σ) (0 : Int32) (fFit (mF σ))), (fLeft (mF σ)), (fLeftBy (mF σ))), (mRow σ), (mRowMany σ), (mLots σ), (mRefused σ))) := hD.addr (by rfl)
  refine lv_aload_n hx hb dX3_fits_5 rfl (lv_at hl 0 rfl) ?_
  refine lv_iload_n hx hb dX3_fits_6 rfl (lv_at hl 1 rfl) ?_
  have hPc := hP
  have hDc := hD
  refine rw_int (va_runV (As := [.int p0]) (rest := []) ⟨hx, hb, hml, hown, hts⟩ (h_X3_manyOrLeast g ad ((mS σ), (mT σ), (mK σ), ((fitM (mS σ) (0 : Int32) (fFit (mF σ))), (fLeft (mF σ)), (fLeftBy (mF σ))), (mRow σ), (mRowMany σ), (mLots σ), (mRefused σ)) p0) (cwV 1 hts gX3_fits_X3_manyOrLeast rfl rfl rfl (by decide +kernel) ⟨Nat.le_of_ble_eq_true rfl, Nat.le_of_ble_eq_true rfl⟩) ⟨RW_blind, va_recv hK hP (ci := 3) (q0 := 0) rfl rfl, fun U hU hW => ⟨rfl, by rw [hU]; exact hPc, va_K.moved hW.alike hK, hE.call hW hU hS (fun _ h => h), hDc⟩⟩ rfl rfl hl.1 rfl (lv_room (Nat.le_of_ble_eq_true rfl)) dX3_fits_7 ⟨Nat.le_of_ble_eq_true rfl, Nat.le_of_ble_eq_true rfl⟩) hS (fun _ h => h) (fun r u H1 locs hw hP1 hk hS => ?_)
  obtain ⟨hw1, hw⟩ := hw; subst r; subst u
  have hP := hP1
  generalize H1 = H at hP hS ⊢
  have hP : va_P (gD g) vwCl (wM g ad ((mS σ), (mT σ), (mK σ), ((fitM (mS σ) (0 : Int32) (fFit (mF σ))), (fLeft (mF σ)), (fLeftBy (mF σ))), (mRow σ), (mRowMany σ), (mLots σ), (rfX (mRefused σ) (why01 p0)))) H := hP
  have hD : va_D (AD ad 0 21) (wM g ad ((mS σ), (mT σ), (mK σ), ((fitM (mS σ) (0 : Int32) (fFit (mF σ))), (fLeft (mF σ)), (fLeftBy (mF σ))), (mRow σ), (mRowMany σ), (mLots σ), (rfX (mRefused σ) (why01 p0)))) := hD.addr (by rfl)
  exact W.iret (v := (rsX (why01 p0) (if p0 = 0 then sumN (fitM (mS σ) (0 : Int32) (fFit (mF σ))) 64 else leastOf (fitM (mS σ) (0 : Int32) (fFit (mF σ)))))) hx hb hr (fun t ht hW => ⟨⟨(rsX (why01 p0) (if p0 = 0 then sumN (fitM (mS σ) (0 : Int32) (fFit (mF σ))) 64 else leastOf (fitM (mS σ) (0 : Int32) (fFit (mF σ))))), ((mS σ), (mT σ), (mK σ), ((fitM (mS σ) (0 : Int32) (fFit (mF σ))), (fLeft (mF σ)), (fLeftBy (mF σ))), (mRow σ), (mRowMany σ), (mLots σ), (rfX (mRefused σ) (why01 p0))), rfl, hv, P_at ht hP⟩, hS.F ht⟩) hS.2.2 dX3_fits_10

set_option maxHeartbeats 4000000 in
set_option maxRecDepth 100000 in
theorem m_X3_jury (l : Launch) (h_X3_findFit : C_X3_findFit l) (h_X3_manyOrLeast : C_X3_manyOrLeast l) (g : CX) (ad : Nat → Nat) (σ : KM) (p0 : Int32) (Post : Int32 → KM → Prop) (hv : vc_X3_jury σ p0 Post) : Met l yX3_jury wsX3_jury { frames := 7, cells := 0, slots := 0, locals := 160 } (va_Pc [.ref (ad 0), .int p0] (RW g (AD ad 0 21) (wM g ad σ))) (va_Qi (fun (r : Int32) (u : KM) => Post r u) (fun u t => va_P (gD g) vwCl (wM g ad u) t.heap) (AD ad 0 21)) 0 0 (AD ad 0 21) := by
  unfold vc_X3_jury at hv
  refine Met.ofW (cc := cX3_jury) (maxL := 2) (ret := (some .int)) (by decide) rfl ?_
  intro p e s m args below meth c s₁ B hml hv0
  obtain ⟨rfl, hP, hK, hE, hD⟩ := hv0
  have hx := B.exec
  have hb := B.bytes
  have hr := B.returns
  have hts := atoms_spec (ws := wsX3_jury) B.pre
  have hown : s.vm.findClass RX3 = some m.cls := findClass_of_methodNamed B.named
  have hlocks := B.notSynchronized
  have hS : va_S (AD ad 0 21) s.heap s.heap [] := va_S.rf
  have hP : va_P (gD g) vwCl (wM g ad σ) s.heap := hP
  have hl := lv_entry ([.ref (ad 0), .int p0]) (n := 2) (Nat.le_of_ble_eq_true rfl)
  rw [lg_entry_eq]
  generalize (lg_sl ([.ref (ad 0), .int p0]) ++ List.replicate (2 - (lg_sl ([.ref (ad 0), .int p0])).length) Slot.unset).toArray = ls at hl ⊢
  have hl : lv_has ls 2 [(0, .ref (ad 0)), (1, .int p0)] := hl
  obtain ⟨H, hH⟩ : ∃ z, z = s.heap := ⟨_, rfl⟩
  obtain ⟨locs, hL⟩ : ∃ z : List Loc, z = [] := ⟨_, rfl⟩
  rw [← hL] at hS ⊢
  have hS : va_S (AD ad 0 21) s.heap H locs := by rw [hH]; exact hS
  rw [← hH] at hP ⊢
  clear hH hL
  refine lv_aload_n hx hb dX3_jury_0 rfl (lv_at hl 0 rfl) ?_
  refine lv_iconst (v := 1) hx hb dX3_jury_1 (by decide) ?_
  have h8 := hv.1
  have hv := hv.2
  have hPc := hP
  have hDc := hD
  refine rw_void (va_runV (As := [.int 1]) (rest := []) ⟨hx, hb, hml, hown, hts⟩ (h_X3_findFit g ad σ 1 h8) (cwV 1 hts gX3_jury_X3_findFit rfl rfl rfl (by decide +kernel) ⟨Nat.le_of_ble_eq_true rfl, Nat.le_of_ble_eq_true rfl⟩) ⟨RW_blind, va_recv hK hP (ci := 3) (q0 := 0) rfl rfl, fun U hU hW => ⟨rfl, by rw [hU]; exact hPc, va_K.moved hW.alike hK, hE.call hW hU hS (fun _ h => h), hDc⟩⟩ rfl rfl hl.1 rfl (lv_room (Nat.le_of_ble_eq_true rfl)) dX3_jury_2 ⟨Nat.le_of_ble_eq_true rfl, Nat.le_of_ble_eq_true rfl⟩) hS (fun _ h => h) (fun u H1 locs hw hP1 hk hS => ?_)
  subst u
  have hP := hP1
  generalize H1 = H at hP hS ⊢
  have hP : va_P (gD g) vwCl (wM g ad ((mS σ), (mT σ), (mK σ), ((fitM (mS σ) (1 : Int32) (fFit (mF σ))), (fLeft (mF σ)), (fLeftBy (mF σ))), (mRow σ), (mRowMany σ), (mLots σ), (mRefused σ))) H := hP
  have hD : va_D (AD ad 0 21) (wM g ad ((mS σ), (mT σ), (mK σ), ((fitM (mS σ) (1 : Int32) (fFit (mF σ))), (fLeft (mF σ)), (fLeftBy (mF σ))), (mRow σ), (mRowMany σ), (mLots σ), (mRefused σ))) := hD.addr (by rfl)
  refine lv_aload_n hx hb dX3_jury_5 rfl (lv_at hl 0 rfl) ?_
  refine lv_iload_n hx hb dX3_jury_6 rfl (lv_at hl 1 rfl) ?_
  have hPc := hP
  have hDc := hD
  refine rw_int (va_runV (As := [.int p0]) (rest := []) ⟨hx, hb, hml, hown, hts⟩ (h_X3_manyOrLeast g ad ((mS σ), (mT σ), (mK σ), ((fitM (mS σ) (1 : Int32) (fFit (mF σ))), (fLeft (mF σ)), (fLeftBy (mF σ))), (mRow σ), (mRowMany σ), (mLots σ), (mRefused σ)) p0) (cwV 1 hts gX3_jury_X3_manyOrLeast rfl rfl rfl (by decide +kernel) ⟨Nat.le_of_ble_eq_true rfl, Nat.le_of_ble_eq_true rfl⟩) ⟨RW_blind, va_recv hK hP (ci := 3) (q0 := 0) rfl rfl, fun U hU hW => ⟨rfl, by rw [hU]; exact hPc, va_K.moved hW.alike hK, hE.call hW hU hS (fun _ h => h), hDc⟩⟩ rfl rfl hl.1 rfl (lv_room (Nat.le_of_ble_eq_true rfl)) dX3_jury_7 ⟨Nat.le_of_ble_eq_true rfl, Nat.le_of_ble_eq_true rfl⟩) hS (fun _ h => h) (fun r u H1 locs hw hP1 hk hS => ?_)
  obtain ⟨hw1, hw⟩ := hw; subst r; subst u
  have hP := hP1
  generalize H1 = H at hP hS ⊢
  have hP : va_P (gD g) vwCl (wM g ad ((mS σ), (mT σ), (mK σ), ((fitM (mS σ) (1 : Int32) (fFit (mF σ))), (fLeft (mF σ)), (fLeftBy (mF σ))), (mRow σ), (mRowMany σ), (mLots σ), (rfX (mRefused σ) (why01 p0)))) H := hP
  have hD : va_D (AD ad 0 21) (wM g ad ((mS σ), (mT σ), (mK σ), ((fitM (mS σ) (1 : Int32) (fFit (mF σ))), (fLeft (mF σ)), (fLeftBy (mF σ))), (mRow σ), (mRowMany σ), (mLots σ), (rfX (mRefused σ) (why01 p0)))) := hD.addr (by rfl)
  exact W.iret (v := (rsX (why01 p0) (if p0 = 0 then sumN (fitM (mS σ) (1 : Int32) (fFit (mF σ))) 64 else leastOf (fitM (mS σ) (1 : Int32) (fFit (mF σ)))))) hx hb hr (fun t ht hW => ⟨⟨(rsX (why01 p0) (if p0 = 0 then sumN (fitM (mS σ) (1 : Int32) (fFit (mF σ))) 64 else leastOf (fitM (mS σ) (1 : Int32) (fFit (mF σ))))), ((mS σ), (mT σ), (mK σ), ((fitM (mS σ) (1 : Int32) (fFit (mF σ))), (fLeft (mF σ)), (fLeftBy (mF σ))), (mRow σ), (mRowMany σ), (mLots σ), (rfX (mRefused σ) (why01 p0))), rfl, hv, P_at ht hP⟩, hS.F ht⟩) hS.2.2 dX3_jury_10

set_option maxHeartbeats 4000000 in
set_option maxRecDepth 100000 in
theorem m_X3_sure (l : Launch) (h_X3_findFit : C_X3_findFit l) (h_X3_isIn : C_X3_isIn l) (h_X3_no : C_X3_no l) (h_X3_sureIn : C_X3_sureIn l) (g : CX) (ad : Nat → Nat) (σ : KM) (p0 : Int32) (Post : Int32 → KM → Prop) (hv : vc_X3_sure σ p0 Post) : Met l yX3_sure wsX3_sure { frames := 7, cells := 0, slots := 0, locals := 160 } (va_Pc [.ref (ad 0), .int p0] (RW g (AD ad 0 21) (wM g ad σ))) (va_Qi (fun (r : Int32) (u : KM) => Post r u) (fun u t => va_P (gD g) vwCl (wM g ad u) t.heap) (AD ad 0 21)) 0 0 (AD ad 0 21) := by
  unfold vc_X3_sure at hv
  refine Met.ofW (cc := cX3_sure) (maxL := 2) (ret := (some .int)) (by decide) rfl ?_
  intro p e s m args below meth c s₁ B hml hv0
  obtain ⟨rfl, hP, hK, hE, hD⟩ := hv0
  have hx := B.exec
  have hb := B.bytes
  have hr := B.returns
  have hts := atoms_spec (ws := wsX3_sure) B.pre
  have hown : s.vm.findClass RX3 = some m.cls := findClass_of_methodNamed B.named
  have hlocks := B.notSynchronized
  have hi3 : ∀ w ∈ wsX30, w ∈ wsX3_sure := by decide +kernel
  have k0 := hts (.fieldLink RX3 58 "JuryHearsAnswersModel" "fit" "[I") (by decide +kernel)
  have hS : va_S (AD ad 0 21) s.heap s.heap [] := va_S.rf
  have hP : va_P (gD g) vwCl (wM g ad σ) s.heap := hP
  have hl := lv_entry ([.ref (ad 0), .int p0]) (n := 2) (Nat.le_of_ble_eq_true rfl)
  rw [lg_entry_eq]
  generalize (lg_sl ([.ref (ad 0), .int p0]) ++ List.replicate (2 - (lg_sl ([.ref (ad 0), .int p0])).length) Slot.unset).toArray = ls at hl ⊢
  have hl : lv_has ls 2 [(0, .ref (ad 0)), (1, .int p0)] := hl
  obtain ⟨H, hH⟩ : ∃ z, z = s.heap := ⟨_, rfl⟩
  obtain ⟨locs, hL⟩ : ∃ z : List Loc, z = [] := ⟨_, rfl⟩
  rw [← hL] at hS ⊢
  have hS : va_S (AD ad 0 21) s.heap H locs := by rw [hH]; exact hS
  rw [← hH] at hP ⊢
  clear hH hL
  refine lv_iload_n hx hb dX3_sure_0 rfl (lv_at hl 1 rfl) ?_
  refine lv_iconst (v := 0) hx hb dX3_sure_1 (by decide) ?_
  refine lv_iconst (v := 1) hx hb dX3_sure_2 (by decide) ?_
  have hPc : va_P (gD g) vwCl [] H := fun k q h => by simp at h
  refine ro_int (va_runS (As := [.int p0, .int 0, .int 1]) (rest := []) ⟨hx, hb, hml, hown, hts⟩ (h_X3_isIn g p0 0 1) (va_cwS 3 hts gX3_sure_X3_isIn rfl rfl rfl (by decide +kernel) ⟨Nat.le_of_ble_eq_true rfl, Nat.le_of_ble_eq_true rfl⟩) ⟨RO_blind, fun U hU hW => ⟨rfl, by rw [hU]; exact hPc, va_K.moved hW.alike hK, hE.call hW hU hS (fun _ h => h.elim)⟩⟩ rfl rfl hl.1 rfl (lv_room (Nat.le_of_ble_eq_true rfl)) dX3_sure_3 ⟨Nat.le_of_ble_eq_true rfl, Nat.le_of_ble_eq_true rfl⟩) hS hP (fun r H locs hw hP hS => ?_)
  subst r
  refine lv_if_ne (tgt := 16) hx hb dX3_sure_6 (by decide) (fun c6 => ?_) (fun c6 => ?_)
  · have hv := hv.1 c6
    refine lv_aload_n hx hb dX3_sure_16 rfl (lv_at hl 0 rfl) ?_
    refine lv_iload_n hx hb dX3_sure_17 rfl (lv_at hl 1 rfl) ?_
    refine lv_iconst (v := 1) hx hb dX3_sure_18 (by decide) ?_
    refine lv_icmp_ne (tgt := 26) hx hb dX3_sure_19 (by decide) (fun c19 => ?_) (fun c19 => ?_)
    · have hv := hv.1 c19
      refine lv_iconst (v := 0) hx hb dX3_sure_26 (by decide) ?_
      have h8 := hv.1
      have hv := hv.2
      have hPc := hP
      have hDc := hD
      refine rw_void (va_runV (As := [.int 0]) (rest := []) ⟨hx, hb, hml, hown, hts⟩ (h_X3_findFit g ad σ 0 h8) (cwV 1 hts gX3_sure_X3_findFit rfl rfl rfl (by decide +kernel) ⟨Nat.le_of_ble_eq_true rfl, Nat.le_of_ble_eq_true rfl⟩) ⟨RW_blind, va_recv hK hP (ci := 3) (q0 := 0) rfl rfl, fun U hU hW => ⟨rfl, by rw [hU]; exact hPc, va_K.moved hW.alike hK, hE.call hW hU hS (fun _ h => h), hDc⟩⟩ rfl rfl hl.1 rfl (lv_room (Nat.le_of_ble_eq_true rfl)) dX3_sure_27 ⟨Nat.le_of_ble_eq_true rfl, Nat.le_of_ble_eq_true rfl⟩) hS (fun _ h => h) (fun u H1 locs hw hP1 hk hS => ?_)
      subst u
      have hP := hP1
      generalize H1 = H at hP hS ⊢
      have hP : va_P (gD g) vwCl (wM g ad ((mS σ), (mT σ), (mK σ), ((fitM (mS σ) (0 : Int32) (fFit (mF σ))), (fLeft (mF σ)), (fLeftBy (mF σ))), (mRow σ), (mRowMany σ), (mLots σ), (mRefused σ))) H := hP
      have hD : va_D (AD ad 0 21) (wM g ad ((mS σ), (mT σ), (mK σ), ((fitM (mS σ) (0 : Int32) (fFit (mF σ))), (fLeft (mF σ)), (fLeftBy (mF σ))), (mRow σ), (mRowMany σ), (mLots σ), (mRefused σ))) := hD.addr (by rfl)
      refine lv_aload_n hx hb dX3_sure_30 rfl (lv_at hl 0 rfl) ?_
      refine va_get (D := gD g) (ci := 3) (v := .ref (ad 17)) (C := RX3) (T := TX3) (N := 33) hx hb hts hi3 hown hK hP 0 rfl rfl 27 (by decide) k0 (fun _ h9 => h9) rfl dX3_sure_31 ?_
      have hPc : va_P (gD g) vwCl (wA g ad 17 (fitM (mS σ) (0 : Int32) (fFit (mF σ)))) H := hP.sub [17] rfl
      refine ro_int (va_runS (As := [.ref (ad 17)]) (rest := []) ⟨hx, hb, hml, hown, hts⟩ (h_X3_sureIn g ad 17 (fitM (mS σ) (0 : Int32) (fFit (mF σ)))) (va_cwS 1 hts gX3_sure_X3_sureIn rfl rfl rfl (by decide +kernel) ⟨Nat.le_of_ble_eq_true rfl, Nat.le_of_ble_eq_true rfl⟩) ⟨RO_blind, fun U hU hW => ⟨rfl, by rw [hU]; exact hPc, va_K.moved hW.alike hK, hE.call hW hU hS (fun _ h => h.elim)⟩⟩ rfl rfl hl.1 rfl (lv_room (Nat.le_of_ble_eq_true rfl)) dX3_sure_34 ⟨Nat.le_of_ble_eq_true rfl, Nat.le_of_ble_eq_true rfl⟩) hS hP (fun r H locs hw hP hS => ?_)
      subst r
      exact W.iret (v := (sureOf (fitM (mS σ) (0 : Int32) (fFit (mF σ))))) hx hb hr (fun t ht hW => ⟨⟨(sureOf (fitM (mS σ) (0 : Int32) (fFit (mF σ)))), ((mS σ), (mT σ), (mK σ), ((fitM (mS σ) (0 : Int32) (fFit (mF σ))), (fLeft (mF σ)), (fLeftBy (mF σ))), (mRow σ), (mRowMany σ), (mLots σ), (mRefused σ)), rfl, hv, P_at ht hP⟩, hS.F ht⟩) hS.2.2 dX3_sure_37
    · have hv := hv.2 c19
      refine lv_iconst (v := 1) hx hb dX3_sure_22 (by decide) ?_
      refine lv_goto (tgt := 27) hx hb dX3_sure_23 (by decide) ?_
      have h8 := hv.1
      have hv := hv.2
      have hPc := hP
      have hDc := hD
      refine rw_void (va_runV (As := [.int 1]) (rest := []) ⟨hx, hb, hml, hown, hts⟩ (h_X3_findFit g ad σ 1 h8) (cwV 1 hts gX3_sure_X3_findFit rfl rfl rfl (by decide +kernel) ⟨Nat.le_of_ble_eq_true rfl, Nat.le_of_ble_eq_true rfl⟩) ⟨RW_blind, va_recv hK hP (ci := 3) (q0 := 0) rfl rfl, fun U hU hW => ⟨rfl, by rw [hU]; exact hPc, va_K.moved hW.alike hK, hE.call hW hU hS (fun _ h => h), hDc⟩⟩ rfl rfl hl.1 rfl (lv_room (Nat.le_of_ble_eq_true rfl)) dX3_sure_27 ⟨Nat.le_of_ble_eq_true rfl, Nat.le_of_ble_eq_true rfl⟩) hS (fun _ h => h) (fun u H1 locs hw hP1 hk hS => ?_)
      subst u
      have hP := hP1
      generalize H1 = H at hP hS ⊢
      have hP : va_P (gD g) vwCl (wM g ad ((mS σ), (mT σ), (mK σ), ((fitM (mS σ) (1 : Int32) (fFit (mF σ))), (fLeft (mF σ)), (fLeftBy (mF σ))), (mRow σ), (mRowMany σ), (mLots σ), (mRefused σ))) H := hP
      have hD : va_D (AD ad 0 21) (wM g ad ((mS σ), (mT σ), (mK σ), ((fitM (mS σ) (1 : Int32) (fFit (mF σ))), (fLeft (mF σ)), (fLeftBy (mF σ))), (mRow σ), (mRowMany σ), (mLots σ), (mRefused σ))) := hD.addr (by rfl)
      refine lv_aload_n hx hb dX3_sure_30 rfl (lv_at hl 0 rfl) ?_
      refine va_get (D := gD g) (ci := 3) (v := .ref (ad 17)) (C := RX3) (T := TX3) (N := 33) hx hb hts hi3 hown hK hP 0 rfl rfl 27 (by decide) k0 (fun _ h9 => h9) rfl dX3_sure_31 ?_
      have hPc : va_P (gD g) vwCl (wA g ad 17 (fitM (mS σ) (1 : Int32) (fFit (mF σ)))) H := hP.sub [17] rfl
      refine ro_int (va_runS (As := [.ref (ad 17)]) (rest := []) ⟨hx, hb, hml, hown, hts⟩ (h_X3_sureIn g ad 17 (fitM (mS σ) (1 : Int32) (fFit (mF σ)))) (va_cwS 1 hts gX3_sure_X3_sureIn rfl rfl rfl (by decide +kernel) ⟨Nat.le_of_ble_eq_true rfl, Nat.le_of_ble_eq_true rfl⟩) ⟨RO_blind, fun U hU hW => ⟨rfl, by rw [hU]; exact hPc, va_K.moved hW.alike hK, hE.call hW hU hS (fun _ h => h.elim)⟩⟩ rfl rfl hl.1 rfl (lv_room (Nat.le_of_ble_eq_true rfl)) dX3_sure_34 ⟨Nat.le_of_ble_eq_true rfl, Nat.le_of_ble_eq_true rfl⟩) hS hP (fun r H locs hw hP hS => ?_)
      subst r
      exact W.iret (v := (sureOf (fitM (mS σ) (1 : Int32) (fFit (mF σ))))) hx hb hr (fun t ht hW => ⟨⟨(sureOf (fitM (mS σ) (1 : Int32) (fFit (mF σ)))), ((mS σ), (mT σ), (mK σ), ((fitM (mS σ) (1 : Int32) (fFit (mF σ))), (fLeft (mF σ)), (fLeftBy (mF σ))), (mRow σ), (mRowMany σ), (mLots σ), (mRefused σ)), rfl, hv, P_at ht hP⟩, hS.F ht⟩) hS.2.2 dX3_sure_37
  · have hv := hv.2 c6
    refine lv_aload_n hx hb dX3_sure_9 rfl (lv_at hl 0 rfl) ?_
    refine lv_bipush (v := (-2)) hx hb dX3_sure_10 (by decide) ?_
    have h8 := hv.1
    have hv := hv.2
    have hPc := hP
    have hDc := hD
    refine rw_int (va_runV (As := [.int (-2)]) (rest := []) ⟨hx, hb, hml, hown, hts⟩ (h_X3_no g ad σ (-2) h8) (cwV 1 hts gX3_sure_X3_no rfl rfl rfl (by decide +kernel) ⟨Nat.le_of_ble_eq_true rfl, Nat.le_of_ble_eq_true rfl⟩) ⟨RW_blind, va_recv hK hP (ci := 3) (q0 := 0) rfl rfl, fun U hU hW => ⟨rfl, by rw [hU]; exact hPc, va_K.moved hW.alike hK, hE.call hW hU hS (fun _ h => h), hDc⟩⟩ rfl rfl hl.1 rfl (lv_room (Nat.le_of_ble_eq_true rfl)) dX3_sure_12 ⟨Nat.le_of_ble_eq_true rfl, Nat.le_of_ble_eq_true rfl⟩) hS (fun _ h => h) (fun r u H1 locs hw hP1 hk hS => ?_)
    obtain ⟨hw1, hw⟩ := hw; subst r; subst u
    have hP := hP1
    generalize H1 = H at hP hS ⊢
    have hP : va_P (gD g) vwCl (wM g ad ((mS σ), (mT σ), (mK σ), (mF σ), (mRow σ), (mRowMany σ), (mLots σ), (refuX (mRefused σ) ((-2) : Int32)))) H := hP
    have hD : va_D (AD ad 0 21) (wM g ad ((mS σ), (mT σ), (mK σ), (mF σ), (mRow σ), (mRowMany σ), (mLots σ), (refuX (mRefused σ) ((-2) : Int32)))) := hD.addr (by rfl)
    exact W.iret (v := (((-2) : Int32))) hx hb hr (fun t ht hW => ⟨⟨(((-2) : Int32)), ((mS σ), (mT σ), (mK σ), (mF σ), (mRow σ), (mRowMany σ), (mLots σ), (refuX (mRefused σ) ((-2) : Int32))), rfl, hv, P_at ht hP⟩, hS.F ht⟩) hS.2.2 dX3_sure_15

set_option maxHeartbeats 4000000 in
set_option maxRecDepth 100000 in
theorem m_X3_worstOf (l : Launch) (h_X3_answerOf : C_X3_answerOf l) (g : CX) (ad : Nat → Nat) (σ : KM) (p0 : Int32) (p1 : Int32) (Post : Int32 → Prop) (hv : vc_X3_worstOf σ p0 p1 Post) : Met l yX3_worstOf wsX3_worstOf { frames := 4, cells := 0, slots := 0, locals := 93 } (va_Pc [.ref (ad 0), .int p0, .int p1] (RO g (wM g ad σ))) (va_Qi (fun r (_ : Unit) => Post r) (fun _ _ => True) A0) 0 0 A0 := by
  unfold vc_X3_worstOf at hv
  refine Met.ofW (cc := cX3_worstOf) (maxL := 7) (ret := (some .int)) (by decide) rfl ?_
  intro p e s m args below meth c s₁ B hml hv0
  obtain ⟨rfl, hP, hK, hE⟩ := hv0
  have hx := B.exec
  have hb := B.bytes
  have hr := B.returns
  have hts := atoms_spec (ws := wsX3_worstOf) B.pre
  have hown : s.vm.findClass RX3 = some m.cls := findClass_of_methodNamed B.named
  have hlocks := B.notSynchronized
  have hi3 : ∀ w ∈ wsX30, w ∈ wsX3_worstOf := by decide +kernel
  have k0 := hts (.fieldLink RX3 58 "JuryHearsAnswersModel" "fit" "[I") (by decide +kernel)
  have k1 := hts (.fieldLink RX3 127 "JuryHearsAnswersModel" "asked" "I") (by decide +kernel)
  have hS : va_S A0 s.heap s.heap [] := va_S.rf
  have hP : va_P (gD g) vwCl (wM g ad σ) s.heap := hP
  have hl := lv_entry ([.ref (ad 0), .int p0, .int p1]) (n := 7) (Nat.le_of_ble_eq_true rfl)
  rw [lg_entry_eq]
  generalize (lg_sl ([.ref (ad 0), .int p0, .int p1]) ++ List.replicate (7 - (lg_sl ([.ref (ad 0), .int p0, .int p1])).length) Slot.unset).toArray = ls at hl ⊢
  have hl : lv_has ls 7 [(0, .ref (ad 0)), (1, .int p0), (2, .int p1)] := hl
  have hv := hv (fun (x3 : Int32) (x4 : Int32) => ∀ (H : Heap) (locs : List Loc) (ls : Array Slot), va_P (gD g) vwCl (wM g ad σ) H → va_S A0 s.heap H locs → lv_has ls 7 [(0, .ref (ad 0)), (1, .int p0), (2, .int p1), (3, .int x3), (4, .int x4)] → W p l e { frames := 4, cells := 0, slots := 0, locals := 93 } s m ([.ref (ad 0), .int p0, .int p1] : List Value).toArray below meth c H locs 0 0 (MQ below (va_Qi (fun r (_ : Unit) => Post r) (fun _ _ => True) A0) ([.ref (ad 0), .int p0, .int p1] : List Value).toArray s 0 0 A0) (F0 m 5 ls []))
  have hv := hv (fun (x3 : Int32) (x4 : Int32) (x5 : Int32) (x6 : Int32) => ∀ (H : Heap) (locs : List Loc) (ls : Array Slot), va_P (gD g) vwCl (wM g ad σ) H → va_S A0 s.heap H locs → lv_has ls 7 [(0, .ref (ad 0)), (1, .int p0), (2, .int p1), (3, .int x3), (4, .int x4), (5, .int x5), (6, .int x6)] → W p l e { frames := 4, cells := 0, slots := 0, locals := 93 } s m ([.ref (ad 0), .int p0, .int p1] : List Value).toArray below meth c H locs 0 0 (MQ below (va_Qi (fun r (_ : Unit) => Post r) (fun _ _ => True) A0) ([.ref (ad 0), .int p0, .int p1] : List Value).toArray s 0 0 A0) (F0 m 17 ls []))
  have hv := hv (by
    intro x3 x4 hv H locs ls hP hS hl
    refine lv_iload hx hb dX3_worstOf_5 (lv_at hl 4 rfl) ?_
    refine lv_iconst (v := 3) hx hb dX3_worstOf_7 (by decide) ?_
    refine lv_icmp_ge (tgt := 89) hx hb dX3_worstOf_8 (by decide) (fun c8 => ?_) (fun c8 => ?_)
    · have hv := hv.1 c8
      refine lv_iload_n hx hb dX3_worstOf_89 rfl (lv_at hl 3 rfl) ?_
      exact W.iret (v := x3) hx hb hr (fun t ht hW => ⟨⟨x3, (), rfl, hv, trivial⟩, hS.F ht⟩) hS.2.2 dX3_worstOf_90
    · have hv := hv.2 c8
      refine lv_iconst (v := 0) hx hb dX3_worstOf_11 (by decide) ?_
      refine lv_istore (lv' := [(5, .int 0), (0, .ref (ad 0)), (1, .int p0), (2, .int p1), (3, .int x3), (4, .int x4)]) hx hb dX3_worstOf_12 hl (by decide) rfl (fun ls hl => ?_)
      refine lv_iconst (v := 0) hx hb dX3_worstOf_14 (by decide) ?_
      refine lv_istore (lv' := [(6, .int 0), (5, .int 0), (0, .ref (ad 0)), (1, .int p0), (2, .int p1), (3, .int x3), (4, .int x4)]) hx hb dX3_worstOf_15 hl (by decide) rfl (fun ls hl => ?_)
      exact hv H locs ls hP hS (lv_sub hl [2, 3, 4, 5, 6, 1, 0] rfl))
  have hv := hv (by
    intro x3 x4 x5 x6 hv H locs ls hP hS hl
    refine lv_iload hx hb dX3_worstOf_17 (lv_at hl 6 rfl) ?_
    refine lv_bipush (v := 64) hx hb dX3_worstOf_19 (by decide) ?_
    refine lv_icmp_ge (tgt := 70) hx hb dX3_worstOf_21 (by decide) (fun c21 => ?_) (fun c21 => ?_)
    · have hv := hv.1 c21
      refine lv_iload hx hb dX3_worstOf_70 (lv_at hl 5 rfl) ?_
      refine lv_iload_n hx hb dX3_worstOf_72 rfl (lv_at hl 3 rfl) ?_
      refine lv_icmp_le (tgt := 81) hx hb dX3_worstOf_73 (by decide) (fun c73 => ?_) (fun c73 => ?_)
      · have hv := hv.1 c73
        refine lv_iload_n hx hb dX3_worstOf_81 rfl (lv_at hl 3 rfl) ?_
        refine lv_istore_n (lv' := [(3, .int x3), (0, .ref (ad 0)), (1, .int p0), (2, .int p1), (4, .int x4), (5, .int x5), (6, .int x6)]) hx hb dX3_worstOf_82 rfl hl (by decide) rfl (fun ls hl => ?_)
        refine lv_iinc (v := (x4 + 1)) (lv' := [(4, .int (x4 + 1)), (3, .int x3), (0, .ref (ad 0)), (1, .int p0), (2, .int p1), (5, .int x5), (6, .int x6)]) hx hb dX3_worstOf_83 hl (k := 4) rfl (by first | rfl | exact congrArg _ (by decide)) (by decide) rfl (fun ls hl => ?_)
        refine lv_goto (tgt := 5) hx hb dX3_worstOf_86 (by decide) ?_
        exact hv H locs ls hP hS (lv_sub hl [2, 3, 4, 1, 0] rfl)
      · have hv := hv.2 c73
        refine lv_iload hx hb dX3_worstOf_76 (lv_at hl 5 rfl) ?_
        refine lv_goto (tgt := 82) hx hb dX3_worstOf_78 (by decide) ?_
        refine lv_istore_n (lv' := [(3, .int x5), (0, .ref (ad 0)), (1, .int p0), (2, .int p1), (4, .int x4), (5, .int x5), (6, .int x6)]) hx hb dX3_worstOf_82 rfl hl (by decide) rfl (fun ls hl => ?_)
        refine lv_iinc (v := (x4 + 1)) (lv' := [(4, .int (x4 + 1)), (3, .int x5), (0, .ref (ad 0)), (1, .int p0), (2, .int p1), (5, .int x5), (6, .int x6)]) hx hb dX3_worstOf_83 hl (k := 4) rfl (by first | rfl | exact congrArg _ (by decide)) (by decide) rfl (fun ls hl => ?_)
        refine lv_goto (tgt := 5) hx hb dX3_worstOf_86 (by decide) ?_
        exact hv H locs ls hP hS (lv_sub hl [2, 3, 4, 1, 0] rfl)
    · have hv := hv.2 c21
      refine lv_iload hx hb dX3_worstOf_24 (lv_at hl 5 rfl) ?_
      refine lv_aload_n hx hb dX3_worstOf_26 rfl (lv_at hl 0 rfl) ?_
      refine va_get (D := gD g) (ci := 3) (v := .ref (ad 17)) (C := RX3) (T := TX3) (N := 33) hx hb hts hi3 hown hK hP 0 rfl rfl 27 (by decide) k0 (fun _ h9 => h9) rfl dX3_worstOf_27 ?_
      refine lv_iload hx hb dX3_worstOf_30 (lv_at hl 6 rfl) ?_
      have h9 := hv.1
      have hv := hv.2
      refine va_iald (f := (fFit (mF σ))) (n := 64) hx hb hK hP 17 0 rfl rfl h9 dX3_worstOf_32 ?_
      refine lv_iconst (v := 1) hx hb dX3_worstOf_33 (by decide) ?_
      refine lv_icmp_ne (tgt := 60) hx hb dX3_worstOf_34 (by decide) (fun c34 => ?_) (fun c34 => ?_)
      · have hv := hv.1 c34
        refine lv_iconst (v := 0) hx hb dX3_worstOf_60 (by decide) ?_
        refine lv_iadd hx hb dX3_worstOf_61 ?_
        refine lv_istore (lv' := [(5, .int (x5 + 0)), (0, .ref (ad 0)), (1, .int p0), (2, .int p1), (3, .int x3), (4, .int x4), (6, .int x6)]) hx hb dX3_worstOf_62 hl (by decide) rfl (fun ls hl => ?_)
        refine lv_iinc (v := (x6 + 1)) (lv' := [(6, .int (x6 + 1)), (5, .int (x5 + 0)), (0, .ref (ad 0)), (1, .int p0), (2, .int p1), (3, .int x3), (4, .int x4)]) hx hb dX3_worstOf_64 hl (k := 6) rfl (by first | rfl | exact congrArg _ (by decide)) (by decide) rfl (fun ls hl => ?_)
        refine lv_goto (tgt := 17) hx hb dX3_worstOf_67 (by decide) ?_
        exact hv H locs ls hP hS (lv_sub hl [2, 3, 4, 5, 6, 1, 0] rfl)
      · have hv := hv.2 c34
        refine lv_aload_n hx hb dX3_worstOf_37 rfl (lv_at hl 0 rfl) ?_
        refine lv_iload_n hx hb dX3_worstOf_38 rfl (lv_at hl 1 rfl) ?_
        refine lv_iload_n hx hb dX3_worstOf_39 rfl (lv_at hl 2 rfl) ?_
        refine lv_iload hx hb dX3_worstOf_40 (lv_at hl 6 rfl) ?_
        refine lv_aload_n hx hb dX3_worstOf_42 rfl (lv_at hl 0 rfl) ?_
        refine va_get (D := gD g) (ci := 3) (v := .int (sAsked (mS σ))) (C := RX3) (T := TX3) (N := 33) hx hb hts hi3 hown hK hP 0 rfl rfl 15 (by decide) k1 (fun _ h9 => h9) rfl dX3_worstOf_43 ?_
        refine lv_iconst (v := 1) hx hb dX3_worstOf_46 (by decide) ?_
        refine lv_iadd hx hb dX3_worstOf_47 ?_
        have h8 := hv.1
        have hv := hv.2
        have hPc := hP
        refine ro_int (va_runV (As := [.int p0, .int p1, .int x6, .int ((sAsked (mS σ)) + 1)]) (rest := [.int x5]) ⟨hx, hb, hml, hown, hts⟩ (h_X3_answerOf g ad σ p0 p1 x6 ((sAsked (mS σ)) + 1) h8) (cwV 4 hts gX3_worstOf_X3_answerOf rfl rfl rfl (by decide +kernel) ⟨Nat.le_of_ble_eq_true rfl, Nat.le_of_ble_eq_true rfl⟩) ⟨RO_blind, va_recv hK hP (ci := 3) (q0 := 0) rfl rfl, fun U hU hW => ⟨rfl, by rw [hU]; exact hPc, va_K.moved hW.alike hK, hE.call hW hU hS (fun _ h => h.elim)⟩⟩ rfl rfl hl.1 rfl (lv_room (Nat.le_of_ble_eq_true rfl)) dX3_worstOf_48 ⟨Nat.le_of_ble_eq_true rfl, Nat.le_of_ble_eq_true rfl⟩) hS hP (fun r H locs hw hP hS => ?_)
        subst r
        refine lv_iload hx hb dX3_worstOf_51 (lv_at hl 4 rfl) ?_
        refine lv_icmp_ne (tgt := 60) hx hb dX3_worstOf_53 (by decide) (fun c53 => ?_) (fun c53 => ?_)
        · have hv := hv.1 c53
          refine lv_iconst (v := 0) hx hb dX3_worstOf_60 (by decide) ?_
          refine lv_iadd hx hb dX3_worstOf_61 ?_
          refine lv_istore (lv' := [(5, .int (x5 + 0)), (0, .ref (ad 0)), (1, .int p0), (2, .int p1), (3, .int x3), (4, .int x4), (6, .int x6)]) hx hb dX3_worstOf_62 hl (by decide) rfl (fun ls hl => ?_)
          refine lv_iinc (v := (x6 + 1)) (lv' := [(6, .int (x6 + 1)), (5, .int (x5 + 0)), (0, .ref (ad 0)), (1, .int p0), (2, .int p1), (3, .int x3), (4, .int x4)]) hx hb dX3_worstOf_64 hl (k := 6) rfl (by first | rfl | exact congrArg _ (by decide)) (by decide) rfl (fun ls hl => ?_)
          refine lv_goto (tgt := 17) hx hb dX3_worstOf_67 (by decide) ?_
          exact hv H locs ls hP hS (lv_sub hl [2, 3, 4, 5, 6, 1, 0] rfl)
        · have hv := hv.2 c53
          refine lv_iconst (v := 1) hx hb dX3_worstOf_56 (by decide) ?_
          refine lv_goto (tgt := 61) hx hb dX3_worstOf_57 (by decide) ?_
          refine lv_iadd hx hb dX3_worstOf_61 ?_
          refine lv_istore (lv' := [(5, .int (x5 + 1)), (0, .ref (ad 0)), (1, .int p0), (2, .int p1), (3, .int x3), (4, .int x4), (6, .int x6)]) hx hb dX3_worstOf_62 hl (by decide) rfl (fun ls hl => ?_)
          refine lv_iinc (v := (x6 + 1)) (lv' := [(6, .int (x6 + 1)), (5, .int (x5 + 1)), (0, .ref (ad 0)), (1, .int p0), (2, .int p1), (3, .int x3), (4, .int x4)]) hx hb dX3_worstOf_64 hl (k := 6) rfl (by first | rfl | exact congrArg _ (by decide)) (by decide) rfl (fun ls hl => ?_)
          refine lv_goto (tgt := 17) hx hb dX3_worstOf_67 (by decide) ?_
          exact hv H locs ls hP hS (lv_sub hl [2, 3, 4, 5, 6, 1, 0] rfl))
  obtain ⟨H, hH⟩ : ∃ z, z = s.heap := ⟨_, rfl⟩
  obtain ⟨locs, hL⟩ : ∃ z : List Loc, z = [] := ⟨_, rfl⟩
  rw [← hL] at hS ⊢
  have hS : va_S A0 s.heap H locs := by rw [hH]; exact hS
  rw [← hH] at hP ⊢
  clear hH hL
  refine lv_iconst (v := 0) hx hb dX3_worstOf_0 (by decide) ?_
  refine lv_istore_n (lv' := [(3, .int 0), (0, .ref (ad 0)), (1, .int p0), (2, .int p1)]) hx hb dX3_worstOf_1 rfl hl (by decide) rfl (fun ls hl => ?_)
  refine lv_iconst (v := 0) hx hb dX3_worstOf_2 (by decide) ?_
  refine lv_istore (lv' := [(4, .int 0), (3, .int 0), (0, .ref (ad 0)), (1, .int p0), (2, .int p1)]) hx hb dX3_worstOf_3 hl (by decide) rfl (fun ls hl => ?_)
  exact hv H locs ls hP hS (lv_sub hl [2, 3, 4, 1, 0] rfl)

set_option maxHeartbeats 4000000 in
set_option maxRecDepth 100000 in
theorem m_X3_next_ (l : Launch) (h_X3_findFit : C_X3_findFit l) (h_X3_isIn : C_X3_isIn l) (h_X3_no : C_X3_no l) (h_X3_worstOf : C_X3_worstOf l) (g : CX) (ad : Nat → Nat) (σ : KM) (p0 : Int32) (Post : Int32 → KM → Prop) (hv : vc_X3_next_ σ p0 Post) : Met l yX3_next_ wsX3_next_ { frames := 7, cells := 0, slots := 0, locals := 160 } (va_Pc [.ref (ad 0), .int p0] (RW g (AD ad 0 21) (wM g ad σ))) (va_Qi (fun (r : Int32) (u : KM) => Post r u) (fun u t => va_P (gD g) vwCl (wM g ad u) t.heap) (AD ad 0 21)) 0 0 (AD ad 0 21) := by
  unfold vc_X3_next_ at hv
  refine Met.ofW (cc := cX3_next_) (maxL := 7) (ret := (some .int)) (by decide) rfl ?_
  intro p e s m args below meth c s₁ B hml hv0
  obtain ⟨rfl, hP, hK, hE, hD⟩ := hv0
  have hx := B.exec
  have hb := B.bytes
  have hr := B.returns
  have hts := atoms_spec (ws := wsX3_next_) B.pre
  have hown : s.vm.findClass RX3 = some m.cls := findClass_of_methodNamed B.named
  have hlocks := B.notSynchronized
  have hi3 : ∀ w ∈ wsX30, w ∈ wsX3_next_ := by decide +kernel
  have k0 := hts (.fieldLink RX3 76 "JuryHearsAnswersModel" "witnesses" "I") (by decide +kernel)
  have k1 := hts (.fieldLink RX3 70 "JuryHearsAnswersModel" "questions" "I") (by decide +kernel)
  have hS : va_S (AD ad 0 21) s.heap s.heap [] := va_S.rf
  have hP : va_P (gD g) vwCl (wM g ad σ) s.heap := hP
  have hl := lv_entry ([.ref (ad 0), .int p0]) (n := 7) (Nat.le_of_ble_eq_true rfl)
  rw [lg_entry_eq]
  generalize (lg_sl ([.ref (ad 0), .int p0]) ++ List.replicate (7 - (lg_sl ([.ref (ad 0), .int p0])).length) Slot.unset).toArray = ls at hl ⊢
  have hl : lv_has ls 7 [(0, .ref (ad 0)), (1, .int p0)] := hl
  have hv := hv (fun (x2 : Int32) (x3 : Int32) (x4 : Int32) (s_F_fit : FI) (s_refused : FI) => ∀ (H : Heap) (locs : List Loc) (ls : Array Slot), va_P (gD g) vwCl (wM g ad ((mS σ), (mT σ), (mK σ), (s_F_fit, (fLeft (mF σ)), (fLeftBy (mF σ))), (mRow σ), (mRowMany σ), (mLots σ), s_refused)) H → va_D (AD ad 0 21) (wM g ad ((mS σ), (mT σ), (mK σ), (s_F_fit, (fLeft (mF σ)), (fLeftBy (mF σ))), (mRow σ), (mRowMany σ), (mLots σ), s_refused)) → va_S (AD ad 0 21) s.heap H locs → lv_has ls 7 [(0, .ref (ad 0)), (1, .int p0), (2, .int x2), (3, .int x3), (4, .int x4)] → W p l e { frames := 7, cells := 0, slots := 0, locals := 160 } s m ([.ref (ad 0), .int p0] : List Value).toArray below meth c H locs 0 0 (MQ below (va_Qi (fun (r : Int32) (u : KM) => Post r u) (fun u t => va_P (gD g) vwCl (wM g ad u) t.heap) (AD ad 0 21)) ([.ref (ad 0), .int p0] : List Value).toArray s 0 0 (AD ad 0 21)) (F0 m 30 ls []))
  have hv := hv (fun (x2 : Int32) (x3 : Int32) (x4 : Int32) (x5 : Int32) (s_F_fit : FI) (s_refused : FI) => ∀ (H : Heap) (locs : List Loc) (ls : Array Slot), va_P (gD g) vwCl (wM g ad ((mS σ), (mT σ), (mK σ), (s_F_fit, (fLeft (mF σ)), (fLeftBy (mF σ))), (mRow σ), (mRowMany σ), (mLots σ), s_refused)) H → va_D (AD ad 0 21) (wM g ad ((mS σ), (mT σ), (mK σ), (s_F_fit, (fLeft (mF σ)), (fLeftBy (mF σ))), (mRow σ), (mRowMany σ), (mLots σ), s_refused)) → va_S (AD ad 0 21) s.heap H locs → lv_has ls 7 [(0, .ref (ad 0)), (1, .int p0), (2, .int x2), (3, .int x3), (4, .int x4), (5, .int x5)] → W p l e { frames := 7, cells := 0, slots := 0, locals := 160 } s m ([.ref (ad 0), .int p0] : List Value).toArray below meth c H locs 0 0 (MQ below (va_Qi (fun (r : Int32) (u : KM) => Post r u) (fun u t => va_P (gD g) vwCl (wM g ad u) t.heap) (AD ad 0 21)) ([.ref (ad 0), .int p0] : List Value).toArray s 0 0 (AD ad 0 21)) (F0 m 42 ls []))
  have hv := hv (by
    intro x2 x3 x4 s_F_fit s_refused hv H locs ls hP hD hS hl
    refine lv_iload hx hb dX3_next__30 (lv_at hl 4 rfl) ?_
    refine lv_aload_n hx hb dX3_next__32 rfl (lv_at hl 0 rfl) ?_
    refine va_get (D := gD g) (ci := 3) (v := .int (sNw (mS σ))) (C := RX3) (T := TX3) (N := 33) hx hb hts hi3 hown hK hP 0 rfl rfl 13 (by decide) k0 (fun _ h9 => h9) rfl dX3_next__33 ?_
    refine lv_icmp_ge (tgt := 98) hx hb dX3_next__36 (by decide) (fun c36 => ?_) (fun c36 => ?_)
    · have hv := hv.1 c36
      refine lv_iload_n hx hb dX3_next__98 rfl (lv_at hl 1 rfl) ?_
      refine lv_if_ne (tgt := 106) hx hb dX3_next__99 (by decide) (fun c99 => ?_) (fun c99 => ?_)
      · have hv := hv.1 c99
        refine lv_iload_n hx hb dX3_next__106 rfl (lv_at hl 3 rfl) ?_
        exact W.iret (v := x3) hx hb hr (fun t ht hW => ⟨⟨x3, ((mS σ), (mT σ), (mK σ), (s_F_fit, (fLeft (mF σ)), (fLeftBy (mF σ))), (mRow σ), (mRowMany σ), (mLots σ), s_refused), rfl, hv, P_at ht hP⟩, hS.F ht⟩) hS.2.2 dX3_next__107
      · have hv := hv.2 c99
        refine lv_iload_n hx hb dX3_next__102 rfl (lv_at hl 2 rfl) ?_
        refine lv_goto (tgt := 107) hx hb dX3_next__103 (by decide) ?_
        exact W.iret (v := x2) hx hb hr (fun t ht hW => ⟨⟨x2, ((mS σ), (mT σ), (mK σ), (s_F_fit, (fLeft (mF σ)), (fLeftBy (mF σ))), (mRow σ), (mRowMany σ), (mLots σ), s_refused), rfl, hv, P_at ht hP⟩, hS.F ht⟩) hS.2.2 dX3_next__107
    · have hv := hv.2 c36
      refine lv_iconst (v := 0) hx hb dX3_next__39 (by decide) ?_
      refine lv_istore (lv' := [(5, .int 0), (0, .ref (ad 0)), (1, .int p0), (2, .int x2), (3, .int x3), (4, .int x4)]) hx hb dX3_next__40 hl (by decide) rfl (fun ls hl => ?_)
      exact hv H locs ls hP hD hS (lv_sub hl [1, 2, 3, 4, 5, 0] rfl))
  have hv := hv (by
    intro x2 x3 x4 x5 s_F_fit s_refused hv H locs ls hP hD hS hl
    refine lv_iload hx hb dX3_next__42 (lv_at hl 5 rfl) ?_
    refine lv_aload_n hx hb dX3_next__44 rfl (lv_at hl 0 rfl) ?_
    refine va_get (D := gD g) (ci := 3) (v := .int (sNq (mS σ))) (C := RX3) (T := TX3) (N := 33) hx hb hts hi3 hown hK hP 0 rfl rfl 12 (by decide) k1 (fun _ h9 => h9) rfl dX3_next__45 ?_
    refine lv_icmp_ge (tgt := 92) hx hb dX3_next__48 (by decide) (fun c48 => ?_) (fun c48 => ?_)
    · have hv := hv.1 c48
      refine lv_iinc (v := (x4 + 1)) (lv' := [(4, .int (x4 + 1)), (0, .ref (ad 0)), (1, .int p0), (2, .int x2), (3, .int x3), (5, .int x5)]) hx hb dX3_next__92 hl (k := 4) rfl (by first | rfl | exact congrArg _ (by decide)) (by decide) rfl (fun ls hl => ?_)
      refine lv_goto (tgt := 30) hx hb dX3_next__95 (by decide) ?_
      exact hv H locs ls hP hD hS (lv_sub hl [1, 2, 3, 4, 0] rfl)
    · have hv := hv.2 c48
      refine lv_aload_n hx hb dX3_next__51 rfl (lv_at hl 0 rfl) ?_
      refine lv_iload hx hb dX3_next__52 (lv_at hl 4 rfl) ?_
      refine lv_iload hx hb dX3_next__54 (lv_at hl 5 rfl) ?_
      have h8 := hv.1
      have hv := hv.2
      have hPc := hP
      refine ro_int (va_runV (As := [.int x4, .int x5]) (rest := []) ⟨hx, hb, hml, hown, hts⟩ (h_X3_worstOf g ad ((mS σ), (mT σ), (mK σ), (s_F_fit, (fLeft (mF σ)), (fLeftBy (mF σ))), (mRow σ), (mRowMany σ), (mLots σ), s_refused) x4 x5 h8) (cwV 2 hts gX3_next__X3_worstOf rfl rfl rfl (by decide +kernel) ⟨Nat.le_of_ble_eq_true rfl, Nat.le_of_ble_eq_true rfl⟩) ⟨RO_blind, va_recv hK hP (ci := 3) (q0 := 0) rfl rfl, fun U hU hW => ⟨rfl, by rw [hU]; exact hPc, va_K.moved hW.alike hK, hE.call hW hU hS (fun _ h => h.elim)⟩⟩ rfl rfl hl.1 rfl (lv_room (Nat.le_of_ble_eq_true rfl)) dX3_next__56 ⟨Nat.le_of_ble_eq_true rfl, Nat.le_of_ble_eq_true rfl⟩) hS hP (fun r H locs hw hP hS => ?_)
      subst r
      refine lv_istore (lv' := [(6, .int (worstI (mS σ) s_F_fit x4 x5)), (0, .ref (ad 0)), (1, .int p0), (2, .int x2), (3, .int x3), (4, .int x4), (5, .int x5)]) hx hb dX3_next__59 hl (by decide) rfl (fun ls hl => ?_)
      refine lv_iload_n hx hb dX3_next__61 rfl (lv_at hl 3 rfl) ?_
      refine lv_if_lt (tgt := 74) hx hb dX3_next__62 (by decide) (fun c62 => ?_) (fun c62 => ?_)
      · have hv := hv.1 c62
        refine lv_bipush (v := 10) hx hb dX3_next__74 (by decide) ?_
        refine lv_iload hx hb dX3_next__76 (lv_at hl 5 rfl) ?_
        refine lv_imul hx hb dX3_next__78 ?_
        refine lv_iload hx hb dX3_next__79 (lv_at hl 6 rfl) ?_
        refine lv_iadd hx hb dX3_next__81 ?_
        refine lv_istore_n (lv' := [(2, .int ((10 * x4) + x5)), (6, .int (worstI (mS σ) s_F_fit x4 x5)), (0, .ref (ad 0)), (1, .int p0), (3, .int x3), (4, .int x4), (5, .int x5)]) hx hb dX3_next__82 rfl hl (by decide) rfl (fun ls hl => ?_)
        refine lv_iload hx hb dX3_next__83 (lv_at hl 1 rfl) ?_
        refine lv_istore_n (lv' := [(3, .int (worstI (mS σ) s_F_fit x4 x5)), (2, .int ((10 * x4) + x5)), (6, .int (worstI (mS σ) s_F_fit x4 x5)), (0, .ref (ad 0)), (1, .int p0), (4, .int x4), (5, .int x5)]) hx hb dX3_next__85 rfl hl (by decide) rfl (fun ls hl => ?_)
        refine lv_iinc (v := (x5 + 1)) (lv' := [(5, .int (x5 + 1)), (3, .int (worstI (mS σ) s_F_fit x4 x5)), (2, .int ((10 * x4) + x5)), (6, .int (worstI (mS σ) s_F_fit x4 x5)), (0, .ref (ad 0)), (1, .int p0), (4, .int x4)]) hx hb dX3_next__86 hl (k := 6) rfl (by first | rfl | exact congrArg _ (by decide)) (by decide) rfl (fun ls hl => ?_)
        refine lv_goto (tgt := 42) hx hb dX3_next__89 (by decide) ?_
        exact hv H locs ls hP hD hS (lv_sub hl [4, 5, 2, 1, 6, 0] rfl)
      · have hv := hv.2 c62
        refine lv_iload hx hb dX3_next__65 (lv_at hl 0 rfl) ?_
        refine lv_iload_n hx hb dX3_next__67 rfl (lv_at hl 4 rfl) ?_
        refine lv_icmp_lt (tgt := 74) hx hb dX3_next__68 (by decide) (fun c68 => ?_) (fun c68 => ?_)
        · have hv := hv.1 c68
          refine lv_bipush (v := 10) hx hb dX3_next__74 (by decide) ?_
          refine lv_iload hx hb dX3_next__76 (lv_at hl 5 rfl) ?_
          refine lv_imul hx hb dX3_next__78 ?_
          refine lv_iload hx hb dX3_next__79 (lv_at hl 6 rfl) ?_
          refine lv_iadd hx hb dX3_next__81 ?_
          refine lv_istore_n (lv' := [(2, .int ((10 * x4) + x5)), (6, .int (worstI (mS σ) s_F_fit x4 x5)), (0, .ref (ad 0)), (1, .int p0), (3, .int x3), (4, .int x4), (5, .int x5)]) hx hb dX3_next__82 rfl hl (by decide) rfl (fun ls hl => ?_)
          refine lv_iload hx hb dX3_next__83 (lv_at hl 1 rfl) ?_
          refine lv_istore_n (lv' := [(3, .int (worstI (mS σ) s_F_fit x4 x5)), (2, .int ((10 * x4) + x5)), (6, .int (worstI (mS σ) s_F_fit x4 x5)), (0, .ref (ad 0)), (1, .int p0), (4, .int x4), (5, .int x5)]) hx hb dX3_next__85 rfl hl (by decide) rfl (fun ls hl => ?_)
          refine lv_iinc (v := (x5 + 1)) (lv' := [(5, .int (x5 + 1)), (3, .int (worstI (mS σ) s_F_fit x4 x5)), (2, .int ((10 * x4) + x5)), (6, .int (worstI (mS σ) s_F_fit x4 x5)), (0, .ref (ad 0)), (1, .int p0), (4, .int x4)]) hx hb dX3_next__86 hl (k := 6) rfl (by first | rfl | exact congrArg _ (by decide)) (by decide) rfl (fun ls hl => ?_)
          refine lv_goto (tgt := 42) hx hb dX3_next__89 (by decide) ?_
          exact hv H locs ls hP hD hS (lv_sub hl [4, 5, 2, 1, 6, 0] rfl)
        · have hv := hv.2 c68
          refine lv_goto (tgt := 86) hx hb dX3_next__71 (by decide) ?_
          refine lv_iinc (v := (x5 + 1)) (lv' := [(5, .int (x5 + 1)), (6, .int (worstI (mS σ) s_F_fit x4 x5)), (0, .ref (ad 0)), (1, .int p0), (2, .int x2), (3, .int x3), (4, .int x4)]) hx hb dX3_next__86 hl (k := 6) rfl (by first | rfl | exact congrArg _ (by decide)) (by decide) rfl (fun ls hl => ?_)
          refine lv_goto (tgt := 42) hx hb dX3_next__89 (by decide) ?_
          exact hv H locs ls hP hD hS (lv_sub hl [2, 3, 4, 5, 6, 0] rfl))
  obtain ⟨H, hH⟩ : ∃ z, z = s.heap := ⟨_, rfl⟩
  obtain ⟨locs, hL⟩ : ∃ z : List Loc, z = [] := ⟨_, rfl⟩
  rw [← hL] at hS ⊢
  have hS : va_S (AD ad 0 21) s.heap H locs := by rw [hH]; exact hS
  rw [← hH] at hP ⊢
  clear hH hL
  refine lv_iload_n hx hb dX3_next__0 rfl (lv_at hl 1 rfl) ?_
  refine lv_iconst (v := 0) hx hb dX3_next__1 (by decide) ?_
  refine lv_iconst (v := 1) hx hb dX3_next__2 (by decide) ?_
  have hPc : va_P (gD g) vwCl [] H := fun k q h => by simp at h
  refine ro_int (va_runS (As := [.int p0, .int 0, .int 1]) (rest := []) ⟨hx, hb, hml, hown, hts⟩ (h_X3_isIn g p0 0 1) (va_cwS 3 hts gX3_next__X3_isIn rfl rfl rfl (by decide +kernel) ⟨Nat.le_of_ble_eq_true rfl, Nat.le_of_ble_eq_true rfl⟩) ⟨RO_blind, fun U hU hW => ⟨rfl, by rw [hU]; exact hPc, va_K.moved hW.alike hK, hE.call hW hU hS (fun _ h => h.elim)⟩⟩ rfl rfl hl.1 rfl (lv_room (Nat.le_of_ble_eq_true rfl)) dX3_next__3 ⟨Nat.le_of_ble_eq_true rfl, Nat.le_of_ble_eq_true rfl⟩) hS hP (fun r H locs hw hP hS => ?_)
  subst r
  refine lv_if_ne (tgt := 16) hx hb dX3_next__6 (by decide) (fun c6 => ?_) (fun c6 => ?_)
  · have hv := hv.1 c6
    refine lv_aload_n hx hb dX3_next__16 rfl (lv_at hl 0 rfl) ?_
    refine lv_iconst (v := 0) hx hb dX3_next__17 (by decide) ?_
    have h8 := hv.1
    have hv := hv.2
    have hPc := hP
    have hDc := hD
    refine rw_void (va_runV (As := [.int 0]) (rest := []) ⟨hx, hb, hml, hown, hts⟩ (h_X3_findFit g ad σ 0 h8) (cwV 1 hts gX3_next__X3_findFit rfl rfl rfl (by decide +kernel) ⟨Nat.le_of_ble_eq_true rfl, Nat.le_of_ble_eq_true rfl⟩) ⟨RW_blind, va_recv hK hP (ci := 3) (q0 := 0) rfl rfl, fun U hU hW => ⟨rfl, by rw [hU]; exact hPc, va_K.moved hW.alike hK, hE.call hW hU hS (fun _ h => h), hDc⟩⟩ rfl rfl hl.1 rfl (lv_room (Nat.le_of_ble_eq_true rfl)) dX3_next__18 ⟨Nat.le_of_ble_eq_true rfl, Nat.le_of_ble_eq_true rfl⟩) hS (fun _ h => h) (fun u H1 locs hw hP1 hk hS => ?_)
    subst u
    have hP := hP1
    generalize H1 = H at hP hS ⊢
    have hP : va_P (gD g) vwCl (wM g ad ((mS σ), (mT σ), (mK σ), ((fitM (mS σ) (0 : Int32) (fFit (mF σ))), (fLeft (mF σ)), (fLeftBy (mF σ))), (mRow σ), (mRowMany σ), (mLots σ), (mRefused σ))) H := hP
    have hD : va_D (AD ad 0 21) (wM g ad ((mS σ), (mT σ), (mK σ), ((fitM (mS σ) (0 : Int32) (fFit (mF σ))), (fLeft (mF σ)), (fLeftBy (mF σ))), (mRow σ), (mRowMany σ), (mLots σ), (mRefused σ))) := hD.addr (by rfl)
    refine lv_bipush (v := (-9)) hx hb dX3_next__21 (by decide) ?_
    refine lv_istore_n (lv' := [(2, .int (-9)), (0, .ref (ad 0)), (1, .int p0)]) hx hb dX3_next__23 rfl hl (by decide) rfl (fun ls hl => ?_)
    refine lv_bipush (v := (-9)) hx hb dX3_next__24 (by decide) ?_
    refine lv_istore_n (lv' := [(3, .int (-9)), (2, .int (-9)), (0, .ref (ad 0)), (1, .int p0)]) hx hb dX3_next__26 rfl hl (by decide) rfl (fun ls hl => ?_)
    refine lv_iconst (v := 0) hx hb dX3_next__27 (by decide) ?_
    refine lv_istore (lv' := [(4, .int 0), (3, .int (-9)), (2, .int (-9)), (0, .ref (ad 0)), (1, .int p0)]) hx hb dX3_next__28 hl (by decide) rfl (fun ls hl => ?_)
    exact hv H locs ls hP hD hS (lv_sub hl [3, 4, 2, 1, 0] rfl)
  · have hv := hv.2 c6
    refine lv_aload_n hx hb dX3_next__9 rfl (lv_at hl 0 rfl) ?_
    refine lv_bipush (v := (-2)) hx hb dX3_next__10 (by decide) ?_
    have h8 := hv.1
    have hv := hv.2
    have hPc := hP
    have hDc := hD
    refine rw_int (va_runV (As := [.int (-2)]) (rest := []) ⟨hx, hb, hml, hown, hts⟩ (h_X3_no g ad σ (-2) h8) (cwV 1 hts gX3_next__X3_no rfl rfl rfl (by decide +kernel) ⟨Nat.le_of_ble_eq_true rfl, Nat.le_of_ble_eq_true rfl⟩) ⟨RW_blind, va_recv hK hP (ci := 3) (q0 := 0) rfl rfl, fun U hU hW => ⟨rfl, by rw [hU]; exact hPc, va_K.moved hW.alike hK, hE.call hW hU hS (fun _ h => h), hDc⟩⟩ rfl rfl hl.1 rfl (lv_room (Nat.le_of_ble_eq_true rfl)) dX3_next__12 ⟨Nat.le_of_ble_eq_true rfl, Nat.le_of_ble_eq_true rfl⟩) hS (fun _ h => h) (fun r u H1 locs hw hP1 hk hS => ?_)
    obtain ⟨hw1, hw⟩ := hw; subst r; subst u
    have hP := hP1
    generalize H1 = H at hP hS ⊢
    have hP : va_P (gD g) vwCl (wM g ad ((mS σ), (mT σ), (mK σ), (mF σ), (mRow σ), (mRowMany σ), (mLots σ), (refuX (mRefused σ) ((-2) : Int32)))) H := hP
    have hD : va_D (AD ad 0 21) (wM g ad ((mS σ), (mT σ), (mK σ), (mF σ), (mRow σ), (mRowMany σ), (mLots σ), (refuX (mRefused σ) ((-2) : Int32)))) := hD.addr (by rfl)
    exact W.iret (v := (((-2) : Int32))) hx hb hr (fun t ht hW => ⟨⟨(((-2) : Int32)), ((mS σ), (mT σ), (mK σ), (mF σ), (mRow σ), (mRowMany σ), (mLots σ), (refuX (mRefused σ) ((-2) : Int32))), rfl, hv, P_at ht hP⟩, hS.F ht⟩) hS.2.2 dX3_next__15

set_option maxHeartbeats 4000000 in
set_option maxRecDepth 100000 in
theorem m_X3_startLeft (l : Launch)  (g : CX) (ad : Nat → Nat) (σ : KM)  (Post : KM → Prop) (hv : vc_X3_startLeft σ Post) : Met l yX3_startLeft wsX3_startLeft { frames := 0, cells := 0, slots := 0, locals := 0 } (va_Pc [.ref (ad 0)] (RW g (AD ad 0 21) (wM g ad σ))) (va_Qv (fun (u : KM) => Post u) (fun u t => va_P (gD g) vwCl (wM g ad u) t.heap) (AD ad 0 21)) 0 0 (AD ad 0 21) := by
  unfold vc_X3_startLeft at hv
  refine Met.ofW (cc := cX3_startLeft) (maxL := 2) (ret := none) (by decide) rfl ?_
  intro p e s m args below meth c s₁ B hml hv0
  obtain ⟨rfl, hP, hK, hE, hD⟩ := hv0
  have hx := B.exec
  have hb := B.bytes
  have hr := B.returns
  have hts := atoms_spec (ws := wsX3_startLeft) B.pre
  have hown : s.vm.findClass RX3 = some m.cls := findClass_of_methodNamed B.named
  have hlocks := B.notSynchronized
  have hi3 : ∀ w ∈ wsX30, w ∈ wsX3_startLeft := by decide +kernel
  have k0 := hts (.fieldLink RX3 61 "JuryHearsAnswersModel" "left" "[I") (by decide +kernel)
  have k1 := hts (.fieldLink RX3 58 "JuryHearsAnswersModel" "fit" "[I") (by decide +kernel)
  have hS : va_S (AD ad 0 21) s.heap s.heap [] := va_S.rf
  have hP : va_P (gD g) vwCl (wM g ad σ) s.heap := hP
  have hl := lv_entry ([.ref (ad 0)]) (n := 2) (Nat.le_of_ble_eq_true rfl)
  rw [lg_entry_eq]
  generalize (lg_sl ([.ref (ad 0)]) ++ List.replicate (2 - (lg_sl ([.ref (ad 0)])).length) Slot.unset).toArray = ls at hl ⊢
  have hl : lv_has ls 2 [(0, .ref (ad 0))] := hl
  have hv := hv (fun (x1 : Int32) (s_F_left : FI) => ∀ (H : Heap) (locs : List Loc) (ls : Array Slot), va_P (gD g) vwCl (wM g ad ((mS σ), (mT σ), (mK σ), ((fFit (mF σ)), s_F_left, (fLeftBy (mF σ))), (mRow σ), (mRowMany σ), (mLots σ), (mRefused σ))) H → va_D (AD ad 0 21) (wM g ad ((mS σ), (mT σ), (mK σ), ((fFit (mF σ)), s_F_left, (fLeftBy (mF σ))), (mRow σ), (mRowMany σ), (mLots σ), (mRefused σ))) → va_S (AD ad 0 21) s.heap H locs → lv_has ls 2 [(0, .ref (ad 0)), (1, .int x1)] → W p l e { frames := 0, cells := 0, slots := 0, locals := 0 } s m ([.ref (ad 0)] : List Value).toArray below meth c H locs 0 0 (MQ below (va_Qv (fun (u : KM) => Post u) (fun u t => va_P (gD g) vwCl (wM g ad u) t.heap) (AD ad 0 21)) ([.ref (ad 0)] : List Value).toArray s 0 0 (AD ad 0 21)) (F0 m 2 ls []))
  have hv := hv (by
    intro x1 s_F_left hv H locs ls hP hD hS hl
    refine lv_iload_n hx hb dX3_startLeft_2 rfl (lv_at hl 1 rfl) ?_
    refine lv_bipush (v := 64) hx hb dX3_startLeft_3 (by decide) ?_
    refine lv_icmp_ge (tgt := 26) hx hb dX3_startLeft_5 (by decide) (fun c5 => ?_) (fun c5 => ?_)
    · have hv := hv.1 c5
      exact W.vret hx hb hr (fun t ht hW => ⟨⟨((mS σ), (mT σ), (mK σ), ((fFit (mF σ)), s_F_left, (fLeftBy (mF σ))), (mRow σ), (mRowMany σ), (mLots σ), (mRefused σ)), rfl, hv, P_at ht hP⟩, hS.F ht⟩) hS.2.2 dX3_startLeft_26
    · have hv := hv.2 c5
      refine lv_aload_n hx hb dX3_startLeft_8 rfl (lv_at hl 0 rfl) ?_
      refine va_get (D := gD g) (ci := 3) (v := .ref (ad 18)) (C := RX3) (T := TX3) (N := 33) hx hb hts hi3 hown hK hP 0 rfl rfl 28 (by decide) k0 (fun _ h9 => h9) rfl dX3_startLeft_9 ?_
      refine lv_iload_n hx hb dX3_startLeft_12 rfl (lv_at hl 1 rfl) ?_
      refine lv_aload_n hx hb dX3_startLeft_13 rfl (lv_at hl 0 rfl) ?_
      refine va_get (D := gD g) (ci := 3) (v := .ref (ad 17)) (C := RX3) (T := TX3) (N := 33) hx hb hts hi3 hown hK hP 0 rfl rfl 27 (by decide) k1 (fun _ h9 => h9) rfl dX3_startLeft_14 ?_
      refine lv_iload_n hx hb dX3_startLeft_17 rfl (lv_at hl 1 rfl) ?_
      have h9 := hv.1
      have hv := hv.2
      refine va_iald (f := (fFit (mF σ))) (n := 64) hx hb hK hP 17 0 rfl rfl h9 dX3_startLeft_18 ?_
      have h9 := hv.1
      have hv := hv.2
      refine va_iast (f := s_F_left) (n := 64) hx hb hK hP hD hS 18 0 rfl rfl h9 dX3_startLeft_19 (fun H locs hP hD hS => ?_)
      have hP : va_P (gD g) vwCl (wM g ad ((mS σ), (mT σ), (mK σ), ((fFit (mF σ)), (upd s_F_left (x1).toNatClampNeg ((fFit (mF σ)) (x1).toNatClampNeg)), (fLeftBy (mF σ))), (mRow σ), (mRowMany σ), (mLots σ), (mRefused σ))) H := hP
      have hD : va_D (AD ad 0 21) (wM g ad ((mS σ), (mT σ), (mK σ), ((fFit (mF σ)), (upd s_F_left (x1).toNatClampNeg ((fFit (mF σ)) (x1).toNatClampNeg)), (fLeftBy (mF σ))), (mRow σ), (mRowMany σ), (mLots σ), (mRefused σ))) := hD
      refine lv_iinc (v := (x1 + 1)) (lv' := [(1, .int (x1 + 1)), (0, .ref (ad 0))]) hx hb dX3_startLeft_20 hl (k := 1) rfl (by first | rfl | exact congrArg _ (by decide)) (by decide) rfl (fun ls hl => ?_)
      refine lv_goto (tgt := 2) hx hb dX3_startLeft_23 (by decide) ?_
      exact hv H locs ls hP hD hS (lv_sub hl [1, 0] rfl))
  obtain ⟨H, hH⟩ : ∃ z, z = s.heap := ⟨_, rfl⟩
  obtain ⟨locs, hL⟩ : ∃ z : List Loc, z = [] := ⟨_, rfl⟩
  rw [← hL] at hS ⊢
  have hS : va_S (AD ad 0 21) s.heap H locs := by rw [hH]; exact hS
  rw [← hH] at hP ⊢
  clear hH hL
  refine lv_iconst (v := 0) hx hb dX3_startLeft_0 (by decide) ?_
  refine lv_istore_n (lv' := [(1, .int 0), (0, .ref (ad 0))]) hx hb dX3_startLeft_1 rfl hl (by decide) rfl (fun ls hl => ?_)
  exact hv H locs ls hP hD hS (lv_sub hl [1, 0] rfl)

set_option maxHeartbeats 4000000 in
set_option maxRecDepth 100000 in
theorem m_X3_asksLeft (l : Launch) (h_X3_answerOf : C_X3_answerOf l) (g : CX) (ad : Nat → Nat) (σ : KM) (p0 : Int32) (p1 : Int32) (p2 : Int32) (Post : KM → Prop) (hv : vc_X3_asksLeft σ p0 p1 p2 Post) : Met l yX3_asksLeft wsX3_asksLeft { frames := 4, cells := 0, slots := 0, locals := 93 } (va_Pc [.ref (ad 0), .int p0, .int p1, .int p2] (RW g (AD ad 0 21) (wM g ad σ))) (va_Qv (fun (u : KM) => Post u) (fun u t => va_P (gD g) vwCl (wM g ad u) t.heap) (AD ad 0 21)) 0 0 (AD ad 0 21) := by
  unfold vc_X3_asksLeft at hv
  refine Met.ofW (cc := cX3_asksLeft) (maxL := 6) (ret := none) (by decide) rfl ?_
  intro p e s m args below meth c s₁ B hml hv0
  obtain ⟨rfl, hP, hK, hE, hD⟩ := hv0
  have hx := B.exec
  have hb := B.bytes
  have hr := B.returns
  have hts := atoms_spec (ws := wsX3_asksLeft) B.pre
  have hown : s.vm.findClass RX3 = some m.cls := findClass_of_methodNamed B.named
  have hlocks := B.notSynchronized
  have hi3 : ∀ w ∈ wsX30, w ∈ wsX3_asksLeft := by decide +kernel
  have k0 := hts (.fieldLink RX3 134 "JuryHearsAnswersModel" "theCase" "I") (by decide +kernel)
  have k1 := hts (.fieldLink RX3 61 "JuryHearsAnswersModel" "left" "[I") (by decide +kernel)
  have hS : va_S (AD ad 0 21) s.heap s.heap [] := va_S.rf
  have hP : va_P (gD g) vwCl (wM g ad σ) s.heap := hP
  have hl := lv_entry ([.ref (ad 0), .int p0, .int p1, .int p2]) (n := 6) (Nat.le_of_ble_eq_true rfl)
  rw [lg_entry_eq]
  generalize (lg_sl ([.ref (ad 0), .int p0, .int p1, .int p2]) ++ List.replicate (6 - (lg_sl ([.ref (ad 0), .int p0, .int p1, .int p2])).length) Slot.unset).toArray = ls at hl ⊢
  have hl : lv_has ls 6 [(0, .ref (ad 0)), (1, .int p0), (2, .int p1), (3, .int p2)] := hl
  have hv := hv (fun (x4 : Int32) (x5 : Int32) (s_F_left : FI) => ∀ (H : Heap) (locs : List Loc) (ls : Array Slot), va_P (gD g) vwCl (wM g ad ((mS σ), (mT σ), (mK σ), ((fFit (mF σ)), s_F_left, (fLeftBy (mF σ))), (mRow σ), (mRowMany σ), (mLots σ), (mRefused σ))) H → va_D (AD ad 0 21) (wM g ad ((mS σ), (mT σ), (mK σ), ((fFit (mF σ)), s_F_left, (fLeftBy (mF σ))), (mRow σ), (mRowMany σ), (mLots σ), (mRefused σ))) → va_S (AD ad 0 21) s.heap H locs → lv_has ls 6 [(0, .ref (ad 0)), (1, .int p0), (2, .int p1), (3, .int p2), (4, .int x4), (5, .int x5)] → W p l e { frames := 4, cells := 0, slots := 0, locals := 93 } s m ([.ref (ad 0), .int p0, .int p1, .int p2] : List Value).toArray below meth c H locs 0 0 (MQ below (va_Qv (fun (u : KM) => Post u) (fun u t => va_P (gD g) vwCl (wM g ad u) t.heap) (AD ad 0 21)) ([.ref (ad 0), .int p0, .int p1, .int p2] : List Value).toArray s 0 0 (AD ad 0 21)) (F0 m 16 ls []))
  have hv := hv (by
    intro x4 x5 s_F_left hv H locs ls hP hD hS hl
    refine lv_iload hx hb dX3_asksLeft_16 (lv_at hl 5 rfl) ?_
    refine lv_bipush (v := 64) hx hb dX3_asksLeft_18 (by decide) ?_
    refine lv_icmp_ge (tgt := 66) hx hb dX3_asksLeft_20 (by decide) (fun c20 => ?_) (fun c20 => ?_)
    · have hv := hv.1 c20
      exact W.vret hx hb hr (fun t ht hW => ⟨⟨((mS σ), (mT σ), (mK σ), ((fFit (mF σ)), s_F_left, (fLeftBy (mF σ))), (mRow σ), (mRowMany σ), (mLots σ), (mRefused σ)), rfl, hv, P_at ht hP⟩, hS.F ht⟩) hS.2.2 dX3_asksLeft_66
    · have hv := hv.2 c20
      refine lv_aload_n hx hb dX3_asksLeft_23 rfl (lv_at hl 0 rfl) ?_
      refine va_get (D := gD g) (ci := 3) (v := .ref (ad 18)) (C := RX3) (T := TX3) (N := 33) hx hb hts hi3 hown hK hP 0 rfl rfl 28 (by decide) k1 (fun _ h9 => h9) rfl dX3_asksLeft_24 ?_
      refine lv_iload hx hb dX3_asksLeft_27 (lv_at hl 5 rfl) ?_
      refine lv_aload_n hx hb dX3_asksLeft_29 rfl (lv_at hl 0 rfl) ?_
      refine va_get (D := gD g) (ci := 3) (v := .ref (ad 18)) (C := RX3) (T := TX3) (N := 33) hx hb hts hi3 hown hK hP 0 rfl rfl 28 (by decide) k1 (fun _ h9 => h9) rfl dX3_asksLeft_30 ?_
      refine lv_iload hx hb dX3_asksLeft_33 (lv_at hl 5 rfl) ?_
      have h9 := hv.1
      have hv := hv.2
      refine va_iald (f := s_F_left) (n := 64) hx hb hK hP 18 0 rfl rfl h9 dX3_asksLeft_35 ?_
      refine lv_iconst (v := 1) hx hb dX3_asksLeft_36 (by decide) ?_
      refine lv_icmp_ne (tgt := 58) hx hb dX3_asksLeft_37 (by decide) (fun c37 => ?_) (fun c37 => ?_)
      · have hv := hv.1 c37
        refine lv_iconst (v := 0) hx hb dX3_asksLeft_58 (by decide) ?_
        have h9 := hv.1
        have hv := hv.2
        refine va_iast (f := s_F_left) (n := 64) hx hb hK hP hD hS 18 0 rfl rfl h9 dX3_asksLeft_59 (fun H locs hP hD hS => ?_)
        have hP : va_P (gD g) vwCl (wM g ad ((mS σ), (mT σ), (mK σ), ((fFit (mF σ)), (upd s_F_left (x5).toNatClampNeg 0), (fLeftBy (mF σ))), (mRow σ), (mRowMany σ), (mLots σ), (mRefused σ))) H := hP
        have hD : va_D (AD ad 0 21) (wM g ad ((mS σ), (mT σ), (mK σ), ((fFit (mF σ)), (upd s_F_left (x5).toNatClampNeg 0), (fLeftBy (mF σ))), (mRow σ), (mRowMany σ), (mLots σ), (mRefused σ))) := hD
        refine lv_iinc (v := (x5 + 1)) (lv' := [(5, .int (x5 + 1)), (0, .ref (ad 0)), (1, .int p0), (2, .int p1), (3, .int p2), (4, .int x4)]) hx hb dX3_asksLeft_60 hl (k := 5) rfl (by first | rfl | exact congrArg _ (by decide)) (by decide) rfl (fun ls hl => ?_)
        refine lv_goto (tgt := 16) hx hb dX3_asksLeft_63 (by decide) ?_
        exact hv H locs ls hP hD hS (lv_sub hl [1, 2, 3, 4, 5, 0] rfl)
      · have hv := hv.2 c37
        refine lv_aload_n hx hb dX3_asksLeft_40 rfl (lv_at hl 0 rfl) ?_
        refine lv_iload_n hx hb dX3_asksLeft_41 rfl (lv_at hl 1 rfl) ?_
        refine lv_iload_n hx hb dX3_asksLeft_42 rfl (lv_at hl 2 rfl) ?_
        refine lv_iload hx hb dX3_asksLeft_43 (lv_at hl 5 rfl) ?_
        refine lv_iload_n hx hb dX3_asksLeft_45 rfl (lv_at hl 3 rfl) ?_
        have h8 := hv.1
        have hv := hv.2
        have hPc := hP
        refine ro_int (va_runV (As := [.int p0, .int p1, .int x5, .int p2]) (rest := [.int x5, .ref (ad 18)]) ⟨hx, hb, hml, hown, hts⟩ (h_X3_answerOf g ad ((mS σ), (mT σ), (mK σ), ((fFit (mF σ)), s_F_left, (fLeftBy (mF σ))), (mRow σ), (mRowMany σ), (mLots σ), (mRefused σ)) p0 p1 x5 p2 h8) (cwV 4 hts gX3_asksLeft_X3_answerOf rfl rfl rfl (by decide +kernel) ⟨Nat.le_of_ble_eq_true rfl, Nat.le_of_ble_eq_true rfl⟩) ⟨RO_blind, va_recv hK hP (ci := 3) (q0 := 0) rfl rfl, fun U hU hW => ⟨rfl, by rw [hU]; exact hPc, va_K.moved hW.alike hK, hE.call hW hU hS (fun _ h => h.elim)⟩⟩ rfl rfl hl.1 rfl (lv_room (Nat.le_of_ble_eq_true rfl)) dX3_asksLeft_46 ⟨Nat.le_of_ble_eq_true rfl, Nat.le_of_ble_eq_true rfl⟩) hS hP (fun r H locs hw hP hS => ?_)
        subst r
        refine lv_iload hx hb dX3_asksLeft_49 (lv_at hl 4 rfl) ?_
        refine lv_icmp_ne (tgt := 58) hx hb dX3_asksLeft_51 (by decide) (fun c51 => ?_) (fun c51 => ?_)
        · have hv := hv.1 c51
          refine lv_iconst (v := 0) hx hb dX3_asksLeft_58 (by decide) ?_
          have h9 := hv.1
          have hv := hv.2
          refine va_iast (f := s_F_left) (n := 64) hx hb hK hP hD hS 18 0 rfl rfl h9 dX3_asksLeft_59 (fun H locs hP hD hS => ?_)
          have hP : va_P (gD g) vwCl (wM g ad ((mS σ), (mT σ), (mK σ), ((fFit (mF σ)), (upd s_F_left (x5).toNatClampNeg 0), (fLeftBy (mF σ))), (mRow σ), (mRowMany σ), (mLots σ), (mRefused σ))) H := hP
          have hD : va_D (AD ad 0 21) (wM g ad ((mS σ), (mT σ), (mK σ), ((fFit (mF σ)), (upd s_F_left (x5).toNatClampNeg 0), (fLeftBy (mF σ))), (mRow σ), (mRowMany σ), (mLots σ), (mRefused σ))) := hD
          refine lv_iinc (v := (x5 + 1)) (lv' := [(5, .int (x5 + 1)), (0, .ref (ad 0)), (1, .int p0), (2, .int p1), (3, .int p2), (4, .int x4)]) hx hb dX3_asksLeft_60 hl (k := 5) rfl (by first | rfl | exact congrArg _ (by decide)) (by decide) rfl (fun ls hl => ?_)
          refine lv_goto (tgt := 16) hx hb dX3_asksLeft_63 (by decide) ?_
          exact hv H locs ls hP hD hS (lv_sub hl [1, 2, 3, 4, 5, 0] rfl)
        · have hv := hv.2 c51
          refine lv_iconst (v := 1) hx hb dX3_asksLeft_54 (by decide) ?_
          refine lv_goto (tgt := 59) hx hb dX3_asksLeft_55 (by decide) ?_
          have h9 := hv.1
          have hv := hv.2
          refine va_iast (f := s_F_left) (n := 64) hx hb hK hP hD hS 18 0 rfl rfl h9 dX3_asksLeft_59 (fun H locs hP hD hS => ?_)
          have hP : va_P (gD g) vwCl (wM g ad ((mS σ), (mT σ), (mK σ), ((fFit (mF σ)), (upd s_F_left (x5).toNatClampNeg 1), (fLeftBy (mF σ))), (mRow σ), (mRowMany σ), (mLots σ), (mRefused σ))) H := hP
          have hD : va_D (AD ad 0 21) (wM g ad ((mS σ), (mT σ), (mK σ), ((fFit (mF σ)), (upd s_F_left (x5).toNatClampNeg 1), (fLeftBy (mF σ))), (mRow σ), (mRowMany σ), (mLots σ), (mRefused σ))) := hD
          refine lv_iinc (v := (x5 + 1)) (lv' := [(5, .int (x5 + 1)), (0, .ref (ad 0)), (1, .int p0), (2, .int p1), (3, .int p2), (4, .int x4)]) hx hb dX3_asksLeft_60 hl (k := 5) rfl (by first | rfl | exact congrArg _ (by decide)) (by decide) rfl (fun ls hl => ?_)
          refine lv_goto (tgt := 16) hx hb dX3_asksLeft_63 (by decide) ?_
          exact hv H locs ls hP hD hS (lv_sub hl [1, 2, 3, 4, 5, 0] rfl))
  obtain ⟨H, hH⟩ : ∃ z, z = s.heap := ⟨_, rfl⟩
  obtain ⟨locs, hL⟩ : ∃ z : List Loc, z = [] := ⟨_, rfl⟩
  rw [← hL] at hS ⊢
  have hS : va_S (AD ad 0 21) s.heap H locs := by rw [hH]; exact hS
  rw [← hH] at hP ⊢
  clear hH hL
  refine lv_aload_n hx hb dX3_asksLeft_0 rfl (lv_at hl 0 rfl) ?_
  refine lv_iload_n hx hb dX3_asksLeft_1 rfl (lv_at hl 1 rfl) ?_
  refine lv_iload_n hx hb dX3_asksLeft_2 rfl (lv_at hl 2 rfl) ?_
  refine lv_aload_n hx hb dX3_asksLeft_3 rfl (lv_at hl 0 rfl) ?_
  refine va_get (D := gD g) (ci := 3) (v := .int (sCase (mS σ))) (C := RX3) (T := TX3) (N := 33) hx hb hts hi3 hown hK hP 0 rfl rfl 11 (by decide) k0 (fun _ h9 => h9) rfl dX3_asksLeft_4 ?_
  refine lv_iload_n hx hb dX3_asksLeft_7 rfl (lv_at hl 3 rfl) ?_
  have h8 := hv.1
  have hv := hv.2
  have hPc := hP
  refine ro_int (va_runV (As := [.int p0, .int p1, .int (sCase (mS σ)), .int p2]) (rest := []) ⟨hx, hb, hml, hown, hts⟩ (h_X3_answerOf g ad σ p0 p1 (sCase (mS σ)) p2 h8) (cwV 4 hts gX3_asksLeft_X3_answerOf rfl rfl rfl (by decide +kernel) ⟨Nat.le_of_ble_eq_true rfl, Nat.le_of_ble_eq_true rfl⟩) ⟨RO_blind, va_recv hK hP (ci := 3) (q0 := 0) rfl rfl, fun U hU hW => ⟨rfl, by rw [hU]; exact hPc, va_K.moved hW.alike hK, hE.call hW hU hS (fun _ h => h.elim)⟩⟩ rfl rfl hl.1 rfl (lv_room (Nat.le_of_ble_eq_true rfl)) dX3_asksLeft_8 ⟨Nat.le_of_ble_eq_true rfl, Nat.le_of_ble_eq_true rfl⟩) hS hP (fun r H locs hw hP hS => ?_)
  subst r
  refine lv_istore (lv' := [(4, .int (ansI (mS σ) p0 p1 (sCase (mS σ)) p2)), (0, .ref (ad 0)), (1, .int p0), (2, .int p1), (3, .int p2)]) hx hb dX3_asksLeft_11 hl (by decide) rfl (fun ls hl => ?_)
  refine lv_iconst (v := 0) hx hb dX3_asksLeft_13 (by decide) ?_
  refine lv_istore (lv' := [(5, .int 0), (4, .int (ansI (mS σ) p0 p1 (sCase (mS σ)) p2)), (0, .ref (ad 0)), (1, .int p0), (2, .int p1), (3, .int p2)]) hx hb dX3_asksLeft_14 hl (by decide) rfl (fun ls hl => ?_)
  exact hv H locs ls hP hD hS (lv_sub hl [2, 3, 4, 5, 1, 0] rfl)

set_option maxHeartbeats 4000000 in
set_option maxRecDepth 100000 in
theorem m_X3_power (l : Launch)  (g : CX) (p0 : Int32) (p1 : Int32) (Post : Int32 → Prop) (hv : vc_X3_power p0 p1 Post) : Met l yX3_power wsX3_power { frames := 0, cells := 0, slots := 0, locals := 0 } (va_Pc [.int p0, .int p1] (RO g [])) (va_Qi (fun r (_ : Unit) => Post r) (fun _ _ => True) A0) 0 0 A0 := by
  unfold vc_X3_power at hv
  refine Met.ofW (cc := cX3_power) (maxL := 4) (ret := (some .int)) (by decide) rfl ?_
  intro p e s m args below meth c s₁ B hml hv0
  obtain ⟨rfl, hP, hK, hE⟩ := hv0
  have hx := B.exec
  have hb := B.bytes
  have hr := B.returns
  have hts := atoms_spec (ws := wsX3_power) B.pre
  have hown : s.vm.findClass RX3 = some m.cls := findClass_of_methodNamed B.named
  have hlocks := B.notSynchronized
  have hS : va_S A0 s.heap s.heap [] := va_S.rf
  have hP : va_P (gD g) vwCl ([]) s.heap := hP
  have hl := lv_entry ([.int p0, .int p1]) (n := 4) (Nat.le_of_ble_eq_true rfl)
  rw [lg_entry_eq]
  generalize (lg_sl ([.int p0, .int p1]) ++ List.replicate (4 - (lg_sl ([.int p0, .int p1])).length) Slot.unset).toArray = ls at hl ⊢
  have hl : lv_has ls 4 [(0, .int p0), (1, .int p1)] := hl
  have hv := hv (fun (x2 : Int32) (x3 : Int32) => ∀ (H : Heap) (locs : List Loc) (ls : Array Slot), va_P (gD g) vwCl ([]) H → va_S A0 s.heap H locs → lv_has ls 4 [(0, .int p0), (1, .int p1), (2, .int x2), (3, .int x3)] → W p l e { frames := 0, cells := 0, slots := 0, locals := 0 } s m ([.int p0, .int p1] : List Value).toArray below meth c H locs 0 0 (MQ below (va_Qi (fun r (_ : Unit) => Post r) (fun _ _ => True) A0) ([.int p0, .int p1] : List Value).toArray s 0 0 A0) (F0 m 4 ls []))
  have hv := hv (by
    intro x2 x3 hv H locs ls hP hS hl
    refine lv_iload_n hx hb dX3_power_4 rfl (lv_at hl 3 rfl) ?_
    refine lv_iload_n hx hb dX3_power_5 rfl (lv_at hl 1 rfl) ?_
    refine lv_icmp_ge (tgt := 19) hx hb dX3_power_6 (by decide) (fun c6 => ?_) (fun c6 => ?_)
    · have hv := hv.1 c6
      refine lv_iload_n hx hb dX3_power_19 rfl (lv_at hl 2 rfl) ?_
      exact W.iret (v := x2) hx hb hr (fun t ht hW => ⟨⟨x2, (), rfl, hv, trivial⟩, hS.F ht⟩) hS.2.2 dX3_power_20
    · have hv := hv.2 c6
      refine lv_iload_n hx hb dX3_power_9 rfl (lv_at hl 2 rfl) ?_
      refine lv_iload_n hx hb dX3_power_10 rfl (lv_at hl 0 rfl) ?_
      refine lv_imul hx hb dX3_power_11 ?_
      refine lv_istore_n (lv' := [(2, .int (x2 * p0)), (0, .int p0), (1, .int p1), (3, .int x3)]) hx hb dX3_power_12 rfl hl (by decide) rfl (fun ls hl => ?_)
      refine lv_iinc (v := (x3 + 1)) (lv' := [(3, .int (x3 + 1)), (2, .int (x2 * p0)), (0, .int p0), (1, .int p1)]) hx hb dX3_power_13 hl (k := 3) rfl (by first | rfl | exact congrArg _ (by decide)) (by decide) rfl (fun ls hl => ?_)
      refine lv_goto (tgt := 4) hx hb dX3_power_16 (by decide) ?_
      exact hv H locs ls hP hS (lv_sub hl [2, 3, 1, 0] rfl))
  obtain ⟨H, hH⟩ : ∃ z, z = s.heap := ⟨_, rfl⟩
  obtain ⟨locs, hL⟩ : ∃ z : List Loc, z = [] := ⟨_, rfl⟩
  rw [← hL] at hS ⊢
  have hS : va_S A0 s.heap H locs := by rw [hH]; exact hS
  rw [← hH] at hP ⊢
  clear hH hL
  refine lv_iconst (v := 1) hx hb dX3_power_0 (by decide) ?_
  refine lv_istore_n (lv' := [(2, .int 1), (0, .int p0), (1, .int p1)]) hx hb dX3_power_1 rfl hl (by decide) rfl (fun ls hl => ?_)
  refine lv_iconst (v := 0) hx hb dX3_power_2 (by decide) ?_
  refine lv_istore_n (lv' := [(3, .int 0), (2, .int 1), (0, .int p0), (1, .int p1)]) hx hb dX3_power_3 rfl hl (by decide) rfl (fun ls hl => ?_)
  exact hv H locs ls hP hS (lv_sub hl [2, 3, 1, 0] rfl)

set_option maxHeartbeats 4000000 in
set_option maxRecDepth 100000 in
theorem m_X3_isSettled (l : Launch) (h_X3_asksLeft : C_X3_asksLeft l) (h_X3_has : C_X3_has l) (h_X3_power : C_X3_power l) (h_X3_startLeft : C_X3_startLeft l) (h_X3_sureIn : C_X3_sureIn l) (g : CX) (ad : Nat → Nat) (σ : KM) (p0 : Int32) (p1 : Int32) (p2 : Int32) (p3 : Int32) (Post : Int32 → KM → Prop) (hv : vc_X3_isSettled σ p0 p1 p2 p3 Post) : Met l yX3_isSettled wsX3_isSettled { frames := 5, cells := 0, slots := 0, locals := 118 } (va_Pc [.ref (ad 0), .int p0, .int p1, .int p2, .int p3] (RW g (AD ad 0 21) (wM g ad σ))) (va_Qi (fun (r : Int32) (u : KM) => Post r u) (fun u t => va_P (gD g) vwCl (wM g ad u) t.heap) (AD ad 0 21)) 0 0 (AD ad 0 21) := by
  unfold vc_X3_isSettled at hv
  refine Met.ofW (cc := cX3_isSettled) (maxL := 6) (ret := (some .boolean)) (by decide) rfl ?_
  intro p e s m args below meth c s₁ B hml hv0
  obtain ⟨rfl, hP, hK, hE, hD⟩ := hv0
  have hx := B.exec
  have hb := B.bytes
  have hr := B.returns
  have hts := atoms_spec (ws := wsX3_isSettled) B.pre
  have hown : s.vm.findClass RX3 = some m.cls := findClass_of_methodNamed B.named
  have hlocks := B.notSynchronized
  have hi3 : ∀ w ∈ wsX30, w ∈ wsX3_isSettled := by decide +kernel
  have k0 := hts (.fieldLink RX3 61 "JuryHearsAnswersModel" "left" "[I") (by decide +kernel)
  have k1 := hts (.fieldLink RX3 70 "JuryHearsAnswersModel" "questions" "I") (by decide +kernel)
  have k2 := hts (.fieldLink RX3 127 "JuryHearsAnswersModel" "asked" "I") (by decide +kernel)
  have hS : va_S (AD ad 0 21) s.heap s.heap [] := va_S.rf
  have hP : va_P (gD g) vwCl (wM g ad σ) s.heap := hP
  have hl := lv_entry ([.ref (ad 0), .int p0, .int p1, .int p2, .int p3]) (n := 6) (Nat.le_of_ble_eq_true rfl)
  rw [lg_entry_eq]
  generalize (lg_sl ([.ref (ad 0), .int p0, .int p1, .int p2, .int p3]) ++ List.replicate (6 - (lg_sl ([.ref (ad 0), .int p0, .int p1, .int p2, .int p3])).length) Slot.unset).toArray = ls at hl ⊢
  have hl : lv_has ls 6 [(0, .ref (ad 0)), (1, .int p0), (2, .int p1), (3, .int p2), (4, .int p3)] := hl
  have hv := hv (fun (x5 : Int32) (s_F_left : FI) => ∀ (H : Heap) (locs : List Loc) (ls : Array Slot), va_P (gD g) vwCl (wM g ad ((mS σ), (mT σ), (mK σ), ((fFit (mF σ)), s_F_left, (fLeftBy (mF σ))), (mRow σ), (mRowMany σ), (mLots σ), (mRefused σ))) H → va_D (AD ad 0 21) (wM g ad ((mS σ), (mT σ), (mK σ), ((fFit (mF σ)), s_F_left, (fLeftBy (mF σ))), (mRow σ), (mRowMany σ), (mLots σ), (mRefused σ))) → va_S (AD ad 0 21) s.heap H locs → lv_has ls 6 [(0, .ref (ad 0)), (1, .int p0), (2, .int p1), (3, .int p2), (4, .int p3), (5, .int x5)] → W p l e { frames := 5, cells := 0, slots := 0, locals := 118 } s m ([.ref (ad 0), .int p0, .int p1, .int p2, .int p3] : List Value).toArray below meth c H locs 0 0 (MQ below (va_Qi (fun (r : Int32) (u : KM) => Post r u) (fun u t => va_P (gD g) vwCl (wM g ad u) t.heap) (AD ad 0 21)) ([.ref (ad 0), .int p0, .int p1, .int p2, .int p3] : List Value).toArray s 0 0 (AD ad 0 21)) (F0 m 7 ls []))
  have hv := hv (by
    intro x5 s_F_left hv H locs ls hP hD hS hl
    refine lv_iload hx hb dX3_isSettled_7 (lv_at hl 5 rfl) ?_
    refine lv_iload hx hb dX3_isSettled_9 (lv_at hl 4 rfl) ?_
    refine lv_icmp_ge (tgt := 55) hx hb dX3_isSettled_11 (by decide) (fun c11 => ?_) (fun c11 => ?_)
    · have hv := hv.1 c11
      refine lv_aload_n hx hb dX3_isSettled_55 rfl (lv_at hl 0 rfl) ?_
      refine va_get (D := gD g) (ci := 3) (v := .ref (ad 18)) (C := RX3) (T := TX3) (N := 33) hx hb hts hi3 hown hK hP 0 rfl rfl 28 (by decide) k0 (fun _ h9 => h9) rfl dX3_isSettled_56 ?_
      have hPc : va_P (gD g) vwCl (wA g ad 18 s_F_left) H := hP.sub [18] rfl
      refine ro_int (va_runS (As := [.ref (ad 18)]) (rest := []) ⟨hx, hb, hml, hown, hts⟩ (h_X3_sureIn g ad 18 s_F_left) (va_cwS 1 hts gX3_isSettled_X3_sureIn rfl rfl rfl (by decide +kernel) ⟨Nat.le_of_ble_eq_true rfl, Nat.le_of_ble_eq_true rfl⟩) ⟨RO_blind, fun U hU hW => ⟨rfl, by rw [hU]; exact hPc, va_K.moved hW.alike hK, hE.call hW hU hS (fun _ h => h.elim)⟩⟩ rfl rfl hl.1 rfl (lv_room (Nat.le_of_ble_eq_true rfl)) dX3_isSettled_59 ⟨Nat.le_of_ble_eq_true rfl, Nat.le_of_ble_eq_true rfl⟩) hS hP (fun r H locs hw hP hS => ?_)
      subst r
      refine lv_iload_n hx hb dX3_isSettled_62 rfl (lv_at hl 2 rfl) ?_
      have hPc : va_P (gD g) vwCl [] H := fun k q h => by simp at h
      refine ro_int (va_runS (As := [.int (sureOf s_F_left), .int p1]) (rest := []) ⟨hx, hb, hml, hown, hts⟩ (h_X3_has g (sureOf s_F_left) p1) (va_cwS 2 hts gX3_isSettled_X3_has rfl rfl rfl (by decide +kernel) ⟨Nat.le_of_ble_eq_true rfl, Nat.le_of_ble_eq_true rfl⟩) ⟨RO_blind, fun U hU hW => ⟨rfl, by rw [hU]; exact hPc, va_K.moved hW.alike hK, hE.call hW hU hS (fun _ h => h.elim)⟩⟩ rfl rfl hl.1 rfl (lv_room (Nat.le_of_ble_eq_true rfl)) dX3_isSettled_63 ⟨Nat.le_of_ble_eq_true rfl, Nat.le_of_ble_eq_true rfl⟩) hS hP (fun r H locs hw hP hS => ?_)
      subst r
      have hn := hv.1
      have hv := hv.2
      exact W.zret (v := (b2i (hasB (sureOf s_F_left) p1))) hx hb hr hn (fun t ht hW => ⟨⟨(b2i (hasB (sureOf s_F_left) p1)), ((mS σ), (mT σ), (mK σ), ((fFit (mF σ)), s_F_left, (fLeftBy (mF σ))), (mRow σ), (mRowMany σ), (mLots σ), (mRefused σ)), rfl, hv, P_at ht hP⟩, hS.F ht⟩) hS.2.2 dX3_isSettled_66
    · have hv := hv.2 c11
      refine lv_aload_n hx hb dX3_isSettled_14 rfl (lv_at hl 0 rfl) ?_
      refine lv_iload_n hx hb dX3_isSettled_15 rfl (lv_at hl 1 rfl) ?_
      refine lv_iload_n hx hb dX3_isSettled_16 rfl (lv_at hl 3 rfl) ?_
      refine lv_aload_n hx hb dX3_isSettled_17 rfl (lv_at hl 0 rfl) ?_
      refine va_get (D := gD g) (ci := 3) (v := .int (sNq (mS σ))) (C := RX3) (T := TX3) (N := 33) hx hb hts hi3 hown hK hP 0 rfl rfl 12 (by decide) k1 (fun _ h9 => h9) rfl dX3_isSettled_18 ?_
      refine lv_iload hx hb dX3_isSettled_21 (lv_at hl 4 rfl) ?_
      refine lv_iconst (v := 1) hx hb dX3_isSettled_23 (by decide) ?_
      refine lv_isub hx hb dX3_isSettled_24 ?_
      refine lv_iload hx hb dX3_isSettled_25 (lv_at hl 5 rfl) ?_
      refine lv_isub hx hb dX3_isSettled_27 ?_
      have h8 := hv.1
      have hv := hv.2
      have hPc : va_P (gD g) vwCl [] H := fun k q h => by simp at h
      refine ro_int (va_runS (As := [.int (sNq (mS σ)), .int ((p3 - 1) - x5)]) (rest := [.int p2, .int p0, .ref (ad 0)]) ⟨hx, hb, hml, hown, hts⟩ (h_X3_power g (sNq (mS σ)) ((p3 - 1) - x5) h8) (va_cwS 2 hts gX3_isSettled_X3_power rfl rfl rfl (by decide +kernel) ⟨Nat.le_of_ble_eq_true rfl, Nat.le_of_ble_eq_true rfl⟩) ⟨RO_blind, fun U hU hW => ⟨rfl, by rw [hU]; exact hPc, va_K.moved hW.alike hK, hE.call hW hU hS (fun _ h => h.elim)⟩⟩ rfl rfl hl.1 rfl (lv_room (Nat.le_of_ble_eq_true rfl)) dX3_isSettled_28 ⟨Nat.le_of_ble_eq_true rfl, Nat.le_of_ble_eq_true rfl⟩) hS hP (fun r H locs hw hP hS => ?_)
      subst r
      have h0 := hv.1
      have hv := hv.2
      refine lv_idiv hx hb dX3_isSettled_31 h0 ?_
      refine lv_aload_n hx hb dX3_isSettled_32 rfl (lv_at hl 0 rfl) ?_
      refine va_get (D := gD g) (ci := 3) (v := .int (sNq (mS σ))) (C := RX3) (T := TX3) (N := 33) hx hb hts hi3 hown hK hP 0 rfl rfl 12 (by decide) k1 (fun _ h9 => h9) rfl dX3_isSettled_33 ?_
      have h0 := hv.1
      have hv := hv.2
      refine lv_irem hx hb dX3_isSettled_36 h0 ?_
      refine lv_aload_n hx hb dX3_isSettled_37 rfl (lv_at hl 0 rfl) ?_
      refine va_get (D := gD g) (ci := 3) (v := .int (sAsked (mS σ))) (C := RX3) (T := TX3) (N := 33) hx hb hts hi3 hown hK hP 0 rfl rfl 15 (by decide) k2 (fun _ h9 => h9) rfl dX3_isSettled_38 ?_
      refine lv_iconst (v := 1) hx hb dX3_isSettled_41 (by decide) ?_
      refine lv_iadd hx hb dX3_isSettled_42 ?_
      refine lv_iload hx hb dX3_isSettled_43 (lv_at hl 5 rfl) ?_
      refine lv_iadd hx hb dX3_isSettled_45 ?_
      have h8 := hv.1
      have hv := hv.2
      have hPc := hP
      have hDc := hD
      refine rw_void (va_runV (As := [.int p0, .int ((p2 / (powI (sNq (mS σ)) ((p3 - 1) - x5).toNatClampNeg)) - (p2 / (powI (sNq (mS σ)) ((p3 - 1) - x5).toNatClampNeg)) / (sNq (mS σ)) * (sNq (mS σ))), .int (((sAsked (mS σ)) + 1) + x5)]) (rest := []) ⟨hx, hb, hml, hown, hts⟩ (h_X3_asksLeft g ad ((mS σ), (mT σ), (mK σ), ((fFit (mF σ)), s_F_left, (fLeftBy (mF σ))), (mRow σ), (mRowMany σ), (mLots σ), (mRefused σ)) p0 ((p2 / (powI (sNq (mS σ)) ((p3 - 1) - x5).toNatClampNeg)) - (p2 / (powI (sNq (mS σ)) ((p3 - 1) - x5).toNatClampNeg)) / (sNq (mS σ)) * (sNq (mS σ))) (((sAsked (mS σ)) + 1) + x5) h8) (cwV 3 hts gX3_isSettled_X3_asksLeft rfl rfl rfl (by decide +kernel) ⟨Nat.le_of_ble_eq_true rfl, Nat.le_of_ble_eq_true rfl⟩) ⟨RW_blind, va_recv hK hP (ci := 3) (q0 := 0) rfl rfl, fun U hU hW => ⟨rfl, by rw [hU]; exact hPc, va_K.moved hW.alike hK, hE.call hW hU hS (fun _ h => h), hDc⟩⟩ rfl rfl hl.1 rfl (lv_room (Nat.le_of_ble_eq_true rfl)) dX3_isSettled_46 ⟨Nat.le_of_ble_eq_true rfl, Nat.le_of_ble_eq_true rfl⟩) hS (fun _ h => h) (fun u H1 locs hw hP1 hk hS => ?_)
      subst u
      have hP := hP1
      generalize H1 = H at hP hS ⊢
      have hP : va_P (gD g) vwCl (wM g ad ((mS σ), (mT σ), (mK σ), ((fFit (mF σ)), (leftAsk (mS σ) p0 ((p2 / (powI (sNq (mS σ)) ((p3 - 1) - x5).toNatClampNeg)) - (p2 / (powI (sNq (mS σ)) ((p3 - 1) - x5).toNatClampNeg)) / (sNq (mS σ)) * (sNq (mS σ))) (((sAsked (mS σ)) + 1) + x5) s_F_left), (fLeftBy (mF σ))), (mRow σ), (mRowMany σ), (mLots σ), (mRefused σ))) H := hP
      have hD : va_D (AD ad 0 21) (wM g ad ((mS σ), (mT σ), (mK σ), ((fFit (mF σ)), (leftAsk (mS σ) p0 ((p2 / (powI (sNq (mS σ)) ((p3 - 1) - x5).toNatClampNeg)) - (p2 / (powI (sNq (mS σ)) ((p3 - 1) - x5).toNatClampNeg)) / (sNq (mS σ)) * (sNq (mS σ))) (((sAsked (mS σ)) + 1) + x5) s_F_left), (fLeftBy (mF σ))), (mRow σ), (mRowMany σ), (mLots σ), (mRefused σ))) := hD.addr (by rfl)
      refine lv_iinc (v := (x5 + 1)) (lv' := [(5, .int (x5 + 1)), (0, .ref (ad 0)), (1, .int p0), (2, .int p1), (3, .int p2), (4, .int p3)]) hx hb dX3_isSettled_49 hl (k := 5) rfl (by first | rfl | exact congrArg _ (by decide)) (by decide) rfl (fun ls hl => ?_)
      refine lv_goto (tgt := 7) hx hb dX3_isSettled_52 (by decide) ?_
      exact hv H locs ls hP hD hS (lv_sub hl [1, 2, 3, 4, 5, 0] rfl))
  obtain ⟨H, hH⟩ : ∃ z, z = s.heap := ⟨_, rfl⟩
  obtain ⟨locs, hL⟩ : ∃ z : List Loc, z = [] := ⟨_, rfl⟩
  rw [← hL] at hS ⊢
  have hS : va_S (AD ad 0 21) s.heap H locs := by rw [hH]; exact hS
  rw [← hH] at hP ⊢
  clear hH hL
  refine lv_aload_n hx hb dX3_isSettled_0 rfl (lv_at hl 0 rfl) ?_
  have hPc := hP
  have hDc := hD
  refine rw_void (va_runV (As := []) (rest := []) ⟨hx, hb, hml, hown, hts⟩ (h_X3_startLeft g ad σ) (cwV 0 hts gX3_isSettled_X3_startLeft rfl rfl rfl (by decide +kernel) ⟨Nat.le_of_ble_eq_true rfl, Nat.le_of_ble_eq_true rfl⟩) ⟨RW_blind, va_recv hK hP (ci := 3) (q0 := 0) rfl rfl, fun U hU hW => ⟨rfl, by rw [hU]; exact hPc, va_K.moved hW.alike hK, hE.call hW hU hS (fun _ h => h), hDc⟩⟩ rfl rfl hl.1 rfl (lv_room (Nat.le_of_ble_eq_true rfl)) dX3_isSettled_1 ⟨Nat.le_of_ble_eq_true rfl, Nat.le_of_ble_eq_true rfl⟩) hS (fun _ h => h) (fun u H1 locs hw hP1 hk hS => ?_)
  subst u
  have hP := hP1
  generalize H1 = H at hP hS ⊢
  have hP : va_P (gD g) vwCl (wM g ad ((mS σ), (mT σ), (mK σ), ((fFit (mF σ)), (tab 64 (fFit (mF σ)) (fLeft (mF σ))), (fLeftBy (mF σ))), (mRow σ), (mRowMany σ), (mLots σ), (mRefused σ))) H := hP
  have hD : va_D (AD ad 0 21) (wM g ad ((mS σ), (mT σ), (mK σ), ((fFit (mF σ)), (tab 64 (fFit (mF σ)) (fLeft (mF σ))), (fLeftBy (mF σ))), (mRow σ), (mRowMany σ), (mLots σ), (mRefused σ))) := hD.addr (by rfl)
  refine lv_iconst (v := 0) hx hb dX3_isSettled_4 (by decide) ?_
  refine lv_istore (lv' := [(5, .int 0), (0, .ref (ad 0)), (1, .int p0), (2, .int p1), (3, .int p2), (4, .int p3)]) hx hb dX3_isSettled_5 hl (by decide) rfl (fun ls hl => ?_)
  exact hv H locs ls hP hD hS (lv_sub hl [1, 2, 3, 4, 5, 0] rfl)

