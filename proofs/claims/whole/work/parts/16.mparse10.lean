set_option maxHeartbeats 4000000 in
set_option maxRecDepth 100000 in
theorem m_X3_court (l : Launch) (h_X3_comes : C_X3_comes l) (h_X3_passesAll : C_X3_passesAll l) (h_X3_statement : C_X3_statement l) (g : CX) (ad : Nat → Nat) (σ : KM)  (Post : Int32 → KM → Prop) (hv : vc_X3_court σ Post) : Met l yX3_court wsX3_court { frames := 7, cells := 0, slots := 0, locals := 160 } (va_Pc [.ref (ad 0)] (RW g (AD ad 0 21) (wM g ad σ))) (va_Qi (fun (r : Int32) (u : KM) => Post r u) (fun u t => va_P (gD g) vwCl (wM g ad u) t.heap) (AD ad 0 21)) 0 0 (AD ad 0 21) := by
  unfold vc_X3_court at hv
  refine Met.ofW (cc := cX3_court) (maxL := 3) (ret := (some .int)) (by decide) rfl ?_
  intro p e s m args below meth c s₁ B hml hv0
  obtain ⟨rfl, hP, hK, hE, hD⟩ := hv0
  have hx := B.exec
  have hb := B.bytes
  have hr := B.returns
  have hts := atoms_spec (ws := wsX3_court) B.pre
  have hown : s.vm.findClass RX3 = some m.cls := findClass_of_methodNamed B.named
  have hlocks := B.notSynchronized
  have hi3 : ∀ w ∈ wsX30, w ∈ wsX3_court := by decide +kernel
  have k0 := hts (.fieldLink RX3 90 "JuryHearsAnswersModel" "at" "I") (by decide +kernel)
  have k1 := hts (.fieldLink RX3 112 "JuryHearsAnswersModel" "statements" "I") (by decide +kernel)
  have k2 := hts (.fieldLink RX3 83 "JuryHearsAnswersModel" "taped" "I") (by decide +kernel)
  have k3 := hts (.fieldLink RX3 49 "JuryHearsAnswersModel" "letterAt" "[I") (by decide +kernel)
  have hS : va_S (AD ad 0 21) s.heap s.heap [] := va_S.rf
  have hP : va_P (gD g) vwCl (wM g ad σ) s.heap := hP
  have hl := lv_entry ([.ref (ad 0)]) (n := 3) (Nat.le_of_ble_eq_true rfl)
  rw [lg_entry_eq]
  generalize (lg_sl ([.ref (ad 0)]) ++ List.replicate (3 - (lg_sl ([.ref (ad 0)])).length) Slot.unset).toArray = ls at hl ⊢
  have hl : lv_has ls 3 [(0, .ref (ad 0))] := hl
  have hv := hv (fun (x1 : Int32) (s_K : KK) (s_S : SS) (s_T : KT) => ∀ (H : Heap) (locs : List Loc) (ls : Array Slot), va_P (gD g) vwCl (wM g ad (s_S, s_T, s_K, (mF σ), (mRow σ), (mRowMany σ), (mLots σ), (mRefused σ))) H → va_D (AD ad 0 21) (wM g ad (s_S, s_T, s_K, (mF σ), (mRow σ), (mRowMany σ), (mLots σ), (mRefused σ))) → va_S (AD ad 0 21) s.heap H locs → lv_has ls 3 [(0, .ref (ad 0)), (1, .int x1)] → W p l e { frames := 7, cells := 0, slots := 0, locals := 160 } s m ([.ref (ad 0)] : List Value).toArray below meth c H locs 0 0 (MQ below (va_Qi (fun (r : Int32) (u : KM) => Post r u) (fun u t => va_P (gD g) vwCl (wM g ad u) t.heap) (AD ad 0 21)) ([.ref (ad 0)] : List Value).toArray s 0 0 (AD ad 0 21)) (F0 m 12 ls []))
  have hv := hv (fun (x2 : Int32) (s_K : KK) (s_S : SS) (s_T : KT) => ∀ (H : Heap) (locs : List Loc) (ls : Array Slot), va_P (gD g) vwCl (wM g ad (s_S, s_T, s_K, (mF σ), (mRow σ), (mRowMany σ), (mLots σ), (mRefused σ))) H → va_D (AD ad 0 21) (wM g ad (s_S, s_T, s_K, (mF σ), (mRow σ), (mRowMany σ), (mLots σ), (mRefused σ))) → va_S (AD ad 0 21) s.heap H locs → lv_has ls 3 [(0, .ref (ad 0)), (2, .int x2)] → W p l e { frames := 7, cells := 0, slots := 0, locals := 160 } s m ([.ref (ad 0)] : List Value).toArray below meth c H locs 0 0 (MQ below (va_Qi (fun (r : Int32) (u : KM) => Post r u) (fun u t => va_P (gD g) vwCl (wM g ad u) t.heap) (AD ad 0 21)) ([.ref (ad 0)] : List Value).toArray s 0 0 (AD ad 0 21)) (F0 m 86 ls []))
  have hv := hv (by
    intro x1 s_K s_S s_T hv H locs ls hP hD hS hl
    refine lv_iload_n hx hb dX3_court_12 rfl (lv_at hl 1 rfl) ?_
    refine lv_if_eq (tgt := 60) hx hb dX3_court_13 (by decide) (fun c13 => ?_) (fun c13 => ?_)
    · have hv := hv.1 c13
      refine lv_aload_n hx hb dX3_court_60 rfl (lv_at hl 0 rfl) ?_
      refine lv_iconst (v := 0) hx hb dX3_court_61 (by decide) ?_
      refine va_put (D := gD g) (ci := 3) (v := .int 0) (ty := .int) (C := RX3) (T := TX3) (N := 33) hx hb hts hi3 tyX3 tyX3_ok nmX3 hown hK hP hD hS 0 rfl rfl 20 (by decide) k2 (fun _ h9 => h9) rfl (by decide +kernel) rfl rfl (Nat.le_of_ble_eq_true rfl) dX3_court_62 (fun H locs hP hD hS => ?_)
      have hP : va_P (gD g) vwCl (wM g ad (s_S, ((tTape s_T), (tLetter s_T), (tLetterAt s_T), (tTold s_T), 0, (tAt s_T), (tStm s_T)), s_K, (mF σ), (mRow σ), (mRowMany σ), (mLots σ), (mRefused σ))) H := hP
      have hD : va_D (AD ad 0 21) (wM g ad (s_S, ((tTape s_T), (tLetter s_T), (tLetterAt s_T), (tTold s_T), 0, (tAt s_T), (tStm s_T)), s_K, (mF σ), (mRow σ), (mRowMany σ), (mLots σ), (mRefused σ))) := hD
      refine lv_iload_n hx hb dX3_court_65 rfl (lv_at hl 1 rfl) ?_
      refine lv_if_ne (tgt := 78) hx hb dX3_court_66 (by decide) (fun c66 => ?_) (fun c66 => ?_)
      · have hv := hv.1 c66
        refine lv_aload_n hx hb dX3_court_78 rfl (lv_at hl 0 rfl) ?_
        refine lv_iconst (v := 1) hx hb dX3_court_79 (by decide) ?_
        refine lv_iconst (v := 1) hx hb dX3_court_80 (by decide) ?_
        have h8 := hv.1
        have hv := hv.2
        have hPc := hP
        have hDc := hD
        refine rw_void (va_runV (As := [.int 1, .int 1]) (rest := []) ⟨hx, hb, hml, hown, hts⟩ (h_X3_passesAll g ad (s_S, ((tTape s_T), (tLetter s_T), (tLetterAt s_T), (tTold s_T), 0, (tAt s_T), (tStm s_T)), s_K, (mF σ), (mRow σ), (mRowMany σ), (mLots σ), (mRefused σ)) 1 1 h8) (cwV 2 hts gX3_court_X3_passesAll rfl rfl rfl (by decide +kernel) ⟨Nat.le_of_ble_eq_true rfl, Nat.le_of_ble_eq_true rfl⟩) ⟨RW_blind, va_recv hK hP (ci := 3) (q0 := 0) rfl rfl, fun U hU hW => ⟨rfl, by rw [hU]; exact hPc, va_K.moved hW.alike hK, hE.call hW hU hS (fun _ h => h), hDc⟩⟩ rfl rfl hl.1 rfl (lv_room (Nat.le_of_ble_eq_true rfl)) dX3_court_81 ⟨Nat.le_of_ble_eq_true rfl, Nat.le_of_ble_eq_true rfl⟩) hS (fun _ h => h) (fun u H1 locs hw hP1 hk hS => ?_)
        subst u
        have hP := hP1
        generalize H1 = H at hP hS ⊢
        have hP : va_P (gD g) vwCl (wM g ad ((if (1 : Int32) = 0 then loadS (kKept s_K) (92 * (1 : Int32)) s_S else s_S), ((tTape s_T), (tLetter s_T), (tLetterAt s_T), (tTold s_T), 0, (tAt s_T), (tStm s_T)), ((if (1 : Int32) = 0 then (kKept s_K) else saveS (kKept s_K) (92 * (1 : Int32)) s_S, (kHas s_K), (1 : Int32), 92 * (1 : Int32) + 92)), (mF σ), (mRow σ), (mRowMany σ), (mLots σ), (mRefused σ))) H := hP
        have hD : va_D (AD ad 0 21) (wM g ad ((if (1 : Int32) = 0 then loadS (kKept s_K) (92 * (1 : Int32)) s_S else s_S), ((tTape s_T), (tLetter s_T), (tLetterAt s_T), (tTold s_T), 0, (tAt s_T), (tStm s_T)), ((if (1 : Int32) = 0 then (kKept s_K) else saveS (kKept s_K) (92 * (1 : Int32)) s_S, (kHas s_K), (1 : Int32), 92 * (1 : Int32) + 92)), (mF σ), (mRow σ), (mRowMany σ), (mLots σ), (mRefused σ))) := hD.addr (by rfl)
        refine lv_iconst (v := 0) hx hb dX3_court_84 (by decide) ?_
        refine lv_istore_n (lv' := [(2, .int 0), (0, .ref (ad 0)), (1, .int x1)]) hx hb dX3_court_85 rfl hl (by decide) rfl (fun ls hl => ?_)
        exact hv H locs ls hP hD hS (lv_sub hl [1, 0] rfl)
      · have hv := hv.2 c66
        refine lv_sipush (v := (-1000)) hx hb dX3_court_69 (by decide) ?_
        refine lv_aload_n hx hb dX3_court_72 rfl (lv_at hl 0 rfl) ?_
        refine va_get (D := gD g) (ci := 3) (v := .int (tAt s_T)) (C := RX3) (T := TX3) (N := 33) hx hb hts hi3 hown hK hP 0 rfl rfl 21 (by decide) k0 (fun _ h9 => h9) rfl dX3_court_73 ?_
        refine lv_isub hx hb dX3_court_76 ?_
        exact W.iret (v := ((-1000) - (tAt s_T))) hx hb hr (fun t ht hW => ⟨⟨((-1000) - (tAt s_T)), (s_S, ((tTape s_T), (tLetter s_T), (tLetterAt s_T), (tTold s_T), 0, (tAt s_T), (tStm s_T)), s_K, (mF σ), (mRow σ), (mRowMany σ), (mLots σ), (mRefused σ)), rfl, hv, P_at ht hP⟩, hS.F ht⟩) hS.2.2 dX3_court_77
    · have hv := hv.2 c13
      refine lv_aload_n hx hb dX3_court_16 rfl (lv_at hl 0 rfl) ?_
      refine va_get (D := gD g) (ci := 3) (v := .int (tAt s_T)) (C := RX3) (T := TX3) (N := 33) hx hb hts hi3 hown hK hP 0 rfl rfl 21 (by decide) k0 (fun _ h9 => h9) rfl dX3_court_17 ?_
      refine lv_aload_n hx hb dX3_court_20 rfl (lv_at hl 0 rfl) ?_
      refine va_get (D := gD g) (ci := 3) (v := .int (tTaped s_T)) (C := RX3) (T := TX3) (N := 33) hx hb hts hi3 hown hK hP 0 rfl rfl 20 (by decide) k2 (fun _ h9 => h9) rfl dX3_court_21 ?_
      refine lv_icmp_lt (tgt := 34) hx hb dX3_court_24 (by decide) (fun c24 => ?_) (fun c24 => ?_)
      · have hv := hv.1 c24
        refine lv_aload_n hx hb dX3_court_34 rfl (lv_at hl 0 rfl) ?_
        have h8 := hv.1
        have hv := hv.2
        have hPc := hP
        have hDc := hD
        refine rw_int (va_runV (As := []) (rest := []) ⟨hx, hb, hml, hown, hts⟩ (h_X3_statement g ad (s_S, s_T, s_K, (mF σ), (mRow σ), (mRowMany σ), (mLots σ), (mRefused σ)) h8) (cwV 0 hts gX3_court_X3_statement rfl rfl rfl (by decide +kernel) ⟨Nat.le_of_ble_eq_true rfl, Nat.le_of_ble_eq_true rfl⟩) ⟨RW_blind, va_recv hK hP (ci := 3) (q0 := 0) rfl rfl, fun U hU hW => ⟨rfl, by rw [hU]; exact hPc, va_K.moved hW.alike hK, hE.call hW hU hS (fun _ h => h), hDc⟩⟩ rfl rfl hl.1 rfl (lv_room (Nat.le_of_ble_eq_true rfl)) dX3_court_35 ⟨Nat.le_of_ble_eq_true rfl, Nat.le_of_ble_eq_true rfl⟩) hS (fun _ h => h) (fun r u H1 locs hw hP1 hk hS => ?_)
        obtain ⟨hw1, hw⟩ := hw; subst r; subst u
        have hP := hP1
        generalize H1 = H at hP hS ⊢
        have hP : va_P (gD g) vwCl (wM g ad (s_S, ((stmT s_T).2), s_K, (mF σ), (mRow σ), (mRowMany σ), (mLots σ), (mRefused σ))) H := hP
        have hD : va_D (AD ad 0 21) (wM g ad (s_S, ((stmT s_T).2), s_K, (mF σ), (mRow σ), (mRowMany σ), (mLots σ), (mRefused σ))) := hD.addr (by rfl)
        refine lv_istore_n (lv' := [(1, .int ((stmT s_T).1)), (0, .ref (ad 0))]) hx hb dX3_court_38 rfl hl (by decide) rfl (fun ls hl => ?_)
        refine lv_aload_n hx hb dX3_court_39 rfl (lv_at hl 1 rfl) ?_
        refine lv_dup hx hb dX3_court_40 rfl ?_
        refine va_get (D := gD g) (ci := 3) (v := .int (tStm ((stmT s_T).2))) (C := RX3) (T := TX3) (N := 33) hx hb hts hi3 hown hK hP 0 rfl rfl 22 (by decide) k1 (fun _ h9 => h9) rfl dX3_court_41 ?_
        refine lv_iload_n hx hb dX3_court_44 rfl (lv_at hl 0 rfl) ?_
        refine lv_if_eq (tgt := 52) hx hb dX3_court_45 (by decide) (fun c45 => ?_) (fun c45 => ?_)
        · have hv := hv.1 c45
          refine lv_iconst (v := 0) hx hb dX3_court_52 (by decide) ?_
          refine lv_iadd hx hb dX3_court_53 ?_
          refine va_put (D := gD g) (ci := 3) (v := .int ((tStm ((stmT s_T).2)) + 0)) (ty := .int) (C := RX3) (T := TX3) (N := 33) hx hb hts hi3 tyX3 tyX3_ok nmX3 hown hK hP hD hS 0 rfl rfl 22 (by decide) k1 (fun _ h9 => h9) rfl (by decide +kernel) rfl rfl (Nat.le_of_ble_eq_true rfl) dX3_court_54 (fun H locs hP hD hS => ?_)
          have hP : va_P (gD g) vwCl (wM g ad (s_S, ((tTape ((stmT s_T).2)), (tLetter ((stmT s_T).2)), (tLetterAt ((stmT s_T).2)), (tTold ((stmT s_T).2)), (tTaped ((stmT s_T).2)), (tAt ((stmT s_T).2)), ((tStm ((stmT s_T).2)) + 0)), s_K, (mF σ), (mRow σ), (mRowMany σ), (mLots σ), (mRefused σ))) H := hP
          have hD : va_D (AD ad 0 21) (wM g ad (s_S, ((tTape ((stmT s_T).2)), (tLetter ((stmT s_T).2)), (tLetterAt ((stmT s_T).2)), (tTold ((stmT s_T).2)), (tTaped ((stmT s_T).2)), (tAt ((stmT s_T).2)), ((tStm ((stmT s_T).2)) + 0)), s_K, (mF σ), (mRow σ), (mRowMany σ), (mLots σ), (mRefused σ))) := hD
          refine lv_goto (tgt := 12) hx hb dX3_court_57 (by decide) ?_
          exact hv H locs ls hP hD hS (lv_sub hl [1, 0] rfl)
        · have hv := hv.2 c45
          refine lv_iconst (v := 1) hx hb dX3_court_48 (by decide) ?_
          refine lv_goto (tgt := 53) hx hb dX3_court_49 (by decide) ?_
          refine lv_iadd hx hb dX3_court_53 ?_
          refine va_put (D := gD g) (ci := 3) (v := .int ((tStm ((stmT s_T).2)) + 1)) (ty := .int) (C := RX3) (T := TX3) (N := 33) hx hb hts hi3 tyX3 tyX3_ok nmX3 hown hK hP hD hS 0 rfl rfl 22 (by decide) k1 (fun _ h9 => h9) rfl (by decide +kernel) rfl rfl (Nat.le_of_ble_eq_true rfl) dX3_court_54 (fun H locs hP hD hS => ?_)
          have hP : va_P (gD g) vwCl (wM g ad (s_S, ((tTape ((stmT s_T).2)), (tLetter ((stmT s_T).2)), (tLetterAt ((stmT s_T).2)), (tTold ((stmT s_T).2)), (tTaped ((stmT s_T).2)), (tAt ((stmT s_T).2)), ((tStm ((stmT s_T).2)) + 1)), s_K, (mF σ), (mRow σ), (mRowMany σ), (mLots σ), (mRefused σ))) H := hP
          have hD : va_D (AD ad 0 21) (wM g ad (s_S, ((tTape ((stmT s_T).2)), (tLetter ((stmT s_T).2)), (tLetterAt ((stmT s_T).2)), (tTold ((stmT s_T).2)), (tTaped ((stmT s_T).2)), (tAt ((stmT s_T).2)), ((tStm ((stmT s_T).2)) + 1)), s_K, (mF σ), (mRow σ), (mRowMany σ), (mLots σ), (mRefused σ))) := hD
          refine lv_goto (tgt := 12) hx hb dX3_court_57 (by decide) ?_
          exact hv H locs ls hP hD hS (lv_sub hl [1, 0] rfl)
      · have hv := hv.2 c24
        refine lv_aload_n hx hb dX3_court_27 rfl (lv_at hl 0 rfl) ?_
        refine va_get (D := gD g) (ci := 3) (v := .int (tStm s_T)) (C := RX3) (T := TX3) (N := 33) hx hb hts hi3 hown hK hP 0 rfl rfl 22 (by decide) k1 (fun _ h9 => h9) rfl dX3_court_28 ?_
        refine lv_if_ne (tgt := 60) hx hb dX3_court_31 (by decide) (fun c31 => ?_) (fun c31 => ?_)
        · have hv := hv.1 c31
          refine lv_aload_n hx hb dX3_court_60 rfl (lv_at hl 0 rfl) ?_
          refine lv_iconst (v := 0) hx hb dX3_court_61 (by decide) ?_
          refine va_put (D := gD g) (ci := 3) (v := .int 0) (ty := .int) (C := RX3) (T := TX3) (N := 33) hx hb hts hi3 tyX3 tyX3_ok nmX3 hown hK hP hD hS 0 rfl rfl 20 (by decide) k2 (fun _ h9 => h9) rfl (by decide +kernel) rfl rfl (Nat.le_of_ble_eq_true rfl) dX3_court_62 (fun H locs hP hD hS => ?_)
          have hP : va_P (gD g) vwCl (wM g ad (s_S, ((tTape s_T), (tLetter s_T), (tLetterAt s_T), (tTold s_T), 0, (tAt s_T), (tStm s_T)), s_K, (mF σ), (mRow σ), (mRowMany σ), (mLots σ), (mRefused σ))) H := hP
          have hD : va_D (AD ad 0 21) (wM g ad (s_S, ((tTape s_T), (tLetter s_T), (tLetterAt s_T), (tTold s_T), 0, (tAt s_T), (tStm s_T)), s_K, (mF σ), (mRow σ), (mRowMany σ), (mLots σ), (mRefused σ))) := hD
          refine lv_iload_n hx hb dX3_court_65 rfl (lv_at hl 1 rfl) ?_
          refine lv_if_ne (tgt := 78) hx hb dX3_court_66 (by decide) (fun c66 => ?_) (fun c66 => ?_)
          · have hv := hv.1 c66
            refine lv_aload_n hx hb dX3_court_78 rfl (lv_at hl 0 rfl) ?_
            refine lv_iconst (v := 1) hx hb dX3_court_79 (by decide) ?_
            refine lv_iconst (v := 1) hx hb dX3_court_80 (by decide) ?_
            have h8 := hv.1
            have hv := hv.2
            have hPc := hP
            have hDc := hD
            refine rw_void (va_runV (As := [.int 1, .int 1]) (rest := []) ⟨hx, hb, hml, hown, hts⟩ (h_X3_passesAll g ad (s_S, ((tTape s_T), (tLetter s_T), (tLetterAt s_T), (tTold s_T), 0, (tAt s_T), (tStm s_T)), s_K, (mF σ), (mRow σ), (mRowMany σ), (mLots σ), (mRefused σ)) 1 1 h8) (cwV 2 hts gX3_court_X3_passesAll rfl rfl rfl (by decide +kernel) ⟨Nat.le_of_ble_eq_true rfl, Nat.le_of_ble_eq_true rfl⟩) ⟨RW_blind, va_recv hK hP (ci := 3) (q0 := 0) rfl rfl, fun U hU hW => ⟨rfl, by rw [hU]; exact hPc, va_K.moved hW.alike hK, hE.call hW hU hS (fun _ h => h), hDc⟩⟩ rfl rfl hl.1 rfl (lv_room (Nat.le_of_ble_eq_true rfl)) dX3_court_81 ⟨Nat.le_of_ble_eq_true rfl, Nat.le_of_ble_eq_true rfl⟩) hS (fun _ h => h) (fun u H1 locs hw hP1 hk hS => ?_)
            subst u
            have hP := hP1
            generalize H1 = H at hP hS ⊢
            have hP : va_P (gD g) vwCl (wM g ad ((if (1 : Int32) = 0 then loadS (kKept s_K) (92 * (1 : Int32)) s_S else s_S), ((tTape s_T), (tLetter s_T), (tLetterAt s_T), (tTold s_T), 0, (tAt s_T), (tStm s_T)), ((if (1 : Int32) = 0 then (kKept s_K) else saveS (kKept s_K) (92 * (1 : Int32)) s_S, (kHas s_K), (1 : Int32), 92 * (1 : Int32) + 92)), (mF σ), (mRow σ), (mRowMany σ), (mLots σ), (mRefused σ))) H := hP
            have hD : va_D (AD ad 0 21) (wM g ad ((if (1 : Int32) = 0 then loadS (kKept s_K) (92 * (1 : Int32)) s_S else s_S), ((tTape s_T), (tLetter s_T), (tLetterAt s_T), (tTold s_T), 0, (tAt s_T), (tStm s_T)), ((if (1 : Int32) = 0 then (kKept s_K) else saveS (kKept s_K) (92 * (1 : Int32)) s_S, (kHas s_K), (1 : Int32), 92 * (1 : Int32) + 92)), (mF σ), (mRow σ), (mRowMany σ), (mLots σ), (mRefused σ))) := hD.addr (by rfl)
            refine lv_iconst (v := 0) hx hb dX3_court_84 (by decide) ?_
            refine lv_istore_n (lv' := [(2, .int 0), (0, .ref (ad 0)), (1, .int x1)]) hx hb dX3_court_85 rfl hl (by decide) rfl (fun ls hl => ?_)
            exact hv H locs ls hP hD hS (lv_sub hl [1, 0] rfl)
          · have hv := hv.2 c66
            refine lv_sipush (v := (-1000)) hx hb dX3_court_69 (by decide) ?_
            refine lv_aload_n hx hb dX3_court_72 rfl (lv_at hl 0 rfl) ?_
            refine va_get (D := gD g) (ci := 3) (v := .int (tAt s_T)) (C := RX3) (T := TX3) (N := 33) hx hb hts hi3 hown hK hP 0 rfl rfl 21 (by decide) k0 (fun _ h9 => h9) rfl dX3_court_73 ?_
            refine lv_isub hx hb dX3_court_76 ?_
            exact W.iret (v := ((-1000) - (tAt s_T))) hx hb hr (fun t ht hW => ⟨⟨((-1000) - (tAt s_T)), (s_S, ((tTape s_T), (tLetter s_T), (tLetterAt s_T), (tTold s_T), 0, (tAt s_T), (tStm s_T)), s_K, (mF σ), (mRow σ), (mRowMany σ), (mLots σ), (mRefused σ)), rfl, hv, P_at ht hP⟩, hS.F ht⟩) hS.2.2 dX3_court_77
        · have hv := hv.2 c31
          refine lv_aload_n hx hb dX3_court_34 rfl (lv_at hl 0 rfl) ?_
          have h8 := hv.1
          have hv := hv.2
          have hPc := hP
          have hDc := hD
          refine rw_int (va_runV (As := []) (rest := []) ⟨hx, hb, hml, hown, hts⟩ (h_X3_statement g ad (s_S, s_T, s_K, (mF σ), (mRow σ), (mRowMany σ), (mLots σ), (mRefused σ)) h8) (cwV 0 hts gX3_court_X3_statement rfl rfl rfl (by decide +kernel) ⟨Nat.le_of_ble_eq_true rfl, Nat.le_of_ble_eq_true rfl⟩) ⟨RW_blind, va_recv hK hP (ci := 3) (q0 := 0) rfl rfl, fun U hU hW => ⟨rfl, by rw [hU]; exact hPc, va_K.moved hW.alike hK, hE.call hW hU hS (fun _ h => h), hDc⟩⟩ rfl rfl hl.1 rfl (lv_room (Nat.le_of_ble_eq_true rfl)) dX3_court_35 ⟨Nat.le_of_ble_eq_true rfl, Nat.le_of_ble_eq_true rfl⟩) hS (fun _ h => h) (fun r u H1 locs hw hP1 hk hS => ?_)
          obtain ⟨hw1, hw⟩ := hw; subst r; subst u
          have hP := hP1
          generalize H1 = H at hP hS ⊢
          have hP : va_P (gD g) vwCl (wM g ad (s_S, ((stmT s_T).2), s_K, (mF σ), (mRow σ), (mRowMany σ), (mLots σ), (mRefused σ))) H := hP
          have hD : va_D (AD ad 0 21) (wM g ad (s_S, ((stmT s_T).2), s_K, (mF σ), (mRow σ), (mRowMany σ), (mLots σ), (mRefused σ))) := hD.addr (by rfl)
          refine lv_istore_n (lv' := [(1, .int ((stmT s_T).1)), (0, .ref (ad 0))]) hx hb dX3_court_38 rfl hl (by decide) rfl (fun ls hl => ?_)
          refine lv_aload_n hx hb dX3_court_39 rfl (lv_at hl 1 rfl) ?_
          refine lv_dup hx hb dX3_court_40 rfl ?_
          refine va_get (D := gD g) (ci := 3) (v := .int (tStm ((stmT s_T).2))) (C := RX3) (T := TX3) (N := 33) hx hb hts hi3 hown hK hP 0 rfl rfl 22 (by decide) k1 (fun _ h9 => h9) rfl dX3_court_41 ?_
          refine lv_iload_n hx hb dX3_court_44 rfl (lv_at hl 0 rfl) ?_
          refine lv_if_eq (tgt := 52) hx hb dX3_court_45 (by decide) (fun c45 => ?_) (fun c45 => ?_)
          · have hv := hv.1 c45
            refine lv_iconst (v := 0) hx hb dX3_court_52 (by decide) ?_
            refine lv_iadd hx hb dX3_court_53 ?_
            refine va_put (D := gD g) (ci := 3) (v := .int ((tStm ((stmT s_T).2)) + 0)) (ty := .int) (C := RX3) (T := TX3) (N := 33) hx hb hts hi3 tyX3 tyX3_ok nmX3 hown hK hP hD hS 0 rfl rfl 22 (by decide) k1 (fun _ h9 => h9) rfl (by decide +kernel) rfl rfl (Nat.le_of_ble_eq_true rfl) dX3_court_54 (fun H locs hP hD hS => ?_)
            have hP : va_P (gD g) vwCl (wM g ad (s_S, ((tTape ((stmT s_T).2)), (tLetter ((stmT s_T).2)), (tLetterAt ((stmT s_T).2)), (tTold ((stmT s_T).2)), (tTaped ((stmT s_T).2)), (tAt ((stmT s_T).2)), ((tStm ((stmT s_T).2)) + 0)), s_K, (mF σ), (mRow σ), (mRowMany σ), (mLots σ), (mRefused σ))) H := hP
            have hD : va_D (AD ad 0 21) (wM g ad (s_S, ((tTape ((stmT s_T).2)), (tLetter ((stmT s_T).2)), (tLetterAt ((stmT s_T).2)), (tTold ((stmT s_T).2)), (tTaped ((stmT s_T).2)), (tAt ((stmT s_T).2)), ((tStm ((stmT s_T).2)) + 0)), s_K, (mF σ), (mRow σ), (mRowMany σ), (mLots σ), (mRefused σ))) := hD
            refine lv_goto (tgt := 12) hx hb dX3_court_57 (by decide) ?_
            exact hv H locs ls hP hD hS (lv_sub hl [1, 0] rfl)
          · have hv := hv.2 c45
            refine lv_iconst (v := 1) hx hb dX3_court_48 (by decide) ?_
            refine lv_goto (tgt := 53) hx hb dX3_court_49 (by decide) ?_
            refine lv_iadd hx hb dX3_court_53 ?_
            refine va_put (D := gD g) (ci := 3) (v := .int ((tStm ((stmT s_T).2)) + 1)) (ty := .int) (C := RX3) (T := TX3) (N := 33) hx hb hts hi3 tyX3 tyX3_ok nmX3 hown hK hP hD hS 0 rfl rfl 22 (by decide) k1 (fun _ h9 => h9) rfl (by decide +kernel) rfl rfl (Nat.le_of_ble_eq_true rfl) dX3_court_54 (fun H locs hP hD hS => ?_)
            have hP : va_P (gD g) vwCl (wM g ad (s_S, ((tTape ((stmT s_T).2)), (tLetter ((stmT s_T).2)), (tLetterAt ((stmT s_T).2)), (tTold ((stmT s_T).2)), (tTaped ((stmT s_T).2)), (tAt ((stmT s_T).2)), ((tStm ((stmT s_T).2)) + 1)), s_K, (mF σ), (mRow σ), (mRowMany σ), (mLots σ), (mRefused σ))) H := hP
            have hD : va_D (AD ad 0 21) (wM g ad (s_S, ((tTape ((stmT s_T).2)), (tLetter ((stmT s_T).2)), (tLetterAt ((stmT s_T).2)), (tTold ((stmT s_T).2)), (tTaped ((stmT s_T).2)), (tAt ((stmT s_T).2)), ((tStm ((stmT s_T).2)) + 1)), s_K, (mF σ), (mRow σ), (mRowMany σ), (mLots σ), (mRefused σ))) := hD
            refine lv_goto (tgt := 12) hx hb dX3_court_57 (by decide) ?_
            exact hv H locs ls hP hD hS (lv_sub hl [1, 0] rfl))
  have hv := hv (by
    intro x2 s_K s_S s_T hv H locs ls hP hD hS hl
    refine lv_iload_n hx hb dX3_court_86 rfl (lv_at hl 1 rfl) ?_
    refine lv_aload_n hx hb dX3_court_87 rfl (lv_at hl 0 rfl) ?_
    refine va_get (D := gD g) (ci := 3) (v := .int (tStm s_T)) (C := RX3) (T := TX3) (N := 33) hx hb hts hi3 hown hK hP 0 rfl rfl 22 (by decide) k1 (fun _ h9 => h9) rfl dX3_court_88 ?_
    refine lv_icmp_ge (tgt := 128) hx hb dX3_court_91 (by decide) (fun c91 => ?_) (fun c91 => ?_)
    · have hv := hv.1 c91
      refine lv_aload_n hx hb dX3_court_128 rfl (lv_at hl 0 rfl) ?_
      refine va_get (D := gD g) (ci := 3) (v := .int (tStm s_T)) (C := RX3) (T := TX3) (N := 33) hx hb hts hi3 hown hK hP 0 rfl rfl 22 (by decide) k1 (fun _ h9 => h9) rfl dX3_court_129 ?_
      exact W.iret (v := (tStm s_T)) hx hb hr (fun t ht hW => ⟨⟨(tStm s_T), (s_S, s_T, s_K, (mF σ), (mRow σ), (mRowMany σ), (mLots σ), (mRefused σ)), rfl, hv, P_at ht hP⟩, hS.F ht⟩) hS.2.2 dX3_court_132
    · have hv := hv.2 c91
      refine lv_aload_n hx hb dX3_court_94 rfl (lv_at hl 0 rfl) ?_
      refine lv_iload_n hx hb dX3_court_95 rfl (lv_at hl 1 rfl) ?_
      have h8 := hv.1
      have hv := hv.2
      have hPc := hP
      have hDc := hD
      refine rw_int (va_runV (As := [.int x2]) (rest := []) ⟨hx, hb, hml, hown, hts⟩ (h_X3_comes g ad (s_S, s_T, s_K, (mF σ), (mRow σ), (mRowMany σ), (mLots σ), (mRefused σ)) x2 h8) (cwV 1 hts gX3_court_X3_comes rfl rfl rfl (by decide +kernel) ⟨Nat.le_of_ble_eq_true rfl, Nat.le_of_ble_eq_true rfl⟩) ⟨RW_blind, va_recv hK hP (ci := 3) (q0 := 0) rfl rfl, fun U hU hW => ⟨rfl, by rw [hU]; exact hPc, va_K.moved hW.alike hK, hE.call hW hU hS (fun _ h => h), hDc⟩⟩ rfl rfl hl.1 rfl (lv_room (Nat.le_of_ble_eq_true rfl)) dX3_court_96 ⟨Nat.le_of_ble_eq_true rfl, Nat.le_of_ble_eq_true rfl⟩) hS (fun _ h => h) (fun r u H1 locs hw hP1 hk hS => ?_)
      obtain ⟨hw1, hw⟩ := hw; subst r; subst u
      have hP := hP1
      generalize H1 = H at hP hS ⊢
      have hP : va_P (gD g) vwCl (wM g ad (((comesI s_T s_S x2).2), s_T, s_K, (mF σ), (mRow σ), (mRowMany σ), (mLots σ), (mRefused σ))) H := hP
      have hD : va_D (AD ad 0 21) (wM g ad (((comesI s_T s_S x2).2), s_T, s_K, (mF σ), (mRow σ), (mRowMany σ), (mLots σ), (mRefused σ))) := hD.addr (by rfl)
      refine lv_if_eq (tgt := 105) hx hb dX3_court_99 (by decide) (fun c99 => ?_) (fun c99 => ?_)
      · have hv := hv.1 c99
        refine lv_aload_n hx hb dX3_court_105 rfl (lv_at hl 0 rfl) ?_
        refine lv_iconst (v := 1) hx hb dX3_court_106 (by decide) ?_
        refine lv_iconst (v := 0) hx hb dX3_court_107 (by decide) ?_
        have h8 := hv.1
        have hv := hv.2
        have hPc := hP
        have hDc := hD
        refine rw_void (va_runV (As := [.int 1, .int 0]) (rest := []) ⟨hx, hb, hml, hown, hts⟩ (h_X3_passesAll g ad (((comesI s_T s_S x2).2), s_T, s_K, (mF σ), (mRow σ), (mRowMany σ), (mLots σ), (mRefused σ)) 1 0 h8) (cwV 2 hts gX3_court_X3_passesAll rfl rfl rfl (by decide +kernel) ⟨Nat.le_of_ble_eq_true rfl, Nat.le_of_ble_eq_true rfl⟩) ⟨RW_blind, va_recv hK hP (ci := 3) (q0 := 0) rfl rfl, fun U hU hW => ⟨rfl, by rw [hU]; exact hPc, va_K.moved hW.alike hK, hE.call hW hU hS (fun _ h => h), hDc⟩⟩ rfl rfl hl.1 rfl (lv_room (Nat.le_of_ble_eq_true rfl)) dX3_court_108 ⟨Nat.le_of_ble_eq_true rfl, Nat.le_of_ble_eq_true rfl⟩) hS (fun _ h => h) (fun u H1 locs hw hP1 hk hS => ?_)
        subst u
        have hP := hP1
        generalize H1 = H at hP hS ⊢
        have hP : va_P (gD g) vwCl (wM g ad ((if (0 : Int32) = 0 then loadS (kKept s_K) (92 * (1 : Int32)) ((comesI s_T s_S x2).2) else ((comesI s_T s_S x2).2)), s_T, ((if (0 : Int32) = 0 then (kKept s_K) else saveS (kKept s_K) (92 * (1 : Int32)) ((comesI s_T s_S x2).2), (kHas s_K), (0 : Int32), 92 * (1 : Int32) + 92)), (mF σ), (mRow σ), (mRowMany σ), (mLots σ), (mRefused σ))) H := hP
        have hD : va_D (AD ad 0 21) (wM g ad ((if (0 : Int32) = 0 then loadS (kKept s_K) (92 * (1 : Int32)) ((comesI s_T s_S x2).2) else ((comesI s_T s_S x2).2)), s_T, ((if (0 : Int32) = 0 then (kKept s_K) else saveS (kKept s_K) (92 * (1 : Int32)) ((comesI s_T s_S x2).2), (kHas s_K), (0 : Int32), 92 * (1 : Int32) + 92)), (mF σ), (mRow σ), (mRowMany σ), (mLots σ), (mRefused σ))) := hD.addr (by rfl)
        refine lv_sipush (v := (-2000)) hx hb dX3_court_111 (by decide) ?_
        refine lv_aload_n hx hb dX3_court_114 rfl (lv_at hl 0 rfl) ?_
        refine va_get (D := gD g) (ci := 3) (v := .ref (ad 14)) (C := RX3) (T := TX3) (N := 33) hx hb hts hi3 hown hK hP 0 rfl rfl 18 (by decide) k3 (fun _ h9 => h9) rfl dX3_court_115 ?_
        refine lv_iload_n hx hb dX3_court_118 rfl (lv_at hl 1 rfl) ?_
        have h9 := hv.1
        have hv := hv.2
        refine va_iald (f := (tLetterAt s_T)) (n := 48) hx hb hK hP 14 0 rfl rfl h9 dX3_court_119 ?_
        refine lv_isub hx hb dX3_court_120 ?_
        exact W.iret (v := ((-2000) - ((tLetterAt s_T) (x2).toNatClampNeg))) hx hb hr (fun t ht hW => ⟨⟨((-2000) - ((tLetterAt s_T) (x2).toNatClampNeg)), ((if (0 : Int32) = 0 then loadS (kKept s_K) (92 * (1 : Int32)) ((comesI s_T s_S x2).2) else ((comesI s_T s_S x2).2)), s_T, ((if (0 : Int32) = 0 then (kKept s_K) else saveS (kKept s_K) (92 * (1 : Int32)) ((comesI s_T s_S x2).2), (kHas s_K), (0 : Int32), 92 * (1 : Int32) + 92)), (mF σ), (mRow σ), (mRowMany σ), (mLots σ), (mRefused σ)), rfl, hv, P_at ht hP⟩, hS.F ht⟩) hS.2.2 dX3_court_121
      · have hv := hv.2 c99
        refine lv_goto (tgt := 122) hx hb dX3_court_102 (by decide) ?_
        refine lv_iinc (v := (x2 + 1)) (lv' := [(2, .int (x2 + 1)), (0, .ref (ad 0))]) hx hb dX3_court_122 hl (k := 1) rfl (by first | rfl | exact congrArg _ (by decide)) (by decide) rfl (fun ls hl => ?_)
        refine lv_goto (tgt := 86) hx hb dX3_court_125 (by decide) ?_
        exact hv H locs ls hP hD hS (lv_sub hl [1, 0] rfl))
  obtain ⟨H, hH⟩ : ∃ z, z = s.heap := ⟨_, rfl⟩
  obtain ⟨locs, hL⟩ : ∃ z : List Loc, z = [] := ⟨_, rfl⟩
  rw [← hL] at hS ⊢
  have hS : va_S (AD ad 0 21) s.heap H locs := by rw [hH]; exact hS
  rw [← hH] at hP ⊢
  clear hH hL
  refine lv_aload_n hx hb dX3_court_0 rfl (lv_at hl 0 rfl) ?_
  refine lv_iconst (v := 0) hx hb dX3_court_1 (by decide) ?_
  refine va_put (D := gD g) (ci := 3) (v := .int 0) (ty := .int) (C := RX3) (T := TX3) (N := 33) hx hb hts hi3 tyX3 tyX3_ok nmX3 hown hK hP hD hS 0 rfl rfl 21 (by decide) k0 (fun _ h9 => h9) rfl (by decide +kernel) rfl rfl (Nat.le_of_ble_eq_true rfl) dX3_court_2 (fun H locs hP hD hS => ?_)
  have hP : va_P (gD g) vwCl (wM g ad ((mS σ), ((tTape (mT σ)), (tLetter (mT σ)), (tLetterAt (mT σ)), (tTold (mT σ)), (tTaped (mT σ)), 0, (tStm (mT σ))), (mK σ), (mF σ), (mRow σ), (mRowMany σ), (mLots σ), (mRefused σ))) H := hP
  have hD : va_D (AD ad 0 21) (wM g ad ((mS σ), ((tTape (mT σ)), (tLetter (mT σ)), (tLetterAt (mT σ)), (tTold (mT σ)), (tTaped (mT σ)), 0, (tStm (mT σ))), (mK σ), (mF σ), (mRow σ), (mRowMany σ), (mLots σ), (mRefused σ))) := hD
  refine lv_aload_n hx hb dX3_court_5 rfl (lv_at hl 0 rfl) ?_
  refine lv_iconst (v := 0) hx hb dX3_court_6 (by decide) ?_
  refine va_put (D := gD g) (ci := 3) (v := .int 0) (ty := .int) (C := RX3) (T := TX3) (N := 33) hx hb hts hi3 tyX3 tyX3_ok nmX3 hown hK hP hD hS 0 rfl rfl 22 (by decide) k1 (fun _ h9 => h9) rfl (by decide +kernel) rfl rfl (Nat.le_of_ble_eq_true rfl) dX3_court_7 (fun H locs hP hD hS => ?_)
  have hP : va_P (gD g) vwCl (wM g ad ((mS σ), ((tTape (mT σ)), (tLetter (mT σ)), (tLetterAt (mT σ)), (tTold (mT σ)), (tTaped (mT σ)), 0, 0), (mK σ), (mF σ), (mRow σ), (mRowMany σ), (mLots σ), (mRefused σ))) H := hP
  have hD : va_D (AD ad 0 21) (wM g ad ((mS σ), ((tTape (mT σ)), (tLetter (mT σ)), (tLetterAt (mT σ)), (tTold (mT σ)), (tTaped (mT σ)), 0, 0), (mK σ), (mF σ), (mRow σ), (mRowMany σ), (mLots σ), (mRefused σ))) := hD
  refine lv_iconst (v := 1) hx hb dX3_court_10 (by decide) ?_
  refine lv_istore_n (lv' := [(1, .int 1), (0, .ref (ad 0))]) hx hb dX3_court_11 rfl hl (by decide) rfl (fun ls hl => ?_)
  exact hv H locs ls hP hD hS (lv_sub hl [1, 0] rfl)

