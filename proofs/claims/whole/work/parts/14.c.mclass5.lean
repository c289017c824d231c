set_option maxHeartbeats 4000000 in
set_option maxRecDepth 100000 in
theorem m_X2_talker (l : Launch) (h_X0_answersOf : C_X0_answersOf l) (g : CX) (ad : Nat → Nat) (σ : KX)  (Post : Int32 → Prop) (hv : vc_X2_talker σ Post) : Met l yX2_talker wsX2_talker { frames := 1, cells := 0, slots := 0, locals := 23 } (va_Pc [.ref (ad 0)] (RO g (wX g ad σ))) (va_Qi (fun r (_ : Unit) => Post r) (fun _ _ => True) A0) 0 0 A0 := by
  unfold vc_X2_talker at hv
  refine Met.ofW (cc := cX2_talker) (maxL := 5) (ret := (some .int)) (by decide) rfl ?_
  intro p e s m args below meth c s₁ B hml hv0
  obtain ⟨rfl, hP, hK, hE⟩ := hv0
  have hx := B.exec
  have hb := B.bytes
  have hr := B.returns
  have hts := atoms_spec (ws := wsX2_talker) B.pre
  have hown : s.vm.findClass RX2 = some m.cls := findClass_of_methodNamed B.named
  have hlocks := B.notSynchronized
  have hi0 : ∀ w ∈ wsX00, w ∈ wsX2_talker := by decide +kernel
  have hi2 : ∀ w ∈ wsX20, w ∈ wsX2_talker := by decide +kernel
  have k0 := hts (.fieldLink RX2 10 "JuryHearsAnswers" "now" "LJuryHearsAnswers$Court;") (by decide +kernel)
  have k1 := hts (.fieldLink RX2 152 "JuryHearsAnswers$Court" "witnesses" "I") (by decide +kernel)
  have hS : va_S A0 s.heap s.heap [] := va_S.rf
  have hP : va_P (gD g) vwCl (wX g ad σ) s.heap := hP
  have hl := lv_entry ([.ref (ad 0)]) (n := 5) (Nat.le_of_ble_eq_true rfl)
  rw [lg_entry_eq]
  generalize (lg_sl ([.ref (ad 0)]) ++ List.replicate (5 - (lg_sl ([.ref (ad 0)])).length) Slot.unset).toArray = ls at hl ⊢
  have hl : lv_has ls 5 [(0, .ref (ad 0))] := hl
  have hv := hv (fun (x1 : Int32) (x2 : Int32) (x3 : Int32) => ∀ (H : Heap) (locs : List Loc) (ls : Array Slot), va_P (gD g) vwCl (wX g ad σ) H → va_S A0 s.heap H locs → lv_has ls 5 [(0, .ref (ad 0)), (1, .int x1), (2, .int x2), (3, .int x3)] → W p l e { frames := 1, cells := 0, slots := 0, locals := 23 } s m ([.ref (ad 0)] : List Value).toArray below meth c H locs 0 0 (MQ below (va_Qi (fun r (_ : Unit) => Post r) (fun _ _ => True) A0) ([.ref (ad 0)] : List Value).toArray s 0 0 A0) (F0 m 7 ls []))
  have hv := hv (by
    intro x1 x2 x3 hv H locs ls hP hS hl
    refine lv_iload_n hx hb dX2_talker_7 rfl (lv_at hl 3 rfl) ?_
    refine lv_aload_n hx hb dX2_talker_8 rfl (lv_at hl 0 rfl) ?_
    refine va_get (D := gD g) (ci := 2) (v := .ref (ad 4)) (C := RX2) (T := TX2) (N := 9) hx hb hts hi2 hown hK hP 0 rfl rfl 0 (by decide) k0 (fun _ h9 => h9) rfl dX2_talker_9 ?_
    refine va_get (D := gD g) (ci := 0) (v := .int (sNw (cS (xNow σ)))) (C := RX0) (T := TX0) (N := 17) hx hb hts hi0 hown hK hP 4 rfl rfl 3 (by decide) k1 (fun _ h9 => h9) rfl dX2_talker_12 ?_
    refine lv_icmp_ge (tgt := 45) hx hb dX2_talker_15 (by decide) (fun c15 => ?_) (fun c15 => ?_)
    · have hv := hv.1 c15
      refine lv_iload_n hx hb dX2_talker_45 rfl (lv_at hl 2 rfl) ?_
      exact W.iret (v := x2) hx hb hr (fun t ht hW => ⟨⟨x2, (), rfl, hv, trivial⟩, hS.F ht⟩) hS.2.2 dX2_talker_46
    · have hv := hv.2 c15
      refine lv_aload_n hx hb dX2_talker_18 rfl (lv_at hl 0 rfl) ?_
      refine va_get (D := gD g) (ci := 2) (v := .ref (ad 4)) (C := RX2) (T := TX2) (N := 9) hx hb hts hi2 hown hK hP 0 rfl rfl 0 (by decide) k0 (fun _ h9 => h9) rfl dX2_talker_19 ?_
      refine lv_iload_n hx hb dX2_talker_22 rfl (lv_at hl 3 rfl) ?_
      have h8 := hv.1
      have hv := hv.2
      have hPc : va_P (gD g) vwCl (wC g ad 4 (xNow σ)) H := hP.sub [4, 5, 6, 7, 8, 9, 10, 11, 12, 13, 14, 15, 16] rfl
      refine ro_int (va_runV (As := [.int x3]) (rest := []) ⟨hx, hb, hml, hown, hts⟩ (h_X0_answersOf g ad 4 (xNow σ) x3 h8) (cwV 1 hts gX2_talker_X0_answersOf rfl rfl rfl (by decide +kernel) ⟨Nat.le_of_ble_eq_true rfl, Nat.le_of_ble_eq_true rfl⟩) ⟨RO_blind, va_recv hK hP (ci := 0) (q0 := 4) rfl rfl, fun U hU hW => ⟨rfl, by rw [hU]; exact hPc, va_K.moved hW.alike hK, hE.call hW hU hS (fun _ h => h.elim)⟩⟩ rfl rfl hl.1 rfl (lv_room (Nat.le_of_ble_eq_true rfl)) dX2_talker_23 ⟨Nat.le_of_ble_eq_true rfl, Nat.le_of_ble_eq_true rfl⟩) hS hP (fun r H locs hw hP hS => ?_)
      subst r
      refine lv_istore (lv' := [(4, .int (answersOfI (cS (xNow σ)) x3)), (0, .ref (ad 0)), (1, .int x1), (2, .int x2), (3, .int x3)]) hx hb dX2_talker_26 hl (by decide) rfl (fun ls hl => ?_)
      refine lv_iload hx hb dX2_talker_28 (lv_at hl 0 rfl) ?_
      refine lv_iload_n hx hb dX2_talker_30 rfl (lv_at hl 2 rfl) ?_
      refine lv_icmp_le (tgt := 39) hx hb dX2_talker_31 (by decide) (fun c31 => ?_) (fun c31 => ?_)
      · have hv := hv.1 c31
        refine lv_iinc (v := (x3 + 1)) (lv' := [(3, .int (x3 + 1)), (4, .int (answersOfI (cS (xNow σ)) x3)), (0, .ref (ad 0)), (1, .int x1), (2, .int x2)]) hx hb dX2_talker_39 hl (k := 4) rfl (by first | rfl | exact congrArg _ (by decide)) (by decide) rfl (fun ls hl => ?_)
        refine lv_goto (tgt := 7) hx hb dX2_talker_42 (by decide) ?_
        exact hv H locs ls hP hS (lv_sub hl [2, 3, 4, 0] rfl)
      · have hv := hv.2 c31
        refine lv_iload hx hb dX2_talker_34 (lv_at hl 0 rfl) ?_
        refine lv_istore_n (lv' := [(1, .int (answersOfI (cS (xNow σ)) x3)), (4, .int (answersOfI (cS (xNow σ)) x3)), (0, .ref (ad 0)), (2, .int x2), (3, .int x3)]) hx hb dX2_talker_36 rfl hl (by decide) rfl (fun ls hl => ?_)
        refine lv_iload_n hx hb dX2_talker_37 rfl (lv_at hl 4 rfl) ?_
        refine lv_istore_n (lv' := [(2, .int x3), (1, .int (answersOfI (cS (xNow σ)) x3)), (4, .int (answersOfI (cS (xNow σ)) x3)), (0, .ref (ad 0)), (3, .int x3)]) hx hb dX2_talker_38 rfl hl (by decide) rfl (fun ls hl => ?_)
        refine lv_iinc (v := (x3 + 1)) (lv' := [(3, .int (x3 + 1)), (2, .int x3), (1, .int (answersOfI (cS (xNow σ)) x3)), (4, .int (answersOfI (cS (xNow σ)) x3)), (0, .ref (ad 0))]) hx hb dX2_talker_39 hl (k := 4) rfl (by first | rfl | exact congrArg _ (by decide)) (by decide) rfl (fun ls hl => ?_)
        refine lv_goto (tgt := 7) hx hb dX2_talker_42 (by decide) ?_
        exact hv H locs ls hP hS (lv_sub hl [4, 2, 1, 0] rfl))
  obtain ⟨H, hH⟩ : ∃ z, z = s.heap := ⟨_, rfl⟩
  obtain ⟨locs, hL⟩ : ∃ z : List Loc, z = [] := ⟨_, rfl⟩
  rw [← hL] at hS ⊢
  have hS : va_S A0 s.heap H locs := by rw [hH]; exact hS
  rw [← hH] at hP ⊢
  clear hH hL
  refine lv_iconst (v := 0) hx hb dX2_talker_0 (by decide) ?_
  refine lv_istore_n (lv' := [(1, .int 0), (0, .ref (ad 0))]) hx hb dX2_talker_1 rfl hl (by decide) rfl (fun ls hl => ?_)
  refine lv_bipush (v := (-9)) hx hb dX2_talker_2 (by decide) ?_
  refine lv_istore_n (lv' := [(2, .int (-9)), (1, .int 0), (0, .ref (ad 0))]) hx hb dX2_talker_4 rfl hl (by decide) rfl (fun ls hl => ?_)
  refine lv_iconst (v := 0) hx hb dX2_talker_5 (by decide) ?_
  refine lv_istore_n (lv' := [(3, .int 0), (2, .int (-9)), (1, .int 0), (0, .ref (ad 0))]) hx hb dX2_talker_6 rfl hl (by decide) rfl (fun ls hl => ?_)
  exact hv H locs ls hP hS (lv_sub hl [3, 2, 1, 0] rfl)

set_option maxHeartbeats 4000000 in
set_option maxRecDepth 100000 in
theorem m_X2_hidden (l : Launch) (h_X2_isHidden : C_X2_isHidden l) (g : CX) (ad : Nat → Nat) (σ : KX)  (Post : Int32 → Prop) (hv : vc_X2_hidden σ Post) : Met l yX2_hidden wsX2_hidden { frames := 4, cells := 0, slots := 0, locals := 92 } (va_Pc [.ref (ad 0)] (RO g (wX g ad σ))) (va_Qi (fun r (_ : Unit) => Post r) (fun _ _ => True) A0) 0 0 A0 := by
  unfold vc_X2_hidden at hv
  refine Met.ofW (cc := cX2_hidden) (maxL := 3) (ret := (some .int)) (by decide) rfl ?_
  intro p e s m args below meth c s₁ B hml hv0
  obtain ⟨rfl, hP, hK, hE⟩ := hv0
  have hx := B.exec
  have hb := B.bytes
  have hr := B.returns
  have hts := atoms_spec (ws := wsX2_hidden) B.pre
  have hown : s.vm.findClass RX2 = some m.cls := findClass_of_methodNamed B.named
  have hlocks := B.notSynchronized
  have hi0 : ∀ w ∈ wsX00, w ∈ wsX2_hidden := by decide +kernel
  have hi2 : ∀ w ∈ wsX20, w ∈ wsX2_hidden := by decide +kernel
  have k0 := hts (.fieldLink RX2 10 "JuryHearsAnswers" "now" "LJuryHearsAnswers$Court;") (by decide +kernel)
  have k1 := hts (.fieldLink RX2 179 "JuryHearsAnswers$Court" "questions" "I") (by decide +kernel)
  have hS : va_S A0 s.heap s.heap [] := va_S.rf
  have hP : va_P (gD g) vwCl (wX g ad σ) s.heap := hP
  have hl := lv_entry ([.ref (ad 0)]) (n := 3) (Nat.le_of_ble_eq_true rfl)
  rw [lg_entry_eq]
  generalize (lg_sl ([.ref (ad 0)]) ++ List.replicate (3 - (lg_sl ([.ref (ad 0)])).length) Slot.unset).toArray = ls at hl ⊢
  have hl : lv_has ls 3 [(0, .ref (ad 0))] := hl
  have hv := hv (fun (x1 : Int32) (x2 : Int32) => ∀ (H : Heap) (locs : List Loc) (ls : Array Slot), va_P (gD g) vwCl (wX g ad σ) H → va_S A0 s.heap H locs → lv_has ls 3 [(0, .ref (ad 0)), (1, .int x1), (2, .int x2)] → W p l e { frames := 4, cells := 0, slots := 0, locals := 92 } s m ([.ref (ad 0)] : List Value).toArray below meth c H locs 0 0 (MQ below (va_Qi (fun r (_ : Unit) => Post r) (fun _ _ => True) A0) ([.ref (ad 0)] : List Value).toArray s 0 0 A0) (F0 m 4 ls []))
  have hv := hv (by
    intro x1 x2 hv H locs ls hP hS hl
    refine lv_iload_n hx hb dX2_hidden_4 rfl (lv_at hl 2 rfl) ?_
    refine lv_aload_n hx hb dX2_hidden_5 rfl (lv_at hl 0 rfl) ?_
    refine va_get (D := gD g) (ci := 2) (v := .ref (ad 4)) (C := RX2) (T := TX2) (N := 9) hx hb hts hi2 hown hK hP 0 rfl rfl 0 (by decide) k0 (fun _ h9 => h9) rfl dX2_hidden_6 ?_
    refine va_get (D := gD g) (ci := 0) (v := .int (sNq (cS (xNow σ)))) (C := RX0) (T := TX0) (N := 17) hx hb hts hi0 hown hK hP 4 rfl rfl 2 (by decide) k1 (fun _ h9 => h9) rfl dX2_hidden_9 ?_
    refine lv_icmp_ge (tgt := 35) hx hb dX2_hidden_12 (by decide) (fun c12 => ?_) (fun c12 => ?_)
    · have hv := hv.1 c12
      refine lv_iload_n hx hb dX2_hidden_35 rfl (lv_at hl 1 rfl) ?_
      exact W.iret (v := x1) hx hb hr (fun t ht hW => ⟨⟨x1, (), rfl, hv, trivial⟩, hS.F ht⟩) hS.2.2 dX2_hidden_36
    · have hv := hv.2 c12
      refine lv_aload_n hx hb dX2_hidden_15 rfl (lv_at hl 0 rfl) ?_
      refine lv_iload_n hx hb dX2_hidden_16 rfl (lv_at hl 2 rfl) ?_
      have h8 := hv.1
      have hv := hv.2
      have hPc := hP
      refine ro_int (va_runV (As := [.int x2]) (rest := []) ⟨hx, hb, hml, hown, hts⟩ (h_X2_isHidden g ad σ x2 h8) (cwV 1 hts gX2_hidden_X2_isHidden rfl rfl rfl (by decide +kernel) ⟨Nat.le_of_ble_eq_true rfl, Nat.le_of_ble_eq_true rfl⟩) ⟨RO_blind, va_recv hK hP (ci := 2) (q0 := 0) rfl rfl, fun U hU hW => ⟨rfl, by rw [hU]; exact hPc, va_K.moved hW.alike hK, hE.call hW hU hS (fun _ h => h.elim)⟩⟩ rfl rfl hl.1 rfl (lv_room (Nat.le_of_ble_eq_true rfl)) dX2_hidden_17 ⟨Nat.le_of_ble_eq_true rfl, Nat.le_of_ble_eq_true rfl⟩) hS hP (fun r H locs hw hP hS => ?_)
      subst r
      refine lv_if_eq (tgt := 29) hx hb dX2_hidden_20 (by decide) (fun c20 => ?_) (fun c20 => ?_)
      · have hv := hv.1 c20
        refine lv_iinc (v := (x2 + 1)) (lv' := [(2, .int (x2 + 1)), (0, .ref (ad 0)), (1, .int x1)]) hx hb dX2_hidden_29 hl (k := 2) rfl (by first | rfl | exact congrArg _ (by decide)) (by decide) rfl (fun ls hl => ?_)
        refine lv_goto (tgt := 4) hx hb dX2_hidden_32 (by decide) ?_
        exact hv H locs ls hP hS (lv_sub hl [1, 2, 0] rfl)
      · have hv := hv.2 c20
        refine lv_iload_n hx hb dX2_hidden_23 rfl (lv_at hl 1 rfl) ?_
        refine lv_iconst (v := 1) hx hb dX2_hidden_24 (by decide) ?_
        refine lv_iload_n hx hb dX2_hidden_25 rfl (lv_at hl 2 rfl) ?_
        refine lv_ishl hx hb dX2_hidden_26 ?_
        refine lv_ior hx hb dX2_hidden_27 ?_
        refine lv_istore_n (lv' := [(1, .int (x1 ||| (1 <<< (x2 &&& 31)))), (0, .ref (ad 0)), (2, .int x2)]) hx hb dX2_hidden_28 rfl hl (by decide) rfl (fun ls hl => ?_)
        refine lv_iinc (v := (x2 + 1)) (lv' := [(2, .int (x2 + 1)), (1, .int (x1 ||| (1 <<< (x2 &&& 31)))), (0, .ref (ad 0))]) hx hb dX2_hidden_29 hl (k := 2) rfl (by first | rfl | exact congrArg _ (by decide)) (by decide) rfl (fun ls hl => ?_)
        refine lv_goto (tgt := 4) hx hb dX2_hidden_32 (by decide) ?_
        exact hv H locs ls hP hS (lv_sub hl [2, 1, 0] rfl))
  obtain ⟨H, hH⟩ : ∃ z, z = s.heap := ⟨_, rfl⟩
  obtain ⟨locs, hL⟩ : ∃ z : List Loc, z = [] := ⟨_, rfl⟩
  rw [← hL] at hS ⊢
  have hS : va_S A0 s.heap H locs := by rw [hH]; exact hS
  rw [← hH] at hP ⊢
  clear hH hL
  refine lv_iconst (v := 0) hx hb dX2_hidden_0 (by decide) ?_
  refine lv_istore_n (lv' := [(1, .int 0), (0, .ref (ad 0))]) hx hb dX2_hidden_1 rfl hl (by decide) rfl (fun ls hl => ?_)
  refine lv_iconst (v := 0) hx hb dX2_hidden_2 (by decide) ?_
  refine lv_istore_n (lv' := [(2, .int 0), (1, .int 0), (0, .ref (ad 0))]) hx hb dX2_hidden_3 rfl hl (by decide) rfl (fun ls hl => ?_)
  exact hv H locs ls hP hS (lv_sub hl [2, 1, 0] rfl)

set_option maxHeartbeats 4000000 in
set_option maxRecDepth 100000 in
theorem m_X2_trueOf (l : Launch) (h_X0_hasWitness : C_X0_hasWitness l) (h_X0_isSo : C_X0_isSo l) (h_X2_refused : C_X2_refused l) (g : CX) (ad : Nat → Nat) (σ : KX) (p0 : Int32) (Post : Int32 → KX → Prop) (hv : vc_X2_trueOf σ p0 Post) : Met l yX2_trueOf wsX2_trueOf { frames := 3, cells := 0, slots := 0, locals := 63 } (va_Pc [.ref (ad 0), .int p0] (RW g (AD ad 0 45) (wX g ad σ))) (va_Qi (fun (r : Int32) (u : KX) => Post r u) (fun u t => va_P (gD g) vwCl (wX g ad u) t.heap) (AD ad 0 45)) 0 0 (AD ad 0 45) := by
  unfold vc_X2_trueOf at hv
  refine Met.ofW (cc := cX2_trueOf) (maxL := 5) (ret := (some .int)) (by decide) rfl ?_
  intro p e s m args below meth c s₁ B hml hv0
  obtain ⟨rfl, hP, hK, hE, hD⟩ := hv0
  have hx := B.exec
  have hb := B.bytes
  have hr := B.returns
  have hts := atoms_spec (ws := wsX2_trueOf) B.pre
  have hown : s.vm.findClass RX2 = some m.cls := findClass_of_methodNamed B.named
  have hlocks := B.notSynchronized
  have hi0 : ∀ w ∈ wsX00, w ∈ wsX2_trueOf := by decide +kernel
  have hi2 : ∀ w ∈ wsX20, w ∈ wsX2_trueOf := by decide +kernel
  have k0 := hts (.fieldLink RX2 10 "JuryHearsAnswers" "now" "LJuryHearsAnswers$Court;") (by decide +kernel)
  have k1 := hts (.fieldLink RX2 112 "JuryHearsAnswers$Court" "heardLength" "I") (by decide +kernel)
  have k2 := hts (.fieldLink RX2 103 "JuryHearsAnswers$Court" "heardQuestion" "[I") (by decide +kernel)
  have k3 := hts (.fieldLink RX2 100 "JuryHearsAnswers$Court" "heardWitness" "[I") (by decide +kernel)
  have k4 := hts (.fieldLink RX2 106 "JuryHearsAnswers$Court" "heardAnswer" "[I") (by decide +kernel)
  have hS : va_S (AD ad 0 45) s.heap s.heap [] := va_S.rf
  have hP : va_P (gD g) vwCl (wX g ad σ) s.heap := hP
  have hl := lv_entry ([.ref (ad 0), .int p0]) (n := 5) (Nat.le_of_ble_eq_true rfl)
  rw [lg_entry_eq]
  generalize (lg_sl ([.ref (ad 0), .int p0]) ++ List.replicate (5 - (lg_sl ([.ref (ad 0), .int p0])).length) Slot.unset).toArray = ls at hl ⊢
  have hl : lv_has ls 5 [(0, .ref (ad 0)), (1, .int p0)] := hl
  have hv := hv (fun (x2 : Int32) (x3 : Int32) (s_refus : FI) => ∀ (H : Heap) (locs : List Loc) (ls : Array Slot), va_P (gD g) vwCl (wX g ad ((xNow σ), (xTaken σ), (xTrial σ), (xScr σ), (xRow σ), s_refus, (xKept σ), (xRowLen σ), (xIsTaken σ))) H → va_D (AD ad 0 45) (wX g ad ((xNow σ), (xTaken σ), (xTrial σ), (xScr σ), (xRow σ), s_refus, (xKept σ), (xRowLen σ), (xIsTaken σ))) → va_S (AD ad 0 45) s.heap H locs → lv_has ls 5 [(0, .ref (ad 0)), (1, .int p0), (2, .int x2), (3, .int x3)] → W p l e { frames := 3, cells := 0, slots := 0, locals := 63 } s m ([.ref (ad 0), .int p0] : List Value).toArray below meth c H locs 0 0 (MQ below (va_Qi (fun (r : Int32) (u : KX) => Post r u) (fun u t => va_P (gD g) vwCl (wX g ad u) t.heap) (AD ad 0 45)) ([.ref (ad 0), .int p0] : List Value).toArray s 0 0 (AD ad 0 45)) (F0 m 21 ls []))
  have hv := hv (by
    intro x2 x3 s_refus hv H locs ls hP hD hS hl
    refine lv_iload_n hx hb dX2_trueOf_21 rfl (lv_at hl 3 rfl) ?_
    refine lv_aload_n hx hb dX2_trueOf_22 rfl (lv_at hl 0 rfl) ?_
    refine va_get (D := gD g) (ci := 2) (v := .ref (ad 4)) (C := RX2) (T := TX2) (N := 9) hx hb hts hi2 hown hK hP 0 rfl rfl 0 (by decide) k0 (fun _ h9 => h9) rfl dX2_trueOf_23 ?_
    refine va_get (D := gD g) (ci := 0) (v := .int (sNh (cS (xNow σ)))) (C := RX0) (T := TX0) (N := 17) hx hb hts hi0 hown hK hP 4 rfl rfl 4 (by decide) k1 (fun _ h9 => h9) rfl dX2_trueOf_26 ?_
    refine lv_icmp_ge (tgt := 94) hx hb dX2_trueOf_29 (by decide) (fun c29 => ?_) (fun c29 => ?_)
    · have hv := hv.1 c29
      refine lv_iload_n hx hb dX2_trueOf_94 rfl (lv_at hl 2 rfl) ?_
      exact W.iret (v := x2) hx hb hr (fun t ht hW => ⟨⟨x2, ((xNow σ), (xTaken σ), (xTrial σ), (xScr σ), (xRow σ), s_refus, (xKept σ), (xRowLen σ), (xIsTaken σ)), rfl, hv, P_at ht hP⟩, hS.F ht⟩) hS.2.2 dX2_trueOf_95
    · have hv := hv.2 c29
      refine lv_aload_n hx hb dX2_trueOf_32 rfl (lv_at hl 0 rfl) ?_
      refine va_get (D := gD g) (ci := 2) (v := .ref (ad 4)) (C := RX2) (T := TX2) (N := 9) hx hb hts hi2 hown hK hP 0 rfl rfl 0 (by decide) k0 (fun _ h9 => h9) rfl dX2_trueOf_33 ?_
      refine lv_aload_n hx hb dX2_trueOf_36 rfl (lv_at hl 0 rfl) ?_
      refine va_get (D := gD g) (ci := 2) (v := .ref (ad 4)) (C := RX2) (T := TX2) (N := 9) hx hb hts hi2 hown hK hP 0 rfl rfl 0 (by decide) k0 (fun _ h9 => h9) rfl dX2_trueOf_37 ?_
      refine va_get (D := gD g) (ci := 0) (v := .ref (ad 14)) (C := RX0) (T := TX0) (N := 17) hx hb hts hi0 hown hK hP 4 rfl rfl 14 (by decide) k2 (fun _ h9 => h9) rfl dX2_trueOf_40 ?_
      refine lv_iload_n hx hb dX2_trueOf_43 rfl (lv_at hl 3 rfl) ?_
      have h9 := hv.1
      have hv := hv.2
      refine va_iald (f := (sWhat (cS (xNow σ)))) (n := 12) hx hb hK hP 14 0 rfl rfl h9 dX2_trueOf_44 ?_
      have hPc : va_P (gD g) vwCl (wC g ad 4 (xNow σ)) H := hP.sub [4, 5, 6, 7, 8, 9, 10, 11, 12, 13, 14, 15, 16] rfl
      refine ro_int (va_runV (As := [.int ((sWhat (cS (xNow σ))) (x3).toNatClampNeg)]) (rest := []) ⟨hx, hb, hml, hown, hts⟩ (h_X0_isSo g ad 4 (xNow σ) ((sWhat (cS (xNow σ))) (x3).toNatClampNeg)) (cwV 1 hts gX2_trueOf_X0_isSo rfl rfl rfl (by decide +kernel) ⟨Nat.le_of_ble_eq_true rfl, Nat.le_of_ble_eq_true rfl⟩) ⟨RO_blind, va_recv hK hP (ci := 0) (q0 := 4) rfl rfl, fun U hU hW => ⟨rfl, by rw [hU]; exact hPc, va_K.moved hW.alike hK, hE.call hW hU hS (fun _ h => h.elim)⟩⟩ rfl rfl hl.1 rfl (lv_room (Nat.le_of_ble_eq_true rfl)) dX2_trueOf_45 ⟨Nat.le_of_ble_eq_true rfl, Nat.le_of_ble_eq_true rfl⟩) hS hP (fun r H locs hw hP hS => ?_)
      subst r
      refine lv_if_eq (tgt := 55) hx hb dX2_trueOf_48 (by decide) (fun c48 => ?_) (fun c48 => ?_)
      · have hv := hv.1 c48
        refine lv_iconst (v := 0) hx hb dX2_trueOf_55 (by decide) ?_
        refine lv_istore (lv' := [(4, .int 0), (0, .ref (ad 0)), (1, .int p0), (2, .int x2), (3, .int x3)]) hx hb dX2_trueOf_56 hl (by decide) rfl (fun ls hl => ?_)
        refine lv_aload_n hx hb dX2_trueOf_58 rfl (lv_at hl 1 rfl) ?_
        refine va_get (D := gD g) (ci := 2) (v := .ref (ad 4)) (C := RX2) (T := TX2) (N := 9) hx hb hts hi2 hown hK hP 0 rfl rfl 0 (by decide) k0 (fun _ h9 => h9) rfl dX2_trueOf_59 ?_
        refine va_get (D := gD g) (ci := 0) (v := .ref (ad 13)) (C := RX0) (T := TX0) (N := 17) hx hb hts hi0 hown hK hP 4 rfl rfl 13 (by decide) k3 (fun _ h9 => h9) rfl dX2_trueOf_62 ?_
        refine lv_iload_n hx hb dX2_trueOf_65 rfl (lv_at hl 4 rfl) ?_
        have h9 := hv.1
        have hv := hv.2
        refine va_iald (f := (sWhom (cS (xNow σ)))) (n := 12) hx hb hK hP 13 0 rfl rfl h9 dX2_trueOf_66 ?_
        refine lv_iload_n hx hb dX2_trueOf_67 rfl (lv_at hl 2 rfl) ?_
        refine lv_icmp_ne (tgt := 88) hx hb dX2_trueOf_68 (by decide) (fun c68 => ?_) (fun c68 => ?_)
        · have hv := hv.1 c68
          refine lv_iinc (v := (x3 + 1)) (lv' := [(3, .int (x3 + 1)), (4, .int 0), (0, .ref (ad 0)), (1, .int p0), (2, .int x2)]) hx hb dX2_trueOf_88 hl (k := 4) rfl (by first | rfl | exact congrArg _ (by decide)) (by decide) rfl (fun ls hl => ?_)
          refine lv_goto (tgt := 21) hx hb dX2_trueOf_91 (by decide) ?_
          exact hv H locs ls hP hD hS (lv_sub hl [2, 3, 4, 0] rfl)
        · have hv := hv.2 c68
          refine lv_aload_n hx hb dX2_trueOf_71 rfl (lv_at hl 1 rfl) ?_
          refine va_get (D := gD g) (ci := 2) (v := .ref (ad 4)) (C := RX2) (T := TX2) (N := 9) hx hb hts hi2 hown hK hP 0 rfl rfl 0 (by decide) k0 (fun _ h9 => h9) rfl dX2_trueOf_72 ?_
          refine va_get (D := gD g) (ci := 0) (v := .ref (ad 15)) (C := RX0) (T := TX0) (N := 17) hx hb hts hi0 hown hK hP 4 rfl rfl 15 (by decide) k4 (fun _ h9 => h9) rfl dX2_trueOf_75 ?_
          refine lv_iload_n hx hb dX2_trueOf_78 rfl (lv_at hl 4 rfl) ?_
          have h9 := hv.1
          have hv := hv.2
          refine va_iald (f := (sSaid (cS (xNow σ)))) (n := 12) hx hb hK hP 15 0 rfl rfl h9 dX2_trueOf_79 ?_
          refine lv_iload hx hb dX2_trueOf_80 (lv_at hl 0 rfl) ?_
          refine lv_icmp_ne (tgt := 88) hx hb dX2_trueOf_82 (by decide) (fun c82 => ?_) (fun c82 => ?_)
          · have hv := hv.1 c82
            refine lv_iinc (v := (x3 + 1)) (lv' := [(3, .int (x3 + 1)), (4, .int 0), (0, .ref (ad 0)), (1, .int p0), (2, .int x2)]) hx hb dX2_trueOf_88 hl (k := 4) rfl (by first | rfl | exact congrArg _ (by decide)) (by decide) rfl (fun ls hl => ?_)
            refine lv_goto (tgt := 21) hx hb dX2_trueOf_91 (by decide) ?_
            exact hv H locs ls hP hD hS (lv_sub hl [2, 3, 4, 0] rfl)
          · have hv := hv.2 c82
            refine lv_iinc (v := (x2 + 1)) (lv' := [(2, .int (x2 + 1)), (4, .int 0), (0, .ref (ad 0)), (1, .int p0), (3, .int x3)]) hx hb dX2_trueOf_85 hl (k := 3) rfl (by first | rfl | exact congrArg _ (by decide)) (by decide) rfl (fun ls hl => ?_)
            refine lv_iinc (v := (x3 + 1)) (lv' := [(3, .int (x3 + 1)), (2, .int (x2 + 1)), (4, .int 0), (0, .ref (ad 0)), (1, .int p0)]) hx hb dX2_trueOf_88 hl (k := 4) rfl (by first | rfl | exact congrArg _ (by decide)) (by decide) rfl (fun ls hl => ?_)
            refine lv_goto (tgt := 21) hx hb dX2_trueOf_91 (by decide) ?_
            exact hv H locs ls hP hD hS (lv_sub hl [3, 4, 1, 0] rfl)
      · have hv := hv.2 c48
        refine lv_iconst (v := 1) hx hb dX2_trueOf_51 (by decide) ?_
        refine lv_goto (tgt := 56) hx hb dX2_trueOf_52 (by decide) ?_
        refine lv_istore (lv' := [(4, .int 1), (0, .ref (ad 0)), (1, .int p0), (2, .int x2), (3, .int x3)]) hx hb dX2_trueOf_56 hl (by decide) rfl (fun ls hl => ?_)
        refine lv_aload_n hx hb dX2_trueOf_58 rfl (lv_at hl 1 rfl) ?_
        refine va_get (D := gD g) (ci := 2) (v := .ref (ad 4)) (C := RX2) (T := TX2) (N := 9) hx hb hts hi2 hown hK hP 0 rfl rfl 0 (by decide) k0 (fun _ h9 => h9) rfl dX2_trueOf_59 ?_
        refine va_get (D := gD g) (ci := 0) (v := .ref (ad 13)) (C := RX0) (T := TX0) (N := 17) hx hb hts hi0 hown hK hP 4 rfl rfl 13 (by decide) k3 (fun _ h9 => h9) rfl dX2_trueOf_62 ?_
        refine lv_iload_n hx hb dX2_trueOf_65 rfl (lv_at hl 4 rfl) ?_
        have h9 := hv.1
        have hv := hv.2
        refine va_iald (f := (sWhom (cS (xNow σ)))) (n := 12) hx hb hK hP 13 0 rfl rfl h9 dX2_trueOf_66 ?_
        refine lv_iload_n hx hb dX2_trueOf_67 rfl (lv_at hl 2 rfl) ?_
        refine lv_icmp_ne (tgt := 88) hx hb dX2_trueOf_68 (by decide) (fun c68 => ?_) (fun c68 => ?_)
        · have hv := hv.1 c68
          refine lv_iinc (v := (x3 + 1)) (lv' := [(3, .int (x3 + 1)), (4, .int 1), (0, .ref (ad 0)), (1, .int p0), (2, .int x2)]) hx hb dX2_trueOf_88 hl (k := 4) rfl (by first | rfl | exact congrArg _ (by decide)) (by decide) rfl (fun ls hl => ?_)
          refine lv_goto (tgt := 21) hx hb dX2_trueOf_91 (by decide) ?_
          exact hv H locs ls hP hD hS (lv_sub hl [2, 3, 4, 0] rfl)
        · have hv := hv.2 c68
          refine lv_aload_n hx hb dX2_trueOf_71 rfl (lv_at hl 1 rfl) ?_
          refine va_get (D := gD g) (ci := 2) (v := .ref (ad 4)) (C := RX2) (T := TX2) (N := 9) hx hb hts hi2 hown hK hP 0 rfl rfl 0 (by decide) k0 (fun _ h9 => h9) rfl dX2_trueOf_72 ?_
          refine va_get (D := gD g) (ci := 0) (v := .ref (ad 15)) (C := RX0) (T := TX0) (N := 17) hx hb hts hi0 hown hK hP 4 rfl rfl 15 (by decide) k4 (fun _ h9 => h9) rfl dX2_trueOf_75 ?_
          refine lv_iload_n hx hb dX2_trueOf_78 rfl (lv_at hl 4 rfl) ?_
          have h9 := hv.1
          have hv := hv.2
          refine va_iald (f := (sSaid (cS (xNow σ)))) (n := 12) hx hb hK hP 15 0 rfl rfl h9 dX2_trueOf_79 ?_
          refine lv_iload hx hb dX2_trueOf_80 (lv_at hl 0 rfl) ?_
          refine lv_icmp_ne (tgt := 88) hx hb dX2_trueOf_82 (by decide) (fun c82 => ?_) (fun c82 => ?_)
          · have hv := hv.1 c82
            refine lv_iinc (v := (x3 + 1)) (lv' := [(3, .int (x3 + 1)), (4, .int 1), (0, .ref (ad 0)), (1, .int p0), (2, .int x2)]) hx hb dX2_trueOf_88 hl (k := 4) rfl (by first | rfl | exact congrArg _ (by decide)) (by decide) rfl (fun ls hl => ?_)
            refine lv_goto (tgt := 21) hx hb dX2_trueOf_91 (by decide) ?_
            exact hv H locs ls hP hD hS (lv_sub hl [2, 3, 4, 0] rfl)
          · have hv := hv.2 c82
            refine lv_iinc (v := (x2 + 1)) (lv' := [(2, .int (x2 + 1)), (4, .int 1), (0, .ref (ad 0)), (1, .int p0), (3, .int x3)]) hx hb dX2_trueOf_85 hl (k := 3) rfl (by first | rfl | exact congrArg _ (by decide)) (by decide) rfl (fun ls hl => ?_)
            refine lv_iinc (v := (x3 + 1)) (lv' := [(3, .int (x3 + 1)), (2, .int (x2 + 1)), (4, .int 1), (0, .ref (ad 0)), (1, .int p0)]) hx hb dX2_trueOf_88 hl (k := 4) rfl (by first | rfl | exact congrArg _ (by decide)) (by decide) rfl (fun ls hl => ?_)
            refine lv_goto (tgt := 21) hx hb dX2_trueOf_91 (by decide) ?_
            exact hv H locs ls hP hD hS (lv_sub hl [3, 4, 1, 0] rfl))
  obtain ⟨H, hH⟩ : ∃ z, z = s.heap := ⟨_, rfl⟩
  obtain ⟨locs, hL⟩ : ∃ z : List Loc, z = [] := ⟨_, rfl⟩
  rw [← hL] at hS ⊢
  have hS : va_S (AD ad 0 45) s.heap H locs := by rw [hH]; exact hS
  rw [← hH] at hP ⊢
  clear hH hL
  refine lv_aload_n hx hb dX2_trueOf_0 rfl (lv_at hl 0 rfl) ?_
  refine va_get (D := gD g) (ci := 2) (v := .ref (ad 4)) (C := RX2) (T := TX2) (N := 9) hx hb hts hi2 hown hK hP 0 rfl rfl 0 (by decide) k0 (fun _ h9 => h9) rfl dX2_trueOf_1 ?_
  refine lv_iload_n hx hb dX2_trueOf_4 rfl (lv_at hl 1 rfl) ?_
  have hPc : va_P (gD g) vwCl (wC g ad 4 (xNow σ)) H := hP.sub [4, 5, 6, 7, 8, 9, 10, 11, 12, 13, 14, 15, 16] rfl
  refine ro_int (va_runV (As := [.int p0]) (rest := []) ⟨hx, hb, hml, hown, hts⟩ (h_X0_hasWitness g ad 4 (xNow σ) p0) (cwV 1 hts gX2_trueOf_X0_hasWitness rfl rfl rfl (by decide +kernel) ⟨Nat.le_of_ble_eq_true rfl, Nat.le_of_ble_eq_true rfl⟩) ⟨RO_blind, va_recv hK hP (ci := 0) (q0 := 4) rfl rfl, fun U hU hW => ⟨rfl, by rw [hU]; exact hPc, va_K.moved hW.alike hK, hE.call hW hU hS (fun _ h => h.elim)⟩⟩ rfl rfl hl.1 rfl (lv_room (Nat.le_of_ble_eq_true rfl)) dX2_trueOf_5 ⟨Nat.le_of_ble_eq_true rfl, Nat.le_of_ble_eq_true rfl⟩) hS hP (fun r H locs hw hP hS => ?_)
  subst r
  refine lv_if_ne (tgt := 17) hx hb dX2_trueOf_8 (by decide) (fun c8 => ?_) (fun c8 => ?_)
  · have hv := hv.1 c8
    refine lv_iconst (v := 0) hx hb dX2_trueOf_17 (by decide) ?_
    refine lv_istore_n (lv' := [(2, .int 0), (0, .ref (ad 0)), (1, .int p0)]) hx hb dX2_trueOf_18 rfl hl (by decide) rfl (fun ls hl => ?_)
    refine lv_iconst (v := 0) hx hb dX2_trueOf_19 (by decide) ?_
    refine lv_istore_n (lv' := [(3, .int 0), (2, .int 0), (0, .ref (ad 0)), (1, .int p0)]) hx hb dX2_trueOf_20 rfl hl (by decide) rfl (fun ls hl => ?_)
    exact hv H locs ls hP hD hS (lv_sub hl [2, 3, 1, 0] rfl)
  · have hv := hv.2 c8
    refine lv_aload_n hx hb dX2_trueOf_11 rfl (lv_at hl 0 rfl) ?_
    refine lv_iconst (v := (-1)) hx hb dX2_trueOf_12 (by decide) ?_
    have h8 := hv.1
    have hv := hv.2
    have hPc := hP
    have hDc := hD
    refine rw_int (va_runV (As := [.int (-1)]) (rest := []) ⟨hx, hb, hml, hown, hts⟩ (h_X2_refused g ad σ (-1) h8) (cwV 1 hts gX2_trueOf_X2_refused rfl rfl rfl (by decide +kernel) ⟨Nat.le_of_ble_eq_true rfl, Nat.le_of_ble_eq_true rfl⟩) ⟨RW_blind, va_recv hK hP (ci := 2) (q0 := 0) rfl rfl, fun U hU hW => ⟨rfl, by rw [hU]; exact hPc, va_K.moved hW.alike hK, hE.call hW hU hS (fun _ h => h), hDc⟩⟩ rfl rfl hl.1 rfl (lv_room (Nat.le_of_ble_eq_true rfl)) dX2_trueOf_13 ⟨Nat.le_of_ble_eq_true rfl, Nat.le_of_ble_eq_true rfl⟩) hS (fun _ h => h) (fun r u H1 locs hw hP1 hk hS => ?_)
    obtain ⟨hw1, hw⟩ := hw; subst r; subst u
    have hP := hP1
    generalize H1 = H at hP hS ⊢
    have hP : va_P (gD g) vwCl (wX g ad ((xNow σ), (xTaken σ), (xTrial σ), (xScr σ), (xRow σ), (refuX (xRefus σ) ((-1) : Int32)), (xKept σ), (xRowLen σ), (xIsTaken σ))) H := hP
    have hD : va_D (AD ad 0 45) (wX g ad ((xNow σ), (xTaken σ), (xTrial σ), (xScr σ), (xRow σ), (refuX (xRefus σ) ((-1) : Int32)), (xKept σ), (xRowLen σ), (xIsTaken σ))) := hD.addr (by rfl)
    exact W.iret (v := (((-1) : Int32))) hx hb hr (fun t ht hW => ⟨⟨(((-1) : Int32)), ((xNow σ), (xTaken σ), (xTrial σ), (xScr σ), (xRow σ), (refuX (xRefus σ) ((-1) : Int32)), (xKept σ), (xRowLen σ), (xIsTaken σ)), rfl, hv, P_at ht hP⟩, hS.F ht⟩) hS.2.2 dX2_trueOf_16

set_option maxHeartbeats 4000000 in
set_option maxRecDepth 100000 in
theorem m_X2_betrays (l : Launch) (h_X0_hasPlace : C_X0_hasPlace l) (h_X0_questionsSaid : C_X0_questionsSaid l) (h_X2_refused : C_X2_refused l) (g : CX) (ad : Nat → Nat) (σ : KX) (p0 : Int32) (Post : Int32 → KX → Prop) (hv : vc_X2_betrays σ p0 Post) : Met l yX2_betrays wsX2_betrays { frames := 4, cells := 0, slots := 0, locals := 95 } (va_Pc [.ref (ad 0), .int p0] (RW g (AD ad 0 45) (wX g ad σ))) (va_Qi (fun (r : Int32) (u : KX) => Post r u) (fun u t => va_P (gD g) vwCl (wX g ad u) t.heap) (AD ad 0 45)) 0 0 (AD ad 0 45) := by
  unfold vc_X2_betrays at hv
  refine Met.ofW (cc := cX2_betrays) (maxL := 2) (ret := (some .int)) (by decide) rfl ?_
  intro p e s m args below meth c s₁ B hml hv0
  obtain ⟨rfl, hP, hK, hE, hD⟩ := hv0
  have hx := B.exec
  have hb := B.bytes
  have hr := B.returns
  have hts := atoms_spec (ws := wsX2_betrays) B.pre
  have hown : s.vm.findClass RX2 = some m.cls := findClass_of_methodNamed B.named
  have hlocks := B.notSynchronized
  have hi0 : ∀ w ∈ wsX00, w ∈ wsX2_betrays := by decide +kernel
  have hi2 : ∀ w ∈ wsX20, w ∈ wsX2_betrays := by decide +kernel
  have k0 := hts (.fieldLink RX2 10 "JuryHearsAnswers" "now" "LJuryHearsAnswers$Court;") (by decide +kernel)
  have k1 := hts (.fieldLink RX2 100 "JuryHearsAnswers$Court" "heardWitness" "[I") (by decide +kernel)
  have k2 := hts (.fieldLink RX2 109 "JuryHearsAnswers$Court" "heardAsked" "[I") (by decide +kernel)
  have k3 := hts (.fieldLink RX2 106 "JuryHearsAnswers$Court" "heardAnswer" "[I") (by decide +kernel)
  have hS : va_S (AD ad 0 45) s.heap s.heap [] := va_S.rf
  have hP : va_P (gD g) vwCl (wX g ad σ) s.heap := hP
  have hl := lv_entry ([.ref (ad 0), .int p0]) (n := 2) (Nat.le_of_ble_eq_true rfl)
  rw [lg_entry_eq]
  generalize (lg_sl ([.ref (ad 0), .int p0]) ++ List.replicate (2 - (lg_sl ([.ref (ad 0), .int p0])).length) Slot.unset).toArray = ls at hl ⊢
  have hl : lv_has ls 2 [(0, .ref (ad 0)), (1, .int p0)] := hl
  obtain ⟨H, hH⟩ : ∃ z, z = s.heap := ⟨_, rfl⟩
  obtain ⟨locs, hL⟩ : ∃ z : List Loc, z = [] := ⟨_, rfl⟩
  rw [← hL] at hS ⊢
  have hS : va_S (AD ad 0 45) s.heap H locs := by rw [hH]; exact hS
  rw [← hH] at hP ⊢
  clear hH hL
  refine lv_aload_n hx hb dX2_betrays_0 rfl (lv_at hl 0 rfl) ?_
  refine va_get (D := gD g) (ci := 2) (v := .ref (ad 4)) (C := RX2) (T := TX2) (N := 9) hx hb hts hi2 hown hK hP 0 rfl rfl 0 (by decide) k0 (fun _ h9 => h9) rfl dX2_betrays_1 ?_
  refine lv_iload_n hx hb dX2_betrays_4 rfl (lv_at hl 1 rfl) ?_
  have hPc : va_P (gD g) vwCl (wC g ad 4 (xNow σ)) H := hP.sub [4, 5, 6, 7, 8, 9, 10, 11, 12, 13, 14, 15, 16] rfl
  refine ro_int (va_runV (As := [.int p0]) (rest := []) ⟨hx, hb, hml, hown, hts⟩ (h_X0_hasPlace g ad 4 (xNow σ) p0) (cwV 1 hts gX2_betrays_X0_hasPlace rfl rfl rfl (by decide +kernel) ⟨Nat.le_of_ble_eq_true rfl, Nat.le_of_ble_eq_true rfl⟩) ⟨RO_blind, va_recv hK hP (ci := 0) (q0 := 4) rfl rfl, fun U hU hW => ⟨rfl, by rw [hU]; exact hPc, va_K.moved hW.alike hK, hE.call hW hU hS (fun _ h => h.elim)⟩⟩ rfl rfl hl.1 rfl (lv_room (Nat.le_of_ble_eq_true rfl)) dX2_betrays_5 ⟨Nat.le_of_ble_eq_true rfl, Nat.le_of_ble_eq_true rfl⟩) hS hP (fun r H locs hw hP hS => ?_)
  subst r
  refine lv_if_ne (tgt := 17) hx hb dX2_betrays_8 (by decide) (fun c8 => ?_) (fun c8 => ?_)
  · have hv := hv.1 c8
    refine lv_aload_n hx hb dX2_betrays_17 rfl (lv_at hl 0 rfl) ?_
    refine va_get (D := gD g) (ci := 2) (v := .ref (ad 4)) (C := RX2) (T := TX2) (N := 9) hx hb hts hi2 hown hK hP 0 rfl rfl 0 (by decide) k0 (fun _ h9 => h9) rfl dX2_betrays_18 ?_
    refine lv_aload_n hx hb dX2_betrays_21 rfl (lv_at hl 0 rfl) ?_
    refine va_get (D := gD g) (ci := 2) (v := .ref (ad 4)) (C := RX2) (T := TX2) (N := 9) hx hb hts hi2 hown hK hP 0 rfl rfl 0 (by decide) k0 (fun _ h9 => h9) rfl dX2_betrays_22 ?_
    refine va_get (D := gD g) (ci := 0) (v := .ref (ad 13)) (C := RX0) (T := TX0) (N := 17) hx hb hts hi0 hown hK hP 4 rfl rfl 13 (by decide) k1 (fun _ h9 => h9) rfl dX2_betrays_25 ?_
    refine lv_iload_n hx hb dX2_betrays_28 rfl (lv_at hl 1 rfl) ?_
    have h9 := hv.1
    have hv := hv.2
    refine va_iald (f := (sWhom (cS (xNow σ)))) (n := 12) hx hb hK hP 13 0 rfl rfl h9 dX2_betrays_29 ?_
    refine lv_aload_n hx hb dX2_betrays_30 rfl (lv_at hl 0 rfl) ?_
    refine va_get (D := gD g) (ci := 2) (v := .ref (ad 4)) (C := RX2) (T := TX2) (N := 9) hx hb hts hi2 hown hK hP 0 rfl rfl 0 (by decide) k0 (fun _ h9 => h9) rfl dX2_betrays_31 ?_
    refine va_get (D := gD g) (ci := 0) (v := .ref (ad 16)) (C := RX0) (T := TX0) (N := 17) hx hb hts hi0 hown hK hP 4 rfl rfl 16 (by decide) k2 (fun _ h9 => h9) rfl dX2_betrays_34 ?_
    refine lv_iload_n hx hb dX2_betrays_37 rfl (lv_at hl 1 rfl) ?_
    have h9 := hv.1
    have hv := hv.2
    refine va_iald (f := (sWhen (cS (xNow σ)))) (n := 12) hx hb hK hP 16 0 rfl rfl h9 dX2_betrays_38 ?_
    refine lv_aload_n hx hb dX2_betrays_39 rfl (lv_at hl 0 rfl) ?_
    refine va_get (D := gD g) (ci := 2) (v := .ref (ad 4)) (C := RX2) (T := TX2) (N := 9) hx hb hts hi2 hown hK hP 0 rfl rfl 0 (by decide) k0 (fun _ h9 => h9) rfl dX2_betrays_40 ?_
    refine va_get (D := gD g) (ci := 0) (v := .ref (ad 15)) (C := RX0) (T := TX0) (N := 17) hx hb hts hi0 hown hK hP 4 rfl rfl 15 (by decide) k3 (fun _ h9 => h9) rfl dX2_betrays_43 ?_
    refine lv_iload_n hx hb dX2_betrays_46 rfl (lv_at hl 1 rfl) ?_
    have h9 := hv.1
    have hv := hv.2
    refine va_iald (f := (sSaid (cS (xNow σ)))) (n := 12) hx hb hK hP 15 0 rfl rfl h9 dX2_betrays_47 ?_
    have h8 := hv.1
    have hv := hv.2
    have hPc : va_P (gD g) vwCl (wC g ad 4 (xNow σ)) H := hP.sub [4, 5, 6, 7, 8, 9, 10, 11, 12, 13, 14, 15, 16] rfl
    refine ro_int (va_runV (As := [.int ((sWhom (cS (xNow σ))) (p0).toNatClampNeg), .int ((sWhen (cS (xNow σ))) (p0).toNatClampNeg), .int ((sSaid (cS (xNow σ))) (p0).toNatClampNeg)]) (rest := []) ⟨hx, hb, hml, hown, hts⟩ (h_X0_questionsSaid g ad 4 (xNow σ) ((sWhom (cS (xNow σ))) (p0).toNatClampNeg) ((sWhen (cS (xNow σ))) (p0).toNatClampNeg) ((sSaid (cS (xNow σ))) (p0).toNatClampNeg) h8) (cwV 3 hts gX2_betrays_X0_questionsSaid rfl rfl rfl (by decide +kernel) ⟨Nat.le_of_ble_eq_true rfl, Nat.le_of_ble_eq_true rfl⟩) ⟨RO_blind, va_recv hK hP (ci := 0) (q0 := 4) rfl rfl, fun U hU hW => ⟨rfl, by rw [hU]; exact hPc, va_K.moved hW.alike hK, hE.call hW hU hS (fun _ h => h.elim)⟩⟩ rfl rfl hl.1 rfl (lv_room (Nat.le_of_ble_eq_true rfl)) dX2_betrays_48 ⟨Nat.le_of_ble_eq_true rfl, Nat.le_of_ble_eq_true rfl⟩) hS hP (fun r H locs hw hP hS => ?_)
    subst r
    exact W.iret (v := (questionsSaidI (xNow σ) ((sWhom (cS (xNow σ))) (p0).toNatClampNeg) ((sWhen (cS (xNow σ))) (p0).toNatClampNeg) ((sSaid (cS (xNow σ))) (p0).toNatClampNeg))) hx hb hr (fun t ht hW => ⟨⟨(questionsSaidI (xNow σ) ((sWhom (cS (xNow σ))) (p0).toNatClampNeg) ((sWhen (cS (xNow σ))) (p0).toNatClampNeg) ((sSaid (cS (xNow σ))) (p0).toNatClampNeg)), σ, rfl, hv, P_at ht hP⟩, hS.F ht⟩) hS.2.2 dX2_betrays_51
  · have hv := hv.2 c8
    refine lv_aload_n hx hb dX2_betrays_11 rfl (lv_at hl 0 rfl) ?_
    refine lv_iconst (v := (-1)) hx hb dX2_betrays_12 (by decide) ?_
    have h8 := hv.1
    have hv := hv.2
    have hPc := hP
    have hDc := hD
    refine rw_int (va_runV (As := [.int (-1)]) (rest := []) ⟨hx, hb, hml, hown, hts⟩ (h_X2_refused g ad σ (-1) h8) (cwV 1 hts gX2_betrays_X2_refused rfl rfl rfl (by decide +kernel) ⟨Nat.le_of_ble_eq_true rfl, Nat.le_of_ble_eq_true rfl⟩) ⟨RW_blind, va_recv hK hP (ci := 2) (q0 := 0) rfl rfl, fun U hU hW => ⟨rfl, by rw [hU]; exact hPc, va_K.moved hW.alike hK, hE.call hW hU hS (fun _ h => h), hDc⟩⟩ rfl rfl hl.1 rfl (lv_room (Nat.le_of_ble_eq_true rfl)) dX2_betrays_13 ⟨Nat.le_of_ble_eq_true rfl, Nat.le_of_ble_eq_true rfl⟩) hS (fun _ h => h) (fun r u H1 locs hw hP1 hk hS => ?_)
    obtain ⟨hw1, hw⟩ := hw; subst r; subst u
    have hP := hP1
    generalize H1 = H at hP hS ⊢
    have hP : va_P (gD g) vwCl (wX g ad ((xNow σ), (xTaken σ), (xTrial σ), (xScr σ), (xRow σ), (refuX (xRefus σ) ((-1) : Int32)), (xKept σ), (xRowLen σ), (xIsTaken σ))) H := hP
    have hD : va_D (AD ad 0 45) (wX g ad ((xNow σ), (xTaken σ), (xTrial σ), (xScr σ), (xRow σ), (refuX (xRefus σ) ((-1) : Int32)), (xKept σ), (xRowLen σ), (xIsTaken σ))) := hD.addr (by rfl)
    exact W.iret (v := (((-1) : Int32))) hx hb hr (fun t ht hW => ⟨⟨(((-1) : Int32)), ((xNow σ), (xTaken σ), (xTrial σ), (xScr σ), (xRow σ), (refuX (xRefus σ) ((-1) : Int32)), (xKept σ), (xRowLen σ), (xIsTaken σ)), rfl, hv, P_at ht hP⟩, hS.F ht⟩) hS.2.2 dX2_betrays_16

set_option maxHeartbeats 4000000 in
set_option maxRecDepth 100000 in
theorem m_X2_verdict (l : Launch) (h_J13_bitCount_95d88 : C_J13_bitCount_95d88 l) (h_X0_juryFitting : C_X0_juryFitting l) (h_X2_factCases : C_X2_factCases l) (h_X2_inLeastTerms : C_X2_inLeastTerms l) (h_X2_isFact : C_X2_isFact l) (h_X2_isPart : C_X2_isPart l) (h_X2_longRefused : C_X2_longRefused l) (g : CX) (ad : Nat → Nat) (σ : KX) (p0 : Int32) (p1 : Int32) (Post : Int64 → KX → Prop) (hv : vc_X2_verdict σ p0 p1 Post) : Met l yX2_verdict wsX2_verdict { frames := 4, cells := 0, slots := 0, locals := 96 } (va_Pc [.ref (ad 0), .int p0, .int p1] (RW g (AD ad 0 45) (wX g ad σ))) (va_Ql (fun (r : Int64) (u : KX) => Post r u) (fun u t => va_P (gD g) vwCl (wX g ad u) t.heap) (AD ad 0 45)) 0 0 (AD ad 0 45) := by
  unfold vc_X2_verdict at hv
  refine Met.ofW (cc := cX2_verdict) (maxL := 5) (ret := (some .long)) (by decide) rfl ?_
  intro p e s m args below meth c s₁ B hml hv0
  obtain ⟨rfl, hP, hK, hE, hD⟩ := hv0
  have hx := B.exec
  have hb := B.bytes
  have hr := B.returns
  have hts := atoms_spec (ws := wsX2_verdict) B.pre
  have hown : s.vm.findClass RX2 = some m.cls := findClass_of_methodNamed B.named
  have hlocks := B.notSynchronized
  have hi2 : ∀ w ∈ wsX20, w ∈ wsX2_verdict := by decide +kernel
  have k0 := hts (.fieldLink RX2 10 "JuryHearsAnswers" "now" "LJuryHearsAnswers$Court;") (by decide +kernel)
  have hS : va_S (AD ad 0 45) s.heap s.heap [] := va_S.rf
  have hP : va_P (gD g) vwCl (wX g ad σ) s.heap := hP
  have hl := lv_entry ([.ref (ad 0), .int p0, .int p1]) (n := 5) (Nat.le_of_ble_eq_true rfl)
  rw [lg_entry_eq]
  generalize (lg_sl ([.ref (ad 0), .int p0, .int p1]) ++ List.replicate (5 - (lg_sl ([.ref (ad 0), .int p0, .int p1])).length) Slot.unset).toArray = ls at hl ⊢
  have hl : lv_has ls 5 [(0, .ref (ad 0)), (1, .int p0), (2, .int p1)] := hl
  obtain ⟨H, hH⟩ : ∃ z, z = s.heap := ⟨_, rfl⟩
  obtain ⟨locs, hL⟩ : ∃ z : List Loc, z = [] := ⟨_, rfl⟩
  rw [← hL] at hS ⊢
  have hS : va_S (AD ad 0 45) s.heap H locs := by rw [hH]; exact hS
  rw [← hH] at hP ⊢
  clear hH hL
  refine lv_iload_n hx hb dX2_verdict_0 rfl (lv_at hl 1 rfl) ?_
  have hPc : va_P (gD g) vwCl [] H := fun k q h => by simp at h
  refine ro_int (va_runS (As := [.int p0]) (rest := []) ⟨hx, hb, hml, hown, hts⟩ (h_X2_isFact g p0) (va_cwS 1 hts gX2_verdict_X2_isFact rfl rfl rfl (by decide +kernel) ⟨Nat.le_of_ble_eq_true rfl, Nat.le_of_ble_eq_true rfl⟩) ⟨RO_blind, fun U hU hW => ⟨rfl, by rw [hU]; exact hPc, va_K.moved hW.alike hK, hE.call hW hU hS (fun _ h => h.elim)⟩⟩ rfl rfl hl.1 rfl (lv_room (Nat.le_of_ble_eq_true rfl)) dX2_verdict_1 ⟨Nat.le_of_ble_eq_true rfl, Nat.le_of_ble_eq_true rfl⟩) hS hP (fun r H locs hw hP hS => ?_)
  subst r
  refine lv_if_ne (tgt := 13) hx hb dX2_verdict_4 (by decide) (fun c4 => ?_) (fun c4 => ?_)
  · have hv := hv.1 c4
    refine lv_iload_n hx hb dX2_verdict_13 rfl (lv_at hl 2 rfl) ?_
    have hPc : va_P (gD g) vwCl [] H := fun k q h => by simp at h
    refine ro_int (va_runS (As := [.int p1]) (rest := []) ⟨hx, hb, hml, hown, hts⟩ (h_X2_isPart g p1) (va_cwS 1 hts gX2_verdict_X2_isPart rfl rfl rfl (by decide +kernel) ⟨Nat.le_of_ble_eq_true rfl, Nat.le_of_ble_eq_true rfl⟩) ⟨RO_blind, fun U hU hW => ⟨rfl, by rw [hU]; exact hPc, va_K.moved hW.alike hK, hE.call hW hU hS (fun _ h => h.elim)⟩⟩ rfl rfl hl.1 rfl (lv_room (Nat.le_of_ble_eq_true rfl)) dX2_verdict_14 ⟨Nat.le_of_ble_eq_true rfl, Nat.le_of_ble_eq_true rfl⟩) hS hP (fun r H locs hw hP hS => ?_)
    subst r
    refine lv_if_ne (tgt := 27) hx hb dX2_verdict_17 (by decide) (fun c17 => ?_) (fun c17 => ?_)
    · have hv := hv.1 c17
      refine lv_aload_n hx hb dX2_verdict_27 rfl (lv_at hl 0 rfl) ?_
      refine va_get (D := gD g) (ci := 2) (v := .ref (ad 4)) (C := RX2) (T := TX2) (N := 9) hx hb hts hi2 hown hK hP 0 rfl rfl 0 (by decide) k0 (fun _ h9 => h9) rfl dX2_verdict_28 ?_
      have h8 := hv.1
      have hv := hv.2
      have hPc : va_P (gD g) vwCl (wC g ad 4 (xNow σ)) H := hP.sub [4, 5, 6, 7, 8, 9, 10, 11, 12, 13, 14, 15, 16] rfl
      refine ro_long (va_runV (As := []) (rest := []) ⟨hx, hb, hml, hown, hts⟩ (h_X0_juryFitting g ad 4 (xNow σ) h8) (cwV 0 hts gX2_verdict_X0_juryFitting rfl rfl rfl (by decide +kernel) ⟨Nat.le_of_ble_eq_true rfl, Nat.le_of_ble_eq_true rfl⟩) ⟨RO_blind, va_recv hK hP (ci := 0) (q0 := 4) rfl rfl, fun U hU hW => ⟨rfl, by rw [hU]; exact hPc, va_K.moved hW.alike hK, hE.call hW hU hS (fun _ h => h.elim)⟩⟩ rfl rfl hl.1 rfl (lv_room (Nat.le_of_ble_eq_true rfl)) dX2_verdict_31 ⟨Nat.le_of_ble_eq_true rfl, Nat.le_of_ble_eq_true rfl⟩) hS hP (fun r H locs hw hP hS => ?_)
      subst r
      refine lv_lstore_n (lv' := [(3, .long (juryFittingL (xNow σ))), (0, .ref (ad 0)), (1, .int p0), (2, .int p1)]) hx hb dX2_verdict_34 rfl hl (by decide) rfl (fun ls hl => ?_)
      refine lv_lload_n hx hb dX2_verdict_35 rfl (lv_at hl 0 rfl) ?_
      refine lv_iload_n hx hb dX2_verdict_36 rfl (lv_at hl 2 rfl) ?_
      have hPc : va_P (gD g) vwCl [] H := fun k q h => by simp at h
      refine ro_long (va_runS (As := [.int p0]) (rest := [.long (juryFittingL (xNow σ))]) ⟨hx, hb, hml, hown, hts⟩ (h_X2_factCases g p0) (va_cwS 1 hts gX2_verdict_X2_factCases rfl rfl rfl (by decide +kernel) ⟨Nat.le_of_ble_eq_true rfl, Nat.le_of_ble_eq_true rfl⟩) ⟨RO_blind, fun U hU hW => ⟨rfl, by rw [hU]; exact hPc, va_K.moved hW.alike hK, hE.call hW hU hS (fun _ h => h.elim)⟩⟩ rfl rfl hl.1 rfl (lv_room (Nat.le_of_ble_eq_true rfl)) dX2_verdict_37 ⟨Nat.le_of_ble_eq_true rfl, Nat.le_of_ble_eq_true rfl⟩) hS hP (fun r H locs hw hP hS => ?_)
      subst r
      refine lv_land hx hb dX2_verdict_40 ?_
      have hPc : va_P (gD g) vwCl [] H := fun k q h => by simp at h
      refine ro_int (va_runS (As := [.long ((juryFittingL (xNow σ)) &&& (factCasesL p0))]) (rest := []) ⟨hx, hb, hml, hown, hts⟩ (h_J13_bitCount_95d88 g ((juryFittingL (xNow σ)) &&& (factCasesL p0))) (va_cwS 1 hts gX2_verdict_J13_bitCount_95d88 rfl rfl rfl (by decide +kernel) ⟨Nat.le_of_ble_eq_true rfl, Nat.le_of_ble_eq_true rfl⟩) ⟨RO_blind, fun U hU hW => ⟨rfl, by rw [hU]; exact hPc, va_K.moved hW.alike hK, hE.call hW hU hS (fun _ h => h.elim)⟩⟩ rfl rfl hl.1 rfl (lv_room (Nat.le_of_ble_eq_true rfl)) dX2_verdict_41 ⟨Nat.le_of_ble_eq_true rfl, Nat.le_of_ble_eq_true rfl⟩) hS hP (fun r H locs hw hP hS => ?_)
      subst r
      refine lv_lload_n hx hb dX2_verdict_44 rfl (lv_at hl 0 rfl) ?_
      have hPc : va_P (gD g) vwCl [] H := fun k q h => by simp at h
      refine ro_int (va_runS (As := [.long (juryFittingL (xNow σ))]) (rest := [.int (popc ((juryFittingL (xNow σ)) &&& (factCasesL p0)))]) ⟨hx, hb, hml, hown, hts⟩ (h_J13_bitCount_95d88 g (juryFittingL (xNow σ))) (va_cwS 1 hts gX2_verdict_J13_bitCount_95d88 rfl rfl rfl (by decide +kernel) ⟨Nat.le_of_ble_eq_true rfl, Nat.le_of_ble_eq_true rfl⟩) ⟨RO_blind, fun U hU hW => ⟨rfl, by rw [hU]; exact hPc, va_K.moved hW.alike hK, hE.call hW hU hS (fun _ h => h.elim)⟩⟩ rfl rfl hl.1 rfl (lv_room (Nat.le_of_ble_eq_true rfl)) dX2_verdict_45 ⟨Nat.le_of_ble_eq_true rfl, Nat.le_of_ble_eq_true rfl⟩) hS hP (fun r H locs hw hP hS => ?_)
      subst r
      refine lv_iload_n hx hb dX2_verdict_48 rfl (lv_at hl 3 rfl) ?_
      have hPc : va_P (gD g) vwCl [] H := fun k q h => by simp at h
      refine ro_long (va_runS (As := [.int (popc ((juryFittingL (xNow σ)) &&& (factCasesL p0))), .int (popc (juryFittingL (xNow σ))), .int p1]) (rest := []) ⟨hx, hb, hml, hown, hts⟩ (h_X2_inLeastTerms g (popc ((juryFittingL (xNow σ)) &&& (factCasesL p0))) (popc (juryFittingL (xNow σ))) p1) (va_cwS 3 hts gX2_verdict_X2_inLeastTerms rfl rfl rfl (by decide +kernel) ⟨Nat.le_of_ble_eq_true rfl, Nat.le_of_ble_eq_true rfl⟩) ⟨RO_blind, fun U hU hW => ⟨rfl, by rw [hU]; exact hPc, va_K.moved hW.alike hK, hE.call hW hU hS (fun _ h => h.elim)⟩⟩ rfl rfl hl.1 rfl (lv_room (Nat.le_of_ble_eq_true rfl)) dX2_verdict_49 ⟨Nat.le_of_ble_eq_true rfl, Nat.le_of_ble_eq_true rfl⟩) hS hP (fun r H locs hw hP hS => ?_)
      subst r
      exact W.lret (v := (leastTermsL (popc ((juryFittingL (xNow σ)) &&& (factCasesL p0))) (popc (juryFittingL (xNow σ))) p1)) hx hb hr (fun t ht hW => ⟨⟨(leastTermsL (popc ((juryFittingL (xNow σ)) &&& (factCasesL p0))) (popc (juryFittingL (xNow σ))) p1), σ, rfl, hv, P_at ht hP⟩, hS.F ht⟩) hS.2.2 dX2_verdict_52
    · have hv := hv.2 c17
      refine lv_aload_n hx hb dX2_verdict_20 rfl (lv_at hl 0 rfl) ?_
      refine lv_bipush (v := (-2)) hx hb dX2_verdict_21 (by decide) ?_
      have h8 := hv.1
      have hv := hv.2
      have hPc := hP
      have hDc := hD
      refine rw_long (va_runV (As := [.int (-2)]) (rest := []) ⟨hx, hb, hml, hown, hts⟩ (h_X2_longRefused g ad σ (-2) h8) (cwV 1 hts gX2_verdict_X2_longRefused rfl rfl rfl (by decide +kernel) ⟨Nat.le_of_ble_eq_true rfl, Nat.le_of_ble_eq_true rfl⟩) ⟨RW_blind, va_recv hK hP (ci := 2) (q0 := 0) rfl rfl, fun U hU hW => ⟨rfl, by rw [hU]; exact hPc, va_K.moved hW.alike hK, hE.call hW hU hS (fun _ h => h), hDc⟩⟩ rfl rfl hl.1 rfl (lv_room (Nat.le_of_ble_eq_true rfl)) dX2_verdict_23 ⟨Nat.le_of_ble_eq_true rfl, Nat.le_of_ble_eq_true rfl⟩) hS (fun _ h => h) (fun r u H1 locs hw hP1 hk hS => ?_)
      obtain ⟨hw1, hw⟩ := hw; subst r; subst u
      have hP := hP1
      generalize H1 = H at hP hS ⊢
      have hP : va_P (gD g) vwCl (wX g ad ((xNow σ), (xTaken σ), (xTrial σ), (xScr σ), (xRow σ), (refuX (xRefus σ) ((-2) : Int32)), (xKept σ), (xRowLen σ), (xIsTaken σ))) H := hP
      have hD : va_D (AD ad 0 45) (wX g ad ((xNow σ), (xTaken σ), (xTrial σ), (xScr σ), (xRow σ), (refuX (xRefus σ) ((-2) : Int32)), (xKept σ), (xRowLen σ), (xIsTaken σ))) := hD.addr (by rfl)
      exact W.lret (v := (4000000000000000000 - ((-2) : Int32).toInt64)) hx hb hr (fun t ht hW => ⟨⟨(4000000000000000000 - ((-2) : Int32).toInt64), ((xNow σ), (xTaken σ), (xTrial σ), (xScr σ), (xRow σ), (refuX (xRefus σ) ((-2) : Int32)), (xKept σ), (xRowLen σ), (xIsTaken σ)), rfl, hv, P_at ht hP⟩, hS.F ht⟩) hS.2.2 dX2_verdict_26
  · have hv := hv.2 c4
    refine lv_aload_n hx hb dX2_verdict_7 rfl (lv_at hl 0 rfl) ?_
    refine lv_iconst (v := (-1)) hx hb dX2_verdict_8 (by decide) ?_
    have h8 := hv.1
    have hv := hv.2
    have hPc := hP
    have hDc := hD
    refine rw_long (va_runV (As := [.int (-1)]) (rest := []) ⟨hx, hb, hml, hown, hts⟩ (h_X2_longRefused g ad σ (-1) h8) (cwV 1 hts gX2_verdict_X2_longRefused rfl rfl rfl (by decide +kernel) ⟨Nat.le_of_ble_eq_true rfl, Nat.le_of_ble_eq_true rfl⟩) ⟨RW_blind, va_recv hK hP (ci := 2) (q0 := 0) rfl rfl, fun U hU hW => ⟨rfl, by rw [hU]; exact hPc, va_K.moved hW.alike hK, hE.call hW hU hS (fun _ h => h), hDc⟩⟩ rfl rfl hl.1 rfl (lv_room (Nat.le_of_ble_eq_true rfl)) dX2_verdict_9 ⟨Nat.le_of_ble_eq_true rfl, Nat.le_of_ble_eq_true rfl⟩) hS (fun _ h => h) (fun r u H1 locs hw hP1 hk hS => ?_)
    obtain ⟨hw1, hw⟩ := hw; subst r; subst u
    have hP := hP1
    generalize H1 = H at hP hS ⊢
    have hP : va_P (gD g) vwCl (wX g ad ((xNow σ), (xTaken σ), (xTrial σ), (xScr σ), (xRow σ), (refuX (xRefus σ) ((-1) : Int32)), (xKept σ), (xRowLen σ), (xIsTaken σ))) H := hP
    have hD : va_D (AD ad 0 45) (wX g ad ((xNow σ), (xTaken σ), (xTrial σ), (xScr σ), (xRow σ), (refuX (xRefus σ) ((-1) : Int32)), (xKept σ), (xRowLen σ), (xIsTaken σ))) := hD.addr (by rfl)
    exact W.lret (v := (4000000000000000000 - ((-1) : Int32).toInt64)) hx hb hr (fun t ht hW => ⟨⟨(4000000000000000000 - ((-1) : Int32).toInt64), ((xNow σ), (xTaken σ), (xTrial σ), (xScr σ), (xRow σ), (refuX (xRefus σ) ((-1) : Int32)), (xKept σ), (xRowLen σ), (xIsTaken σ)), rfl, hv, P_at ht hP⟩, hS.F ht⟩) hS.2.2 dX2_verdict_12

set_option maxHeartbeats 4000000 in
set_option maxRecDepth 100000 in
theorem m_X2_same (l : Launch) (h_X2_isPart : C_X2_isPart l) (h_X2_refused : C_X2_refused l) (h_X2_samePairs : C_X2_samePairs l) (g : CX) (ad : Nat → Nat) (σ : KX) (p0 : Int32) (Post : Int32 → KX → Prop) (hv : vc_X2_same σ p0 Post) : Met l yX2_same wsX2_same { frames := 3, cells := 0, slots := 0, locals := 67 } (va_Pc [.ref (ad 0), .int p0] (RW g (AD ad 0 45) (wX g ad σ))) (va_Qi (fun (r : Int32) (u : KX) => Post r u) (fun u t => va_P (gD g) vwCl (wX g ad u) t.heap) (AD ad 0 45)) 0 0 (AD ad 0 45) := by
  unfold vc_X2_same at hv
  refine Met.ofW (cc := cX2_same) (maxL := 2) (ret := (some .int)) (by decide) rfl ?_
  intro p e s m args below meth c s₁ B hml hv0
  obtain ⟨rfl, hP, hK, hE, hD⟩ := hv0
  have hx := B.exec
  have hb := B.bytes
  have hr := B.returns
  have hts := atoms_spec (ws := wsX2_same) B.pre
  have hown : s.vm.findClass RX2 = some m.cls := findClass_of_methodNamed B.named
  have hlocks := B.notSynchronized
  have hS : va_S (AD ad 0 45) s.heap s.heap [] := va_S.rf
  have hP : va_P (gD g) vwCl (wX g ad σ) s.heap := hP
  have hl := lv_entry ([.ref (ad 0), .int p0]) (n := 2) (Nat.le_of_ble_eq_true rfl)
  rw [lg_entry_eq]
  generalize (lg_sl ([.ref (ad 0), .int p0]) ++ List.replicate (2 - (lg_sl ([.ref (ad 0), .int p0])).length) Slot.unset).toArray = ls at hl ⊢
  have hl : lv_has ls 2 [(0, .ref (ad 0)), (1, .int p0)] := hl
  obtain ⟨H, hH⟩ : ∃ z, z = s.heap := ⟨_, rfl⟩
  obtain ⟨locs, hL⟩ : ∃ z : List Loc, z = [] := ⟨_, rfl⟩
  rw [← hL] at hS ⊢
  have hS : va_S (AD ad 0 45) s.heap H locs := by rw [hH]; exact hS
  rw [← hH] at hP ⊢
  clear hH hL
  refine lv_iload_n hx hb dX2_same_0 rfl (lv_at hl 1 rfl) ?_
  have hPc : va_P (gD g) vwCl [] H := fun k q h => by simp at h
  refine ro_int (va_runS (As := [.int p0]) (rest := []) ⟨hx, hb, hml, hown, hts⟩ (h_X2_isPart g p0) (va_cwS 1 hts gX2_same_X2_isPart rfl rfl rfl (by decide +kernel) ⟨Nat.le_of_ble_eq_true rfl, Nat.le_of_ble_eq_true rfl⟩) ⟨RO_blind, fun U hU hW => ⟨rfl, by rw [hU]; exact hPc, va_K.moved hW.alike hK, hE.call hW hU hS (fun _ h => h.elim)⟩⟩ rfl rfl hl.1 rfl (lv_room (Nat.le_of_ble_eq_true rfl)) dX2_same_1 ⟨Nat.le_of_ble_eq_true rfl, Nat.le_of_ble_eq_true rfl⟩) hS hP (fun r H locs hw hP hS => ?_)
  subst r
  refine lv_if_eq (tgt := 15) hx hb dX2_same_4 (by decide) (fun c4 => ?_) (fun c4 => ?_)
  · have hv := hv.1 c4
    refine lv_aload_n hx hb dX2_same_15 rfl (lv_at hl 0 rfl) ?_
    refine lv_bipush (v := (-2)) hx hb dX2_same_16 (by decide) ?_
    have h8 := hv.1
    have hv := hv.2
    have hPc := hP
    have hDc := hD
    refine rw_int (va_runV (As := [.int (-2)]) (rest := []) ⟨hx, hb, hml, hown, hts⟩ (h_X2_refused g ad σ (-2) h8) (cwV 1 hts gX2_same_X2_refused rfl rfl rfl (by decide +kernel) ⟨Nat.le_of_ble_eq_true rfl, Nat.le_of_ble_eq_true rfl⟩) ⟨RW_blind, va_recv hK hP (ci := 2) (q0 := 0) rfl rfl, fun U hU hW => ⟨rfl, by rw [hU]; exact hPc, va_K.moved hW.alike hK, hE.call hW hU hS (fun _ h => h), hDc⟩⟩ rfl rfl hl.1 rfl (lv_room (Nat.le_of_ble_eq_true rfl)) dX2_same_18 ⟨Nat.le_of_ble_eq_true rfl, Nat.le_of_ble_eq_true rfl⟩) hS (fun _ h => h) (fun r u H1 locs hw hP1 hk hS => ?_)
    obtain ⟨hw1, hw⟩ := hw; subst r; subst u
    have hP := hP1
    generalize H1 = H at hP hS ⊢
    have hP : va_P (gD g) vwCl (wX g ad ((xNow σ), (xTaken σ), (xTrial σ), (xScr σ), (xRow σ), (refuX (xRefus σ) ((-2) : Int32)), (xKept σ), (xRowLen σ), (xIsTaken σ))) H := hP
    have hD : va_D (AD ad 0 45) (wX g ad ((xNow σ), (xTaken σ), (xTrial σ), (xScr σ), (xRow σ), (refuX (xRefus σ) ((-2) : Int32)), (xKept σ), (xRowLen σ), (xIsTaken σ))) := hD.addr (by rfl)
    exact W.iret (v := (((-2) : Int32))) hx hb hr (fun t ht hW => ⟨⟨(((-2) : Int32)), ((xNow σ), (xTaken σ), (xTrial σ), (xScr σ), (xRow σ), (refuX (xRefus σ) ((-2) : Int32)), (xKept σ), (xRowLen σ), (xIsTaken σ)), rfl, hv, P_at ht hP⟩, hS.F ht⟩) hS.2.2 dX2_same_21
  · have hv := hv.2 c4
    refine lv_aload_n hx hb dX2_same_7 rfl (lv_at hl 0 rfl) ?_
    refine lv_iload_n hx hb dX2_same_8 rfl (lv_at hl 1 rfl) ?_
    have h8 := hv.1
    have hv := hv.2
    have hPc := hP
    refine ro_int (va_runV (As := [.int p0]) (rest := []) ⟨hx, hb, hml, hown, hts⟩ (h_X2_samePairs g ad σ p0 h8) (cwV 1 hts gX2_same_X2_samePairs rfl rfl rfl (by decide +kernel) ⟨Nat.le_of_ble_eq_true rfl, Nat.le_of_ble_eq_true rfl⟩) ⟨RO_blind, va_recv hK hP (ci := 2) (q0 := 0) rfl rfl, fun U hU hW => ⟨rfl, by rw [hU]; exact hPc, va_K.moved hW.alike hK, hE.call hW hU hS (fun _ h => h.elim)⟩⟩ rfl rfl hl.1 rfl (lv_room (Nat.le_of_ble_eq_true rfl)) dX2_same_9 ⟨Nat.le_of_ble_eq_true rfl, Nat.le_of_ble_eq_true rfl⟩) hS hP (fun r H locs hw hP hS => ?_)
    subst r
    refine lv_goto (tgt := 21) hx hb dX2_same_12 (by decide) ?_
    exact W.iret (v := (sameX (xNow σ) p0)) hx hb hr (fun t ht hW => ⟨⟨(sameX (xNow σ) p0), σ, rfl, hv, P_at ht hP⟩, hS.F ht⟩) hS.2.2 dX2_same_21

set_option maxHeartbeats 4000000 in
set_option maxRecDepth 100000 in
theorem m_X2_implies (l : Launch) (h_X0_fitting : C_X0_fitting l) (h_X0_hasQuestion : C_X0_hasQuestion l) (h_X0_truthOf : C_X0_truthOf l) (h_X2_refused : C_X2_refused l) (g : CX) (ad : Nat → Nat) (σ : KX) (p0 : Int32) (p1 : Int32) (Post : Int32 → KX → Prop) (hv : vc_X2_implies σ p0 p1 Post) : Met l yX2_implies wsX2_implies { frames := 5, cells := 0, slots := 0, locals := 114 } (va_Pc [.ref (ad 0), .int p0, .int p1] (RW g (AD ad 0 45) (wX g ad σ))) (va_Qi (fun (r : Int32) (u : KX) => Post r u) (fun u t => va_P (gD g) vwCl (wX g ad u) t.heap) (AD ad 0 45)) 0 0 (AD ad 0 45) := by
  unfold vc_X2_implies at hv
  refine Met.ofW (cc := cX2_implies) (maxL := 3) (ret := (some .int)) (by decide) rfl ?_
  intro p e s m args below meth c s₁ B hml hv0
  obtain ⟨rfl, hP, hK, hE, hD⟩ := hv0
  have hx := B.exec
  have hb := B.bytes
  have hr := B.returns
  have hts := atoms_spec (ws := wsX2_implies) B.pre
  have hown : s.vm.findClass RX2 = some m.cls := findClass_of_methodNamed B.named
  have hlocks := B.notSynchronized
  have hi2 : ∀ w ∈ wsX20, w ∈ wsX2_implies := by decide +kernel
  have k0 := hts (.fieldLink RX2 10 "JuryHearsAnswers" "now" "LJuryHearsAnswers$Court;") (by decide +kernel)
  have k1 := hts (.constantLong RX2 158 (-1)) (by decide +kernel)
  have hS : va_S (AD ad 0 45) s.heap s.heap [] := va_S.rf
  have hP : va_P (gD g) vwCl (wX g ad σ) s.heap := hP
  have hl := lv_entry ([.ref (ad 0), .int p0, .int p1]) (n := 3) (Nat.le_of_ble_eq_true rfl)
  rw [lg_entry_eq]
  generalize (lg_sl ([.ref (ad 0), .int p0, .int p1]) ++ List.replicate (3 - (lg_sl ([.ref (ad 0), .int p0, .int p1])).length) Slot.unset).toArray = ls at hl ⊢
  have hl : lv_has ls 3 [(0, .ref (ad 0)), (1, .int p0), (2, .int p1)] := hl
  obtain ⟨H, hH⟩ : ∃ z, z = s.heap := ⟨_, rfl⟩
  obtain ⟨locs, hL⟩ : ∃ z : List Loc, z = [] := ⟨_, rfl⟩
  rw [← hL] at hS ⊢
  have hS : va_S (AD ad 0 45) s.heap H locs := by rw [hH]; exact hS
  rw [← hH] at hP ⊢
  clear hH hL
  refine lv_aload_n hx hb dX2_implies_0 rfl (lv_at hl 0 rfl) ?_
  refine va_get (D := gD g) (ci := 2) (v := .ref (ad 4)) (C := RX2) (T := TX2) (N := 9) hx hb hts hi2 hown hK hP 0 rfl rfl 0 (by decide) k0 (fun _ h9 => h9) rfl dX2_implies_1 ?_
  refine lv_iload_n hx hb dX2_implies_4 rfl (lv_at hl 1 rfl) ?_
  have hPc : va_P (gD g) vwCl (wC g ad 4 (xNow σ)) H := hP.sub [4, 5, 6, 7, 8, 9, 10, 11, 12, 13, 14, 15, 16] rfl
  refine ro_int (va_runV (As := [.int p0]) (rest := []) ⟨hx, hb, hml, hown, hts⟩ (h_X0_hasQuestion g ad 4 (xNow σ) p0) (cwV 1 hts gX2_implies_X0_hasQuestion rfl rfl rfl (by decide +kernel) ⟨Nat.le_of_ble_eq_true rfl, Nat.le_of_ble_eq_true rfl⟩) ⟨RO_blind, va_recv hK hP (ci := 0) (q0 := 4) rfl rfl, fun U hU hW => ⟨rfl, by rw [hU]; exact hPc, va_K.moved hW.alike hK, hE.call hW hU hS (fun _ h => h.elim)⟩⟩ rfl rfl hl.1 rfl (lv_room (Nat.le_of_ble_eq_true rfl)) dX2_implies_5 ⟨Nat.le_of_ble_eq_true rfl, Nat.le_of_ble_eq_true rfl⟩) hS hP (fun r H locs hw hP hS => ?_)
  subst r
  refine lv_if_eq (tgt := 22) hx hb dX2_implies_8 (by decide) (fun c8 => ?_) (fun c8 => ?_)
  · have hv := hv.1 c8
    refine lv_aload_n hx hb dX2_implies_22 rfl (lv_at hl 0 rfl) ?_
    refine lv_iconst (v := (-1)) hx hb dX2_implies_23 (by decide) ?_
    have h8 := hv.1
    have hv := hv.2
    have hPc := hP
    have hDc := hD
    refine rw_int (va_runV (As := [.int (-1)]) (rest := []) ⟨hx, hb, hml, hown, hts⟩ (h_X2_refused g ad σ (-1) h8) (cwV 1 hts gX2_implies_X2_refused rfl rfl rfl (by decide +kernel) ⟨Nat.le_of_ble_eq_true rfl, Nat.le_of_ble_eq_true rfl⟩) ⟨RW_blind, va_recv hK hP (ci := 2) (q0 := 0) rfl rfl, fun U hU hW => ⟨rfl, by rw [hU]; exact hPc, va_K.moved hW.alike hK, hE.call hW hU hS (fun _ h => h), hDc⟩⟩ rfl rfl hl.1 rfl (lv_room (Nat.le_of_ble_eq_true rfl)) dX2_implies_24 ⟨Nat.le_of_ble_eq_true rfl, Nat.le_of_ble_eq_true rfl⟩) hS (fun _ h => h) (fun r u H1 locs hw hP1 hk hS => ?_)
    obtain ⟨hw1, hw⟩ := hw; subst r; subst u
    have hP := hP1
    generalize H1 = H at hP hS ⊢
    have hP : va_P (gD g) vwCl (wX g ad ((xNow σ), (xTaken σ), (xTrial σ), (xScr σ), (xRow σ), (refuX (xRefus σ) ((-1) : Int32)), (xKept σ), (xRowLen σ), (xIsTaken σ))) H := hP
    have hD : va_D (AD ad 0 45) (wX g ad ((xNow σ), (xTaken σ), (xTrial σ), (xScr σ), (xRow σ), (refuX (xRefus σ) ((-1) : Int32)), (xKept σ), (xRowLen σ), (xIsTaken σ))) := hD.addr (by rfl)
    exact W.iret (v := (((-1) : Int32))) hx hb hr (fun t ht hW => ⟨⟨(((-1) : Int32)), ((xNow σ), (xTaken σ), (xTrial σ), (xScr σ), (xRow σ), (refuX (xRefus σ) ((-1) : Int32)), (xKept σ), (xRowLen σ), (xIsTaken σ)), rfl, hv, P_at ht hP⟩, hS.F ht⟩) hS.2.2 dX2_implies_27
  · have hv := hv.2 c8
    refine lv_aload_n hx hb dX2_implies_11 rfl (lv_at hl 0 rfl) ?_
    refine va_get (D := gD g) (ci := 2) (v := .ref (ad 4)) (C := RX2) (T := TX2) (N := 9) hx hb hts hi2 hown hK hP 0 rfl rfl 0 (by decide) k0 (fun _ h9 => h9) rfl dX2_implies_12 ?_
    refine lv_iload_n hx hb dX2_implies_15 rfl (lv_at hl 2 rfl) ?_
    have hPc : va_P (gD g) vwCl (wC g ad 4 (xNow σ)) H := hP.sub [4, 5, 6, 7, 8, 9, 10, 11, 12, 13, 14, 15, 16] rfl
    refine ro_int (va_runV (As := [.int p1]) (rest := []) ⟨hx, hb, hml, hown, hts⟩ (h_X0_hasQuestion g ad 4 (xNow σ) p1) (cwV 1 hts gX2_implies_X0_hasQuestion rfl rfl rfl (by decide +kernel) ⟨Nat.le_of_ble_eq_true rfl, Nat.le_of_ble_eq_true rfl⟩) ⟨RO_blind, va_recv hK hP (ci := 0) (q0 := 4) rfl rfl, fun U hU hW => ⟨rfl, by rw [hU]; exact hPc, va_K.moved hW.alike hK, hE.call hW hU hS (fun _ h => h.elim)⟩⟩ rfl rfl hl.1 rfl (lv_room (Nat.le_of_ble_eq_true rfl)) dX2_implies_16 ⟨Nat.le_of_ble_eq_true rfl, Nat.le_of_ble_eq_true rfl⟩) hS hP (fun r H locs hw hP hS => ?_)
    subst r
    refine lv_if_ne (tgt := 28) hx hb dX2_implies_19 (by decide) (fun c19 => ?_) (fun c19 => ?_)
    · have hv := hv.1 c19
      refine lv_aload_n hx hb dX2_implies_28 rfl (lv_at hl 0 rfl) ?_
      refine va_get (D := gD g) (ci := 2) (v := .ref (ad 4)) (C := RX2) (T := TX2) (N := 9) hx hb hts hi2 hown hK hP 0 rfl rfl 0 (by decide) k0 (fun _ h9 => h9) rfl dX2_implies_29 ?_
      have h8 := hv.1
      have hv := hv.2
      have hPc : va_P (gD g) vwCl (wC g ad 4 (xNow σ)) H := hP.sub [4, 5, 6, 7, 8, 9, 10, 11, 12, 13, 14, 15, 16] rfl
      refine ro_long (va_runV (As := []) (rest := []) ⟨hx, hb, hml, hown, hts⟩ (h_X0_fitting g ad 4 (xNow σ) h8) (cwV 0 hts gX2_implies_X0_fitting rfl rfl rfl (by decide +kernel) ⟨Nat.le_of_ble_eq_true rfl, Nat.le_of_ble_eq_true rfl⟩) ⟨RO_blind, va_recv hK hP (ci := 0) (q0 := 4) rfl rfl, fun U hU hW => ⟨rfl, by rw [hU]; exact hPc, va_K.moved hW.alike hK, hE.call hW hU hS (fun _ h => h.elim)⟩⟩ rfl rfl hl.1 rfl (lv_room (Nat.le_of_ble_eq_true rfl)) dX2_implies_32 ⟨Nat.le_of_ble_eq_true rfl, Nat.le_of_ble_eq_true rfl⟩) hS hP (fun r H locs hw hP hS => ?_)
      subst r
      refine lv_aload_n hx hb dX2_implies_35 rfl (lv_at hl 0 rfl) ?_
      refine va_get (D := gD g) (ci := 2) (v := .ref (ad 4)) (C := RX2) (T := TX2) (N := 9) hx hb hts hi2 hown hK hP 0 rfl rfl 0 (by decide) k0 (fun _ h9 => h9) rfl dX2_implies_36 ?_
      refine lv_iload_n hx hb dX2_implies_39 rfl (lv_at hl 1 rfl) ?_
      have hPc : va_P (gD g) vwCl (wC g ad 4 (xNow σ)) H := hP.sub [4, 5, 6, 7, 8, 9, 10, 11, 12, 13, 14, 15, 16] rfl
      refine ro_long (va_runV (As := [.int p0]) (rest := [.long (fittingL (xNow σ))]) ⟨hx, hb, hml, hown, hts⟩ (h_X0_truthOf g ad 4 (xNow σ) p0) (cwV 1 hts gX2_implies_X0_truthOf rfl rfl rfl (by decide +kernel) ⟨Nat.le_of_ble_eq_true rfl, Nat.le_of_ble_eq_true rfl⟩) ⟨RO_blind, va_recv hK hP (ci := 0) (q0 := 4) rfl rfl, fun U hU hW => ⟨rfl, by rw [hU]; exact hPc, va_K.moved hW.alike hK, hE.call hW hU hS (fun _ h => h.elim)⟩⟩ rfl rfl hl.1 rfl (lv_room (Nat.le_of_ble_eq_true rfl)) dX2_implies_40 ⟨Nat.le_of_ble_eq_true rfl, Nat.le_of_ble_eq_true rfl⟩) hS hP (fun r H locs hw hP hS => ?_)
      subst r
      refine lv_land hx hb dX2_implies_43 ?_
      refine lv_aload_n hx hb dX2_implies_44 rfl (lv_at hl 0 rfl) ?_
      refine va_get (D := gD g) (ci := 2) (v := .ref (ad 4)) (C := RX2) (T := TX2) (N := 9) hx hb hts hi2 hown hK hP 0 rfl rfl 0 (by decide) k0 (fun _ h9 => h9) rfl dX2_implies_45 ?_
      refine lv_iload_n hx hb dX2_implies_48 rfl (lv_at hl 2 rfl) ?_
      have hPc : va_P (gD g) vwCl (wC g ad 4 (xNow σ)) H := hP.sub [4, 5, 6, 7, 8, 9, 10, 11, 12, 13, 14, 15, 16] rfl
      refine ro_long (va_runV (As := [.int p1]) (rest := [.long ((fittingL (xNow σ)) &&& (truthOfL (xNow σ) p0))]) ⟨hx, hb, hml, hown, hts⟩ (h_X0_truthOf g ad 4 (xNow σ) p1) (cwV 1 hts gX2_implies_X0_truthOf rfl rfl rfl (by decide +kernel) ⟨Nat.le_of_ble_eq_true rfl, Nat.le_of_ble_eq_true rfl⟩) ⟨RO_blind, va_recv hK hP (ci := 0) (q0 := 4) rfl rfl, fun U hU hW => ⟨rfl, by rw [hU]; exact hPc, va_K.moved hW.alike hK, hE.call hW hU hS (fun _ h => h.elim)⟩⟩ rfl rfl hl.1 rfl (lv_room (Nat.le_of_ble_eq_true rfl)) dX2_implies_49 ⟨Nat.le_of_ble_eq_true rfl, Nat.le_of_ble_eq_true rfl⟩) hS hP (fun r H locs hw hP hS => ?_)
      subst r
      refine lv_ldc2 hx hb hown k1 dX2_implies_52 ?_
      refine lv_lxor hx hb dX2_implies_55 ?_
      refine lv_land hx hb dX2_implies_56 ?_
      refine lv_lconst (v := 0) hx hb dX2_implies_57 (by decide) ?_
      refine W.lcmp hx hb dX2_implies_58 ?_
      refine lv_if_ne (tgt := 66) hx hb dX2_implies_59 (by decide) (fun c59 => ?_) (fun c59 => ?_)
      · have hv := hv.1 c59
        refine lv_iconst (v := 0) hx hb dX2_implies_66 (by decide) ?_
        exact W.iret (v := 0) hx hb hr (fun t ht hW => ⟨⟨0, σ, rfl, hv, P_at ht hP⟩, hS.F ht⟩) hS.2.2 dX2_implies_67
      · have hv := hv.2 c59
        refine lv_iconst (v := 1) hx hb dX2_implies_62 (by decide) ?_
        refine lv_goto (tgt := 67) hx hb dX2_implies_63 (by decide) ?_
        exact W.iret (v := 1) hx hb hr (fun t ht hW => ⟨⟨1, σ, rfl, hv, P_at ht hP⟩, hS.F ht⟩) hS.2.2 dX2_implies_67
    · have hv := hv.2 c19
      refine lv_aload_n hx hb dX2_implies_22 rfl (lv_at hl 0 rfl) ?_
      refine lv_iconst (v := (-1)) hx hb dX2_implies_23 (by decide) ?_
      have h8 := hv.1
      have hv := hv.2
      have hPc := hP
      have hDc := hD
      refine rw_int (va_runV (As := [.int (-1)]) (rest := []) ⟨hx, hb, hml, hown, hts⟩ (h_X2_refused g ad σ (-1) h8) (cwV 1 hts gX2_implies_X2_refused rfl rfl rfl (by decide +kernel) ⟨Nat.le_of_ble_eq_true rfl, Nat.le_of_ble_eq_true rfl⟩) ⟨RW_blind, va_recv hK hP (ci := 2) (q0 := 0) rfl rfl, fun U hU hW => ⟨rfl, by rw [hU]; exact hPc, va_K.moved hW.alike hK, hE.call hW hU hS (fun _ h => h), hDc⟩⟩ rfl rfl hl.1 rfl (lv_room (Nat.le_of_ble_eq_true rfl)) dX2_implies_24 ⟨Nat.le_of_ble_eq_true rfl, Nat.le_of_ble_eq_true rfl⟩) hS (fun _ h => h) (fun r u H1 locs hw hP1 hk hS => ?_)
      obtain ⟨hw1, hw⟩ := hw; subst r; subst u
      have hP := hP1
      generalize H1 = H at hP hS ⊢
      have hP : va_P (gD g) vwCl (wX g ad ((xNow σ), (xTaken σ), (xTrial σ), (xScr σ), (xRow σ), (refuX (xRefus σ) ((-1) : Int32)), (xKept σ), (xRowLen σ), (xIsTaken σ))) H := hP
      have hD : va_D (AD ad 0 45) (wX g ad ((xNow σ), (xTaken σ), (xTrial σ), (xScr σ), (xRow σ), (refuX (xRefus σ) ((-1) : Int32)), (xKept σ), (xRowLen σ), (xIsTaken σ))) := hD.addr (by rfl)
      exact W.iret (v := (((-1) : Int32))) hx hb hr (fun t ht hW => ⟨⟨(((-1) : Int32)), ((xNow σ), (xTaken σ), (xTrial σ), (xScr σ), (xRow σ), (refuX (xRefus σ) ((-1) : Int32)), (xKept σ), (xRowLen σ), (xIsTaken σ)), rfl, hv, P_at ht hP⟩, hS.F ht⟩) hS.2.2 dX2_implies_27

set_option maxHeartbeats 4000000 in
set_option maxRecDepth 100000 in
theorem m_X2_two (l : Launch) (h_X0_hasQuestion : C_X0_hasQuestion l) (h_X0_hasWitness : C_X0_hasWitness l) (h_X2_refused : C_X2_refused l) (h_X2_settledPair : C_X2_settledPair l) (g : CX) (ad : Nat → Nat) (σ : KX) (p0 : Int32) (p1 : Int32) (p2 : Int32) (Post : Int32 → KX → Prop) (hv : vc_X2_two σ p0 p1 p2 Post) : Met l yX2_two wsX2_two { frames := 6, cells := 0, slots := 0, locals := 150 } (va_Pc [.ref (ad 0), .int p0, .int p1, .int p2] (RW g (AD ad 0 45) (wX g ad σ))) (va_Qi (fun (r : Int32) (u : KX) => Post r u) (fun u t => va_P (gD g) vwCl (wX g ad u) t.heap) (AD ad 0 45)) 0 0 (AD ad 0 45) := by
  unfold vc_X2_two at hv
  refine Met.ofW (cc := cX2_two) (maxL := 4) (ret := (some .int)) (by decide) rfl ?_
  intro p e s m args below meth c s₁ B hml hv0
  obtain ⟨rfl, hP, hK, hE, hD⟩ := hv0
  have hx := B.exec
  have hb := B.bytes
  have hr := B.returns
  have hts := atoms_spec (ws := wsX2_two) B.pre
  have hown : s.vm.findClass RX2 = some m.cls := findClass_of_methodNamed B.named
  have hlocks := B.notSynchronized
  have hi2 : ∀ w ∈ wsX20, w ∈ wsX2_two := by decide +kernel
  have k0 := hts (.fieldLink RX2 10 "JuryHearsAnswers" "now" "LJuryHearsAnswers$Court;") (by decide +kernel)
  have hS : va_S (AD ad 0 45) s.heap s.heap [] := va_S.rf
  have hP : va_P (gD g) vwCl (wX g ad σ) s.heap := hP
  have hl := lv_entry ([.ref (ad 0), .int p0, .int p1, .int p2]) (n := 4) (Nat.le_of_ble_eq_true rfl)
  rw [lg_entry_eq]
  generalize (lg_sl ([.ref (ad 0), .int p0, .int p1, .int p2]) ++ List.replicate (4 - (lg_sl ([.ref (ad 0), .int p0, .int p1, .int p2])).length) Slot.unset).toArray = ls at hl ⊢
  have hl : lv_has ls 4 [(0, .ref (ad 0)), (1, .int p0), (2, .int p1), (3, .int p2)] := hl
  obtain ⟨H, hH⟩ : ∃ z, z = s.heap := ⟨_, rfl⟩
  obtain ⟨locs, hL⟩ : ∃ z : List Loc, z = [] := ⟨_, rfl⟩
  rw [← hL] at hS ⊢
  have hS : va_S (AD ad 0 45) s.heap H locs := by rw [hH]; exact hS
  rw [← hH] at hP ⊢
  clear hH hL
  refine lv_aload_n hx hb dX2_two_0 rfl (lv_at hl 0 rfl) ?_
  refine va_get (D := gD g) (ci := 2) (v := .ref (ad 4)) (C := RX2) (T := TX2) (N := 9) hx hb hts hi2 hown hK hP 0 rfl rfl 0 (by decide) k0 (fun _ h9 => h9) rfl dX2_two_1 ?_
  refine lv_iload_n hx hb dX2_two_4 rfl (lv_at hl 1 rfl) ?_
  have hPc : va_P (gD g) vwCl (wC g ad 4 (xNow σ)) H := hP.sub [4, 5, 6, 7, 8, 9, 10, 11, 12, 13, 14, 15, 16] rfl
  refine ro_int (va_runV (As := [.int p0]) (rest := []) ⟨hx, hb, hml, hown, hts⟩ (h_X0_hasWitness g ad 4 (xNow σ) p0) (cwV 1 hts gX2_two_X0_hasWitness rfl rfl rfl (by decide +kernel) ⟨Nat.le_of_ble_eq_true rfl, Nat.le_of_ble_eq_true rfl⟩) ⟨RO_blind, va_recv hK hP (ci := 0) (q0 := 4) rfl rfl, fun U hU hW => ⟨rfl, by rw [hU]; exact hPc, va_K.moved hW.alike hK, hE.call hW hU hS (fun _ h => h.elim)⟩⟩ rfl rfl hl.1 rfl (lv_room (Nat.le_of_ble_eq_true rfl)) dX2_two_5 ⟨Nat.le_of_ble_eq_true rfl, Nat.le_of_ble_eq_true rfl⟩) hS hP (fun r H locs hw hP hS => ?_)
  subst r
  refine lv_if_eq (tgt := 33) hx hb dX2_two_8 (by decide) (fun c8 => ?_) (fun c8 => ?_)
  · have hv := hv.1 c8
    refine lv_aload_n hx hb dX2_two_33 rfl (lv_at hl 0 rfl) ?_
    refine lv_iconst (v := (-1)) hx hb dX2_two_34 (by decide) ?_
    have h8 := hv.1
    have hv := hv.2
    have hPc := hP
    have hDc := hD
    refine rw_int (va_runV (As := [.int (-1)]) (rest := []) ⟨hx, hb, hml, hown, hts⟩ (h_X2_refused g ad σ (-1) h8) (cwV 1 hts gX2_two_X2_refused rfl rfl rfl (by decide +kernel) ⟨Nat.le_of_ble_eq_true rfl, Nat.le_of_ble_eq_true rfl⟩) ⟨RW_blind, va_recv hK hP (ci := 2) (q0 := 0) rfl rfl, fun U hU hW => ⟨rfl, by rw [hU]; exact hPc, va_K.moved hW.alike hK, hE.call hW hU hS (fun _ h => h), hDc⟩⟩ rfl rfl hl.1 rfl (lv_room (Nat.le_of_ble_eq_true rfl)) dX2_two_35 ⟨Nat.le_of_ble_eq_true rfl, Nat.le_of_ble_eq_true rfl⟩) hS (fun _ h => h) (fun r u H1 locs hw hP1 hk hS => ?_)
    obtain ⟨hw1, hw⟩ := hw; subst r; subst u
    have hP := hP1
    generalize H1 = H at hP hS ⊢
    have hP : va_P (gD g) vwCl (wX g ad ((xNow σ), (xTaken σ), (xTrial σ), (xScr σ), (xRow σ), (refuX (xRefus σ) ((-1) : Int32)), (xKept σ), (xRowLen σ), (xIsTaken σ))) H := hP
    have hD : va_D (AD ad 0 45) (wX g ad ((xNow σ), (xTaken σ), (xTrial σ), (xScr σ), (xRow σ), (refuX (xRefus σ) ((-1) : Int32)), (xKept σ), (xRowLen σ), (xIsTaken σ))) := hD.addr (by rfl)
    exact W.iret (v := (((-1) : Int32))) hx hb hr (fun t ht hW => ⟨⟨(((-1) : Int32)), ((xNow σ), (xTaken σ), (xTrial σ), (xScr σ), (xRow σ), (refuX (xRefus σ) ((-1) : Int32)), (xKept σ), (xRowLen σ), (xIsTaken σ)), rfl, hv, P_at ht hP⟩, hS.F ht⟩) hS.2.2 dX2_two_38
  · have hv := hv.2 c8
    refine lv_aload_n hx hb dX2_two_11 rfl (lv_at hl 0 rfl) ?_
    refine va_get (D := gD g) (ci := 2) (v := .ref (ad 4)) (C := RX2) (T := TX2) (N := 9) hx hb hts hi2 hown hK hP 0 rfl rfl 0 (by decide) k0 (fun _ h9 => h9) rfl dX2_two_12 ?_
    refine lv_iload_n hx hb dX2_two_15 rfl (lv_at hl 2 rfl) ?_
    have hPc : va_P (gD g) vwCl (wC g ad 4 (xNow σ)) H := hP.sub [4, 5, 6, 7, 8, 9, 10, 11, 12, 13, 14, 15, 16] rfl
    refine ro_int (va_runV (As := [.int p1]) (rest := []) ⟨hx, hb, hml, hown, hts⟩ (h_X0_hasQuestion g ad 4 (xNow σ) p1) (cwV 1 hts gX2_two_X0_hasQuestion rfl rfl rfl (by decide +kernel) ⟨Nat.le_of_ble_eq_true rfl, Nat.le_of_ble_eq_true rfl⟩) ⟨RO_blind, va_recv hK hP (ci := 0) (q0 := 4) rfl rfl, fun U hU hW => ⟨rfl, by rw [hU]; exact hPc, va_K.moved hW.alike hK, hE.call hW hU hS (fun _ h => h.elim)⟩⟩ rfl rfl hl.1 rfl (lv_room (Nat.le_of_ble_eq_true rfl)) dX2_two_16 ⟨Nat.le_of_ble_eq_true rfl, Nat.le_of_ble_eq_true rfl⟩) hS hP (fun r H locs hw hP hS => ?_)
    subst r
    refine lv_if_eq (tgt := 33) hx hb dX2_two_19 (by decide) (fun c19 => ?_) (fun c19 => ?_)
    · have hv := hv.1 c19
      refine lv_aload_n hx hb dX2_two_33 rfl (lv_at hl 0 rfl) ?_
      refine lv_iconst (v := (-1)) hx hb dX2_two_34 (by decide) ?_
      have h8 := hv.1
      have hv := hv.2
      have hPc := hP
      have hDc := hD
      refine rw_int (va_runV (As := [.int (-1)]) (rest := []) ⟨hx, hb, hml, hown, hts⟩ (h_X2_refused g ad σ (-1) h8) (cwV 1 hts gX2_two_X2_refused rfl rfl rfl (by decide +kernel) ⟨Nat.le_of_ble_eq_true rfl, Nat.le_of_ble_eq_true rfl⟩) ⟨RW_blind, va_recv hK hP (ci := 2) (q0 := 0) rfl rfl, fun U hU hW => ⟨rfl, by rw [hU]; exact hPc, va_K.moved hW.alike hK, hE.call hW hU hS (fun _ h => h), hDc⟩⟩ rfl rfl hl.1 rfl (lv_room (Nat.le_of_ble_eq_true rfl)) dX2_two_35 ⟨Nat.le_of_ble_eq_true rfl, Nat.le_of_ble_eq_true rfl⟩) hS (fun _ h => h) (fun r u H1 locs hw hP1 hk hS => ?_)
      obtain ⟨hw1, hw⟩ := hw; subst r; subst u
      have hP := hP1
      generalize H1 = H at hP hS ⊢
      have hP : va_P (gD g) vwCl (wX g ad ((xNow σ), (xTaken σ), (xTrial σ), (xScr σ), (xRow σ), (refuX (xRefus σ) ((-1) : Int32)), (xKept σ), (xRowLen σ), (xIsTaken σ))) H := hP
      have hD : va_D (AD ad 0 45) (wX g ad ((xNow σ), (xTaken σ), (xTrial σ), (xScr σ), (xRow σ), (refuX (xRefus σ) ((-1) : Int32)), (xKept σ), (xRowLen σ), (xIsTaken σ))) := hD.addr (by rfl)
      exact W.iret (v := (((-1) : Int32))) hx hb hr (fun t ht hW => ⟨⟨(((-1) : Int32)), ((xNow σ), (xTaken σ), (xTrial σ), (xScr σ), (xRow σ), (refuX (xRefus σ) ((-1) : Int32)), (xKept σ), (xRowLen σ), (xIsTaken σ)), rfl, hv, P_at ht hP⟩, hS.F ht⟩) hS.2.2 dX2_two_38
    · have hv := hv.2 c19
      refine lv_aload_n hx hb dX2_two_22 rfl (lv_at hl 0 rfl) ?_
      refine va_get (D := gD g) (ci := 2) (v := .ref (ad 4)) (C := RX2) (T := TX2) (N := 9) hx hb hts hi2 hown hK hP 0 rfl rfl 0 (by decide) k0 (fun _ h9 => h9) rfl dX2_two_23 ?_
      refine lv_iload_n hx hb dX2_two_26 rfl (lv_at hl 3 rfl) ?_
      have hPc : va_P (gD g) vwCl (wC g ad 4 (xNow σ)) H := hP.sub [4, 5, 6, 7, 8, 9, 10, 11, 12, 13, 14, 15, 16] rfl
      refine ro_int (va_runV (As := [.int p2]) (rest := []) ⟨hx, hb, hml, hown, hts⟩ (h_X0_hasQuestion g ad 4 (xNow σ) p2) (cwV 1 hts gX2_two_X0_hasQuestion rfl rfl rfl (by decide +kernel) ⟨Nat.le_of_ble_eq_true rfl, Nat.le_of_ble_eq_true rfl⟩) ⟨RO_blind, va_recv hK hP (ci := 0) (q0 := 4) rfl rfl, fun U hU hW => ⟨rfl, by rw [hU]; exact hPc, va_K.moved hW.alike hK, hE.call hW hU hS (fun _ h => h.elim)⟩⟩ rfl rfl hl.1 rfl (lv_room (Nat.le_of_ble_eq_true rfl)) dX2_two_27 ⟨Nat.le_of_ble_eq_true rfl, Nat.le_of_ble_eq_true rfl⟩) hS hP (fun r H locs hw hP hS => ?_)
      subst r
      refine lv_if_ne (tgt := 39) hx hb dX2_two_30 (by decide) (fun c30 => ?_) (fun c30 => ?_)
      · have hv := hv.1 c30
        refine lv_aload_n hx hb dX2_two_39 rfl (lv_at hl 0 rfl) ?_
        refine lv_iload_n hx hb dX2_two_40 rfl (lv_at hl 1 rfl) ?_
        refine lv_iload_n hx hb dX2_two_41 rfl (lv_at hl 2 rfl) ?_
        refine lv_iload_n hx hb dX2_two_42 rfl (lv_at hl 3 rfl) ?_
        have h8 := hv.1
        have hv := hv.2
        have hPc := hP
        refine ro_int (va_runV (As := [.int p0, .int p1, .int p2]) (rest := []) ⟨hx, hb, hml, hown, hts⟩ (h_X2_settledPair g ad σ p0 p1 p2 h8) (cwV 3 hts gX2_two_X2_settledPair rfl rfl rfl (by decide +kernel) ⟨Nat.le_of_ble_eq_true rfl, Nat.le_of_ble_eq_true rfl⟩) ⟨RO_blind, va_recv hK hP (ci := 2) (q0 := 0) rfl rfl, fun U hU hW => ⟨rfl, by rw [hU]; exact hPc, va_K.moved hW.alike hK, hE.call hW hU hS (fun _ h => h.elim)⟩⟩ rfl rfl hl.1 rfl (lv_room (Nat.le_of_ble_eq_true rfl)) dX2_two_43 ⟨Nat.le_of_ble_eq_true rfl, Nat.le_of_ble_eq_true rfl⟩) hS hP (fun r H locs hw hP hS => ?_)
        subst r
        exact W.iret (v := (twoX (xNow σ) p0 p1 p2)) hx hb hr (fun t ht hW => ⟨⟨(twoX (xNow σ) p0 p1 p2), σ, rfl, hv, P_at ht hP⟩, hS.F ht⟩) hS.2.2 dX2_two_46
      · have hv := hv.2 c30
        refine lv_aload_n hx hb dX2_two_33 rfl (lv_at hl 0 rfl) ?_
        refine lv_iconst (v := (-1)) hx hb dX2_two_34 (by decide) ?_
        have h8 := hv.1
        have hv := hv.2
        have hPc := hP
        have hDc := hD
        refine rw_int (va_runV (As := [.int (-1)]) (rest := []) ⟨hx, hb, hml, hown, hts⟩ (h_X2_refused g ad σ (-1) h8) (cwV 1 hts gX2_two_X2_refused rfl rfl rfl (by decide +kernel) ⟨Nat.le_of_ble_eq_true rfl, Nat.le_of_ble_eq_true rfl⟩) ⟨RW_blind, va_recv hK hP (ci := 2) (q0 := 0) rfl rfl, fun U hU hW => ⟨rfl, by rw [hU]; exact hPc, va_K.moved hW.alike hK, hE.call hW hU hS (fun _ h => h), hDc⟩⟩ rfl rfl hl.1 rfl (lv_room (Nat.le_of_ble_eq_true rfl)) dX2_two_35 ⟨Nat.le_of_ble_eq_true rfl, Nat.le_of_ble_eq_true rfl⟩) hS (fun _ h => h) (fun r u H1 locs hw hP1 hk hS => ?_)
        obtain ⟨hw1, hw⟩ := hw; subst r; subst u
        have hP := hP1
        generalize H1 = H at hP hS ⊢
        have hP : va_P (gD g) vwCl (wX g ad ((xNow σ), (xTaken σ), (xTrial σ), (xScr σ), (xRow σ), (refuX (xRefus σ) ((-1) : Int32)), (xKept σ), (xRowLen σ), (xIsTaken σ))) H := hP
        have hD : va_D (AD ad 0 45) (wX g ad ((xNow σ), (xTaken σ), (xTrial σ), (xScr σ), (xRow σ), (refuX (xRefus σ) ((-1) : Int32)), (xKept σ), (xRowLen σ), (xIsTaken σ))) := hD.addr (by rfl)
        exact W.iret (v := (((-1) : Int32))) hx hb hr (fun t ht hW => ⟨⟨(((-1) : Int32)), ((xNow σ), (xTaken σ), (xTrial σ), (xScr σ), (xRow σ), (refuX (xRefus σ) ((-1) : Int32)), (xKept σ), (xRowLen σ), (xIsTaken σ)), rfl, hv, P_at ht hP⟩, hS.F ht⟩) hS.2.2 dX2_two_38

set_option maxHeartbeats 4000000 in
set_option maxRecDepth 100000 in
theorem m_X2_drawn (l : Launch) (h_X0_fitting : C_X0_fitting l) (h_X0_hasWitness : C_X0_hasWitness l) (h_X2_factCases : C_X2_factCases l) (h_X2_fillKept : C_X2_fillKept l) (h_X2_inLeastTerms : C_X2_inLeastTerms l) (h_X2_isFact : C_X2_isFact l) (h_X2_isPart : C_X2_isPart l) (h_X2_longRefused : C_X2_longRefused l) (h_X2_waysSure_4 : C_X2_waysSure_4 l) (g : CX) (ad : Nat → Nat) (σ : KX) (p0 : Int32) (p1 : Int32) (p2 : Int32) (p3 : Int32) (Post : Int64 → KX → Prop) (hv : vc_X2_drawn σ p0 p1 p2 p3 Post) : Met l yX2_drawn wsX2_drawn { frames := 6, cells := 0, slots := 0, locals := 180 } (va_Pc [.ref (ad 0), .int p0, .int p1, .int p2, .int p3] (RW g (AD ad 0 45) (wX g ad σ))) (va_Ql (fun (r : Int64) (u : KX) => Post r u) (fun u t => va_P (gD g) vwCl (wX g ad u) t.heap) (AD ad 0 45)) 0 0 (AD ad 0 45) := by
  unfold vc_X2_drawn at hv
  refine Met.ofW (cc := cX2_drawn) (maxL := 7) (ret := (some .long)) (by decide) rfl ?_
  intro p e s m args below meth c s₁ B hml hv0
  obtain ⟨rfl, hP, hK, hE, hD⟩ := hv0
  have hx := B.exec
  have hb := B.bytes
  have hr := B.returns
  have hts := atoms_spec (ws := wsX2_drawn) B.pre
  have hown : s.vm.findClass RX2 = some m.cls := findClass_of_methodNamed B.named
  have hlocks := B.notSynchronized
  have hi0 : ∀ w ∈ wsX00, w ∈ wsX2_drawn := by decide +kernel
  have hi2 : ∀ w ∈ wsX20, w ∈ wsX2_drawn := by decide +kernel
  have k0 := hts (.fieldLink RX2 10 "JuryHearsAnswers" "now" "LJuryHearsAnswers$Court;") (by decide +kernel)
  have k1 := hts (.fieldLink RX2 179 "JuryHearsAnswers$Court" "questions" "I") (by decide +kernel)
  have k2 := hts (.fieldLink RX2 36 "JuryHearsAnswers" "kept" "[J") (by decide +kernel)
  have hS : va_S (AD ad 0 45) s.heap s.heap [] := va_S.rf
  have hP : va_P (gD g) vwCl (wX g ad σ) s.heap := hP
  have hl := lv_entry ([.ref (ad 0), .int p0, .int p1, .int p2, .int p3]) (n := 7) (Nat.le_of_ble_eq_true rfl)
  rw [lg_entry_eq]
  generalize (lg_sl ([.ref (ad 0), .int p0, .int p1, .int p2, .int p3]) ++ List.replicate (7 - (lg_sl ([.ref (ad 0), .int p0, .int p1, .int p2, .int p3])).length) Slot.unset).toArray = ls at hl ⊢
  have hl : lv_has ls 7 [(0, .ref (ad 0)), (1, .int p0), (2, .int p1), (3, .int p2), (4, .int p3)] := hl
  have hv := hv (fun (x5 : Int32) (x6 : Int32) (s_kept : FL) (s_refus : FI) => ∀ (H : Heap) (locs : List Loc) (ls : Array Slot), va_P (gD g) vwCl (wX g ad ((xNow σ), (xTaken σ), (xTrial σ), (xScr σ), (xRow σ), s_refus, s_kept, (xRowLen σ), (xIsTaken σ))) H → va_D (AD ad 0 45) (wX g ad ((xNow σ), (xTaken σ), (xTrial σ), (xScr σ), (xRow σ), s_refus, s_kept, (xRowLen σ), (xIsTaken σ))) → va_S (AD ad 0 45) s.heap H locs → lv_has ls 7 [(0, .ref (ad 0)), (2, .int p1), (3, .int p2), (4, .int p3), (5, .int x5), (6, .int x6)] → W p l e { frames := 6, cells := 0, slots := 0, locals := 180 } s m ([.ref (ad 0), .int p0, .int p1, .int p2, .int p3] : List Value).toArray below meth c H locs 0 0 (MQ below (va_Ql (fun (r : Int64) (u : KX) => Post r u) (fun u t => va_P (gD g) vwCl (wX g ad u) t.heap) (AD ad 0 45)) ([.ref (ad 0), .int p0, .int p1, .int p2, .int p3] : List Value).toArray s 0 0 (AD ad 0 45)) (F0 m 90 ls []))
  have hv := hv (by
    intro x5 x6 s_kept s_refus hv H locs ls hP hD hS hl
    refine lv_iload hx hb dX2_drawn_90 (lv_at hl 5 rfl) ?_
    refine lv_iload_n hx hb dX2_drawn_92 rfl (lv_at hl 1 rfl) ?_
    refine lv_icmp_ge (tgt := 114) hx hb dX2_drawn_93 (by decide) (fun c93 => ?_) (fun c93 => ?_)
    · have hv := hv.1 c93
      refine lv_aload_n hx hb dX2_drawn_114 rfl (lv_at hl 0 rfl) ?_
      refine va_get (D := gD g) (ci := 2) (v := .ref (ad 3)) (C := RX2) (T := TX2) (N := 9) hx hb hts hi2 hown hK hP 0 rfl rfl 6 (by decide) k2 (fun _ h9 => h9) rfl dX2_drawn_115 ?_
      refine lv_aload_n hx hb dX2_drawn_118 rfl (lv_at hl 0 rfl) ?_
      refine va_get (D := gD g) (ci := 2) (v := .ref (ad 4)) (C := RX2) (T := TX2) (N := 9) hx hb hts hi2 hown hK hP 0 rfl rfl 0 (by decide) k0 (fun _ h9 => h9) rfl dX2_drawn_119 ?_
      refine va_get (D := gD g) (ci := 0) (v := .int (sNq (cS (xNow σ)))) (C := RX0) (T := TX0) (N := 17) hx hb hts hi0 hown hK hP 4 rfl rfl 2 (by decide) k1 (fun _ h9 => h9) rfl dX2_drawn_122 ?_
      refine lv_aload_n hx hb dX2_drawn_125 rfl (lv_at hl 0 rfl) ?_
      refine va_get (D := gD g) (ci := 2) (v := .ref (ad 4)) (C := RX2) (T := TX2) (N := 9) hx hb hts hi2 hown hK hP 0 rfl rfl 0 (by decide) k0 (fun _ h9 => h9) rfl dX2_drawn_126 ?_
      have h8 := hv.1
      have hv := hv.2
      have hPc : va_P (gD g) vwCl (wC g ad 4 (xNow σ)) H := hP.sub [4, 5, 6, 7, 8, 9, 10, 11, 12, 13, 14, 15, 16] rfl
      refine ro_long (va_runV (As := []) (rest := [.int (sNq (cS (xNow σ))), .ref (ad 3)]) ⟨hx, hb, hml, hown, hts⟩ (h_X0_fitting g ad 4 (xNow σ) h8) (cwV 0 hts gX2_drawn_X0_fitting rfl rfl rfl (by decide +kernel) ⟨Nat.le_of_ble_eq_true rfl, Nat.le_of_ble_eq_true rfl⟩) ⟨RO_blind, va_recv hK hP (ci := 0) (q0 := 4) rfl rfl, fun U hU hW => ⟨rfl, by rw [hU]; exact hPc, va_K.moved hW.alike hK, hE.call hW hU hS (fun _ h => h.elim)⟩⟩ rfl rfl hl.1 rfl (lv_room (Nat.le_of_ble_eq_true rfl)) dX2_drawn_129 ⟨Nat.le_of_ble_eq_true rfl, Nat.le_of_ble_eq_true rfl⟩) hS hP (fun r H locs hw hP hS => ?_)
      subst r
      refine lv_iload_n hx hb dX2_drawn_132 rfl (lv_at hl 2 rfl) ?_
      have hPc : va_P (gD g) vwCl [] H := fun k q h => by simp at h
      refine ro_long (va_runS (As := [.int p2]) (rest := [.long (fittingL (xNow σ)), .int (sNq (cS (xNow σ))), .ref (ad 3)]) ⟨hx, hb, hml, hown, hts⟩ (h_X2_factCases g p2) (va_cwS 1 hts gX2_drawn_X2_factCases rfl rfl rfl (by decide +kernel) ⟨Nat.le_of_ble_eq_true rfl, Nat.le_of_ble_eq_true rfl⟩) ⟨RO_blind, fun U hU hW => ⟨rfl, by rw [hU]; exact hPc, va_K.moved hW.alike hK, hE.call hW hU hS (fun _ h => h.elim)⟩⟩ rfl rfl hl.1 rfl (lv_room (Nat.le_of_ble_eq_true rfl)) dX2_drawn_133 ⟨Nat.le_of_ble_eq_true rfl, Nat.le_of_ble_eq_true rfl⟩) hS hP (fun r H locs hw hP hS => ?_)
      subst r
      refine lv_iconst (v := 0) hx hb dX2_drawn_136 (by decide) ?_
      refine lv_iload_n hx hb dX2_drawn_137 rfl (lv_at hl 1 rfl) ?_
      have h8 := hv.1
      have hv := hv.2
      have hPc : va_P (gD g) vwCl (wL g ad 3 s_kept) H := hP.sub [3] rfl
      refine ro_int (va_runS (As := [.ref (ad 3), .int (sNq (cS (xNow σ))), .long (fittingL (xNow σ)), .long (factCasesL p2), .int 0, .int p1]) (rest := []) ⟨hx, hb, hml, hown, hts⟩ (h_X2_waysSure_4 g ad 3 s_kept (sNq (cS (xNow σ))) (fittingL (xNow σ)) (factCasesL p2) 0 p1 h8) (va_cwS 6 hts gX2_drawn_X2_waysSure rfl rfl rfl (by decide +kernel) ⟨Nat.le_of_ble_eq_true rfl, Nat.le_of_ble_eq_true rfl⟩) ⟨RO_blind, fun U hU hW => ⟨rfl, by rw [hU]; exact hPc, va_K.moved hW.alike hK, hE.call hW hU hS (fun _ h => h.elim)⟩⟩ rfl rfl hl.1 rfl (lv_room (Nat.le_of_ble_eq_true rfl)) dX2_drawn_138 ⟨Nat.le_of_ble_eq_true rfl, Nat.le_of_ble_eq_true rfl⟩) hS hP (fun r H locs hw hP hS => ?_)
      subst r
      refine lv_istore (lv' := [(6, .int (waysN s_kept (sNq (cS (xNow σ))).toNatClampNeg (factCasesL p2) (p1 - (0 : Int32)).toNatClampNeg (0 : Int32).toNatClampNeg (fittingL (xNow σ)))), (0, .ref (ad 0)), (2, .int p1), (3, .int p2), (4, .int p3), (5, .int x5)]) hx hb dX2_drawn_141 hl (by decide) rfl (fun ls hl => ?_)
      refine lv_iload hx hb dX2_drawn_143 (lv_at hl 0 rfl) ?_
      refine lv_iload hx hb dX2_drawn_145 (lv_at hl 5 rfl) ?_
      refine lv_iload hx hb dX2_drawn_147 (lv_at hl 4 rfl) ?_
      have hPc : va_P (gD g) vwCl [] H := fun k q h => by simp at h
      refine ro_long (va_runS (As := [.int (waysN s_kept (sNq (cS (xNow σ))).toNatClampNeg (factCasesL p2) (p1 - (0 : Int32)).toNatClampNeg (0 : Int32).toNatClampNeg (fittingL (xNow σ))), .int x5, .int p3]) (rest := []) ⟨hx, hb, hml, hown, hts⟩ (h_X2_inLeastTerms g (waysN s_kept (sNq (cS (xNow σ))).toNatClampNeg (factCasesL p2) (p1 - (0 : Int32)).toNatClampNeg (0 : Int32).toNatClampNeg (fittingL (xNow σ))) x5 p3) (va_cwS 3 hts gX2_drawn_X2_inLeastTerms rfl rfl rfl (by decide +kernel) ⟨Nat.le_of_ble_eq_true rfl, Nat.le_of_ble_eq_true rfl⟩) ⟨RO_blind, fun U hU hW => ⟨rfl, by rw [hU]; exact hPc, va_K.moved hW.alike hK, hE.call hW hU hS (fun _ h => h.elim)⟩⟩ rfl rfl hl.1 rfl (lv_room (Nat.le_of_ble_eq_true rfl)) dX2_drawn_149 ⟨Nat.le_of_ble_eq_true rfl, Nat.le_of_ble_eq_true rfl⟩) hS hP (fun r H locs hw hP hS => ?_)
      subst r
      exact W.lret (v := (leastTermsL (waysN s_kept (sNq (cS (xNow σ))).toNatClampNeg (factCasesL p2) (p1 - (0 : Int32)).toNatClampNeg (0 : Int32).toNatClampNeg (fittingL (xNow σ))) x5 p3)) hx hb hr (fun t ht hW => ⟨⟨(leastTermsL (waysN s_kept (sNq (cS (xNow σ))).toNatClampNeg (factCasesL p2) (p1 - (0 : Int32)).toNatClampNeg (0 : Int32).toNatClampNeg (fittingL (xNow σ))) x5 p3), ((xNow σ), (xTaken σ), (xTrial σ), (xScr σ), (xRow σ), s_refus, s_kept, (xRowLen σ), (xIsTaken σ)), rfl, hv, P_at ht hP⟩, hS.F ht⟩) hS.2.2 dX2_drawn_152
    · have hv := hv.2 c93
      refine lv_iload hx hb dX2_drawn_96 (lv_at hl 4 rfl) ?_
      refine lv_aload_n hx hb dX2_drawn_98 rfl (lv_at hl 0 rfl) ?_
      refine va_get (D := gD g) (ci := 2) (v := .ref (ad 4)) (C := RX2) (T := TX2) (N := 9) hx hb hts hi2 hown hK hP 0 rfl rfl 0 (by decide) k0 (fun _ h9 => h9) rfl dX2_drawn_99 ?_
      refine va_get (D := gD g) (ci := 0) (v := .int (sNq (cS (xNow σ)))) (C := RX0) (T := TX0) (N := 17) hx hb hts hi0 hown hK hP 4 rfl rfl 2 (by decide) k1 (fun _ h9 => h9) rfl dX2_drawn_102 ?_
      refine lv_imul hx hb dX2_drawn_105 ?_
      refine lv_istore (lv' := [(5, .int (x5 * (sNq (cS (xNow σ))))), (0, .ref (ad 0)), (2, .int p1), (3, .int p2), (4, .int p3), (6, .int x6)]) hx hb dX2_drawn_106 hl (by decide) rfl (fun ls hl => ?_)
      refine lv_iinc (v := (x6 + 1)) (lv' := [(6, .int (x6 + 1)), (5, .int (x5 * (sNq (cS (xNow σ))))), (0, .ref (ad 0)), (2, .int p1), (3, .int p2), (4, .int p3)]) hx hb dX2_drawn_108 hl (k := 5) rfl (by first | rfl | exact congrArg _ (by decide)) (by decide) rfl (fun ls hl => ?_)
      refine lv_goto (tgt := 90) hx hb dX2_drawn_111 (by decide) ?_
      exact hv H locs ls hP hD hS (lv_sub hl [2, 3, 4, 5, 1, 0] rfl))
  obtain ⟨H, hH⟩ : ∃ z, z = s.heap := ⟨_, rfl⟩
  obtain ⟨locs, hL⟩ : ∃ z : List Loc, z = [] := ⟨_, rfl⟩
  rw [← hL] at hS ⊢
  have hS : va_S (AD ad 0 45) s.heap H locs := by rw [hH]; exact hS
  rw [← hH] at hP ⊢
  clear hH hL
  refine lv_aload_n hx hb dX2_drawn_0 rfl (lv_at hl 0 rfl) ?_
  refine va_get (D := gD g) (ci := 2) (v := .ref (ad 4)) (C := RX2) (T := TX2) (N := 9) hx hb hts hi2 hown hK hP 0 rfl rfl 0 (by decide) k0 (fun _ h9 => h9) rfl dX2_drawn_1 ?_
  refine lv_iload_n hx hb dX2_drawn_4 rfl (lv_at hl 1 rfl) ?_
  have hPc : va_P (gD g) vwCl (wC g ad 4 (xNow σ)) H := hP.sub [4, 5, 6, 7, 8, 9, 10, 11, 12, 13, 14, 15, 16] rfl
  refine ro_int (va_runV (As := [.int p0]) (rest := []) ⟨hx, hb, hml, hown, hts⟩ (h_X0_hasWitness g ad 4 (xNow σ) p0) (cwV 1 hts gX2_drawn_X0_hasWitness rfl rfl rfl (by decide +kernel) ⟨Nat.le_of_ble_eq_true rfl, Nat.le_of_ble_eq_true rfl⟩) ⟨RO_blind, va_recv hK hP (ci := 0) (q0 := 4) rfl rfl, fun U hU hW => ⟨rfl, by rw [hU]; exact hPc, va_K.moved hW.alike hK, hE.call hW hU hS (fun _ h => h.elim)⟩⟩ rfl rfl hl.1 rfl (lv_room (Nat.le_of_ble_eq_true rfl)) dX2_drawn_5 ⟨Nat.le_of_ble_eq_true rfl, Nat.le_of_ble_eq_true rfl⟩) hS hP (fun r H locs hw hP hS => ?_)
  subst r
  refine lv_if_eq (tgt := 18) hx hb dX2_drawn_8 (by decide) (fun c8 => ?_) (fun c8 => ?_)
  · have hv := hv.1 c8
    refine lv_aload_n hx hb dX2_drawn_18 rfl (lv_at hl 0 rfl) ?_
    refine lv_iconst (v := (-1)) hx hb dX2_drawn_19 (by decide) ?_
    have h8 := hv.1
    have hv := hv.2
    have hPc := hP
    have hDc := hD
    refine rw_long (va_runV (As := [.int (-1)]) (rest := []) ⟨hx, hb, hml, hown, hts⟩ (h_X2_longRefused g ad σ (-1) h8) (cwV 1 hts gX2_drawn_X2_longRefused rfl rfl rfl (by decide +kernel) ⟨Nat.le_of_ble_eq_true rfl, Nat.le_of_ble_eq_true rfl⟩) ⟨RW_blind, va_recv hK hP (ci := 2) (q0 := 0) rfl rfl, fun U hU hW => ⟨rfl, by rw [hU]; exact hPc, va_K.moved hW.alike hK, hE.call hW hU hS (fun _ h => h), hDc⟩⟩ rfl rfl hl.1 rfl (lv_room (Nat.le_of_ble_eq_true rfl)) dX2_drawn_20 ⟨Nat.le_of_ble_eq_true rfl, Nat.le_of_ble_eq_true rfl⟩) hS (fun _ h => h) (fun r u H1 locs hw hP1 hk hS => ?_)
    obtain ⟨hw1, hw⟩ := hw; subst r; subst u
    have hP := hP1
    generalize H1 = H at hP hS ⊢
    have hP : va_P (gD g) vwCl (wX g ad ((xNow σ), (xTaken σ), (xTrial σ), (xScr σ), (xRow σ), (refuX (xRefus σ) ((-1) : Int32)), (xKept σ), (xRowLen σ), (xIsTaken σ))) H := hP
    have hD : va_D (AD ad 0 45) (wX g ad ((xNow σ), (xTaken σ), (xTrial σ), (xScr σ), (xRow σ), (refuX (xRefus σ) ((-1) : Int32)), (xKept σ), (xRowLen σ), (xIsTaken σ))) := hD.addr (by rfl)
    exact W.lret (v := (4000000000000000000 - ((-1) : Int32).toInt64)) hx hb hr (fun t ht hW => ⟨⟨(4000000000000000000 - ((-1) : Int32).toInt64), ((xNow σ), (xTaken σ), (xTrial σ), (xScr σ), (xRow σ), (refuX (xRefus σ) ((-1) : Int32)), (xKept σ), (xRowLen σ), (xIsTaken σ)), rfl, hv, P_at ht hP⟩, hS.F ht⟩) hS.2.2 dX2_drawn_23
  · have hv := hv.2 c8
    refine lv_iload_n hx hb dX2_drawn_11 rfl (lv_at hl 3 rfl) ?_
    have hPc : va_P (gD g) vwCl [] H := fun k q h => by simp at h
    refine ro_int (va_runS (As := [.int p2]) (rest := []) ⟨hx, hb, hml, hown, hts⟩ (h_X2_isFact g p2) (va_cwS 1 hts gX2_drawn_X2_isFact rfl rfl rfl (by decide +kernel) ⟨Nat.le_of_ble_eq_true rfl, Nat.le_of_ble_eq_true rfl⟩) ⟨RO_blind, fun U hU hW => ⟨rfl, by rw [hU]; exact hPc, va_K.moved hW.alike hK, hE.call hW hU hS (fun _ h => h.elim)⟩⟩ rfl rfl hl.1 rfl (lv_room (Nat.le_of_ble_eq_true rfl)) dX2_drawn_12 ⟨Nat.le_of_ble_eq_true rfl, Nat.le_of_ble_eq_true rfl⟩) hS hP (fun r H locs hw hP hS => ?_)
    subst r
    refine lv_if_ne (tgt := 24) hx hb dX2_drawn_15 (by decide) (fun c15 => ?_) (fun c15 => ?_)
    · have hv := hv.1 c15
      refine lv_iload_n hx hb dX2_drawn_24 rfl (lv_at hl 2 rfl) ?_
      refine lv_if_ge (tgt := 35) hx hb dX2_drawn_25 (by decide) (fun c25 => ?_) (fun c25 => ?_)
      · have hv := hv.1 c25
        refine lv_iload_n hx hb dX2_drawn_35 rfl (lv_at hl 2 rfl) ?_
        refine lv_iconst (v := 4) hx hb dX2_drawn_36 (by decide) ?_
        refine lv_icmp_le (tgt := 47) hx hb dX2_drawn_37 (by decide) (fun c37 => ?_) (fun c37 => ?_)
        · have hv := hv.1 c37
          refine lv_iload hx hb dX2_drawn_47 (lv_at hl 4 rfl) ?_
          have hPc : va_P (gD g) vwCl [] H := fun k q h => by simp at h
          refine ro_int (va_runS (As := [.int p3]) (rest := []) ⟨hx, hb, hml, hown, hts⟩ (h_X2_isPart g p3) (va_cwS 1 hts gX2_drawn_X2_isPart rfl rfl rfl (by decide +kernel) ⟨Nat.le_of_ble_eq_true rfl, Nat.le_of_ble_eq_true rfl⟩) ⟨RO_blind, fun U hU hW => ⟨rfl, by rw [hU]; exact hPc, va_K.moved hW.alike hK, hE.call hW hU hS (fun _ h => h.elim)⟩⟩ rfl rfl hl.1 rfl (lv_room (Nat.le_of_ble_eq_true rfl)) dX2_drawn_49 ⟨Nat.le_of_ble_eq_true rfl, Nat.le_of_ble_eq_true rfl⟩) hS hP (fun r H locs hw hP hS => ?_)
          subst r
          refine lv_if_ne (tgt := 62) hx hb dX2_drawn_52 (by decide) (fun c52 => ?_) (fun c52 => ?_)
          · have hv := hv.1 c52
            refine lv_aload_n hx hb dX2_drawn_62 rfl (lv_at hl 0 rfl) ?_
            refine va_get (D := gD g) (ci := 2) (v := .ref (ad 4)) (C := RX2) (T := TX2) (N := 9) hx hb hts hi2 hown hK hP 0 rfl rfl 0 (by decide) k0 (fun _ h9 => h9) rfl dX2_drawn_63 ?_
            refine va_get (D := gD g) (ci := 0) (v := .int (sNq (cS (xNow σ)))) (C := RX0) (T := TX0) (N := 17) hx hb hts hi0 hown hK hP 4 rfl rfl 2 (by decide) k1 (fun _ h9 => h9) rfl dX2_drawn_66 ?_
            refine lv_if_ne (tgt := 79) hx hb dX2_drawn_69 (by decide) (fun c69 => ?_) (fun c69 => ?_)
            · have hv := hv.1 c69
              refine lv_aload_n hx hb dX2_drawn_79 rfl (lv_at hl 0 rfl) ?_
              refine lv_iload_n hx hb dX2_drawn_80 rfl (lv_at hl 1 rfl) ?_
              have h8 := hv.1
              have hv := hv.2
              have hPc := hP
              have hDc := hD
              refine rw_void (va_runV (As := [.int p0]) (rest := []) ⟨hx, hb, hml, hown, hts⟩ (h_X2_fillKept g ad σ p0 h8) (cwV 1 hts gX2_drawn_X2_fillKept rfl rfl rfl (by decide +kernel) ⟨Nat.le_of_ble_eq_true rfl, Nat.le_of_ble_eq_true rfl⟩) ⟨RW_blind, va_recv hK hP (ci := 2) (q0 := 0) rfl rfl, fun U hU hW => ⟨rfl, by rw [hU]; exact hPc, va_K.moved hW.alike hK, hE.call hW hU hS (fun _ h => h), hDc⟩⟩ rfl rfl hl.1 rfl (lv_room (Nat.le_of_ble_eq_true rfl)) dX2_drawn_81 ⟨Nat.le_of_ble_eq_true rfl, Nat.le_of_ble_eq_true rfl⟩) hS (fun _ h => h) (fun u H1 locs hw hP1 hk hS => ?_)
              subst u
              have hP := hP1
              generalize H1 = H at hP hS ⊢
              have hP : va_P (gD g) vwCl (wX g ad ((xNow σ), (xTaken σ), (xTrial σ), (xScr σ), (xRow σ), (xRefus σ), (keptX (xNow σ) p0 (xKept σ)), (xRowLen σ), (xIsTaken σ))) H := hP
              have hD : va_D (AD ad 0 45) (wX g ad ((xNow σ), (xTaken σ), (xTrial σ), (xScr σ), (xRow σ), (xRefus σ), (keptX (xNow σ) p0 (xKept σ)), (xRowLen σ), (xIsTaken σ))) := hD.addr (by rfl)
              refine lv_iconst (v := 1) hx hb dX2_drawn_84 (by decide) ?_
              refine lv_istore (lv' := [(5, .int 1), (0, .ref (ad 0)), (1, .int p0), (2, .int p1), (3, .int p2), (4, .int p3)]) hx hb dX2_drawn_85 hl (by decide) rfl (fun ls hl => ?_)
              refine lv_iconst (v := 0) hx hb dX2_drawn_87 (by decide) ?_
              refine lv_istore (lv' := [(6, .int 0), (5, .int 1), (0, .ref (ad 0)), (1, .int p0), (2, .int p1), (3, .int p2), (4, .int p3)]) hx hb dX2_drawn_88 hl (by decide) rfl (fun ls hl => ?_)
              exact hv H locs ls hP hD hS (lv_sub hl [2, 4, 5, 6, 1, 0] rfl)
            · have hv := hv.2 c69
              refine lv_aload_n hx hb dX2_drawn_72 rfl (lv_at hl 0 rfl) ?_
              refine lv_bipush (v := (-3)) hx hb dX2_drawn_73 (by decide) ?_
              have h8 := hv.1
              have hv := hv.2
              have hPc := hP
              have hDc := hD
              refine rw_long (va_runV (As := [.int (-3)]) (rest := []) ⟨hx, hb, hml, hown, hts⟩ (h_X2_longRefused g ad σ (-3) h8) (cwV 1 hts gX2_drawn_X2_longRefused rfl rfl rfl (by decide +kernel) ⟨Nat.le_of_ble_eq_true rfl, Nat.le_of_ble_eq_true rfl⟩) ⟨RW_blind, va_recv hK hP (ci := 2) (q0 := 0) rfl rfl, fun U hU hW => ⟨rfl, by rw [hU]; exact hPc, va_K.moved hW.alike hK, hE.call hW hU hS (fun _ h => h), hDc⟩⟩ rfl rfl hl.1 rfl (lv_room (Nat.le_of_ble_eq_true rfl)) dX2_drawn_75 ⟨Nat.le_of_ble_eq_true rfl, Nat.le_of_ble_eq_true rfl⟩) hS (fun _ h => h) (fun r u H1 locs hw hP1 hk hS => ?_)
              obtain ⟨hw1, hw⟩ := hw; subst r; subst u
              have hP := hP1
              generalize H1 = H at hP hS ⊢
              have hP : va_P (gD g) vwCl (wX g ad ((xNow σ), (xTaken σ), (xTrial σ), (xScr σ), (xRow σ), (refuX (xRefus σ) ((-3) : Int32)), (xKept σ), (xRowLen σ), (xIsTaken σ))) H := hP
              have hD : va_D (AD ad 0 45) (wX g ad ((xNow σ), (xTaken σ), (xTrial σ), (xScr σ), (xRow σ), (refuX (xRefus σ) ((-3) : Int32)), (xKept σ), (xRowLen σ), (xIsTaken σ))) := hD.addr (by rfl)
              exact W.lret (v := (4000000000000000000 - ((-3) : Int32).toInt64)) hx hb hr (fun t ht hW => ⟨⟨(4000000000000000000 - ((-3) : Int32).toInt64), ((xNow σ), (xTaken σ), (xTrial σ), (xScr σ), (xRow σ), (refuX (xRefus σ) ((-3) : Int32)), (xKept σ), (xRowLen σ), (xIsTaken σ)), rfl, hv, P_at ht hP⟩, hS.F ht⟩) hS.2.2 dX2_drawn_78
          · have hv := hv.2 c52
            refine lv_aload_n hx hb dX2_drawn_55 rfl (lv_at hl 0 rfl) ?_
            refine lv_bipush (v := (-2)) hx hb dX2_drawn_56 (by decide) ?_
            have h8 := hv.1
            have hv := hv.2
            have hPc := hP
            have hDc := hD
            refine rw_long (va_runV (As := [.int (-2)]) (rest := []) ⟨hx, hb, hml, hown, hts⟩ (h_X2_longRefused g ad σ (-2) h8) (cwV 1 hts gX2_drawn_X2_longRefused rfl rfl rfl (by decide +kernel) ⟨Nat.le_of_ble_eq_true rfl, Nat.le_of_ble_eq_true rfl⟩) ⟨RW_blind, va_recv hK hP (ci := 2) (q0 := 0) rfl rfl, fun U hU hW => ⟨rfl, by rw [hU]; exact hPc, va_K.moved hW.alike hK, hE.call hW hU hS (fun _ h => h), hDc⟩⟩ rfl rfl hl.1 rfl (lv_room (Nat.le_of_ble_eq_true rfl)) dX2_drawn_58 ⟨Nat.le_of_ble_eq_true rfl, Nat.le_of_ble_eq_true rfl⟩) hS (fun _ h => h) (fun r u H1 locs hw hP1 hk hS => ?_)
            obtain ⟨hw1, hw⟩ := hw; subst r; subst u
            have hP := hP1
            generalize H1 = H at hP hS ⊢
            have hP : va_P (gD g) vwCl (wX g ad ((xNow σ), (xTaken σ), (xTrial σ), (xScr σ), (xRow σ), (refuX (xRefus σ) ((-2) : Int32)), (xKept σ), (xRowLen σ), (xIsTaken σ))) H := hP
            have hD : va_D (AD ad 0 45) (wX g ad ((xNow σ), (xTaken σ), (xTrial σ), (xScr σ), (xRow σ), (refuX (xRefus σ) ((-2) : Int32)), (xKept σ), (xRowLen σ), (xIsTaken σ))) := hD.addr (by rfl)
            exact W.lret (v := (4000000000000000000 - ((-2) : Int32).toInt64)) hx hb hr (fun t ht hW => ⟨⟨(4000000000000000000 - ((-2) : Int32).toInt64), ((xNow σ), (xTaken σ), (xTrial σ), (xScr σ), (xRow σ), (refuX (xRefus σ) ((-2) : Int32)), (xKept σ), (xRowLen σ), (xIsTaken σ)), rfl, hv, P_at ht hP⟩, hS.F ht⟩) hS.2.2 dX2_drawn_61
        · have hv := hv.2 c37
          refine lv_aload_n hx hb dX2_drawn_40 rfl (lv_at hl 0 rfl) ?_
          refine lv_bipush (v := (-6)) hx hb dX2_drawn_41 (by decide) ?_
          have h8 := hv.1
          have hv := hv.2
          have hPc := hP
          have hDc := hD
          refine rw_long (va_runV (As := [.int (-6)]) (rest := []) ⟨hx, hb, hml, hown, hts⟩ (h_X2_longRefused g ad σ (-6) h8) (cwV 1 hts gX2_drawn_X2_longRefused rfl rfl rfl (by decide +kernel) ⟨Nat.le_of_ble_eq_true rfl, Nat.le_of_ble_eq_true rfl⟩) ⟨RW_blind, va_recv hK hP (ci := 2) (q0 := 0) rfl rfl, fun U hU hW => ⟨rfl, by rw [hU]; exact hPc, va_K.moved hW.alike hK, hE.call hW hU hS (fun _ h => h), hDc⟩⟩ rfl rfl hl.1 rfl (lv_room (Nat.le_of_ble_eq_true rfl)) dX2_drawn_43 ⟨Nat.le_of_ble_eq_true rfl, Nat.le_of_ble_eq_true rfl⟩) hS (fun _ h => h) (fun r u H1 locs hw hP1 hk hS => ?_)
          obtain ⟨hw1, hw⟩ := hw; subst r; subst u
          have hP := hP1
          generalize H1 = H at hP hS ⊢
          have hP : va_P (gD g) vwCl (wX g ad ((xNow σ), (xTaken σ), (xTrial σ), (xScr σ), (xRow σ), (refuX (xRefus σ) ((-6) : Int32)), (xKept σ), (xRowLen σ), (xIsTaken σ))) H := hP
          have hD : va_D (AD ad 0 45) (wX g ad ((xNow σ), (xTaken σ), (xTrial σ), (xScr σ), (xRow σ), (refuX (xRefus σ) ((-6) : Int32)), (xKept σ), (xRowLen σ), (xIsTaken σ))) := hD.addr (by rfl)
          exact W.lret (v := (4000000000000000000 - ((-6) : Int32).toInt64)) hx hb hr (fun t ht hW => ⟨⟨(4000000000000000000 - ((-6) : Int32).toInt64), ((xNow σ), (xTaken σ), (xTrial σ), (xScr σ), (xRow σ), (refuX (xRefus σ) ((-6) : Int32)), (xKept σ), (xRowLen σ), (xIsTaken σ)), rfl, hv, P_at ht hP⟩, hS.F ht⟩) hS.2.2 dX2_drawn_46
      · have hv := hv.2 c25
        refine lv_aload_n hx hb dX2_drawn_28 rfl (lv_at hl 0 rfl) ?_
        refine lv_bipush (v := (-4)) hx hb dX2_drawn_29 (by decide) ?_
        have h8 := hv.1
        have hv := hv.2
        have hPc := hP
        have hDc := hD
        refine rw_long (va_runV (As := [.int (-4)]) (rest := []) ⟨hx, hb, hml, hown, hts⟩ (h_X2_longRefused g ad σ (-4) h8) (cwV 1 hts gX2_drawn_X2_longRefused rfl rfl rfl (by decide +kernel) ⟨Nat.le_of_ble_eq_true rfl, Nat.le_of_ble_eq_true rfl⟩) ⟨RW_blind, va_recv hK hP (ci := 2) (q0 := 0) rfl rfl, fun U hU hW => ⟨rfl, by rw [hU]; exact hPc, va_K.moved hW.alike hK, hE.call hW hU hS (fun _ h => h), hDc⟩⟩ rfl rfl hl.1 rfl (lv_room (Nat.le_of_ble_eq_true rfl)) dX2_drawn_31 ⟨Nat.le_of_ble_eq_true rfl, Nat.le_of_ble_eq_true rfl⟩) hS (fun _ h => h) (fun r u H1 locs hw hP1 hk hS => ?_)
        obtain ⟨hw1, hw⟩ := hw; subst r; subst u
        have hP := hP1
        generalize H1 = H at hP hS ⊢
        have hP : va_P (gD g) vwCl (wX g ad ((xNow σ), (xTaken σ), (xTrial σ), (xScr σ), (xRow σ), (refuX (xRefus σ) ((-4) : Int32)), (xKept σ), (xRowLen σ), (xIsTaken σ))) H := hP
        have hD : va_D (AD ad 0 45) (wX g ad ((xNow σ), (xTaken σ), (xTrial σ), (xScr σ), (xRow σ), (refuX (xRefus σ) ((-4) : Int32)), (xKept σ), (xRowLen σ), (xIsTaken σ))) := hD.addr (by rfl)
        exact W.lret (v := (4000000000000000000 - ((-4) : Int32).toInt64)) hx hb hr (fun t ht hW => ⟨⟨(4000000000000000000 - ((-4) : Int32).toInt64), ((xNow σ), (xTaken σ), (xTrial σ), (xScr σ), (xRow σ), (refuX (xRefus σ) ((-4) : Int32)), (xKept σ), (xRowLen σ), (xIsTaken σ)), rfl, hv, P_at ht hP⟩, hS.F ht⟩) hS.2.2 dX2_drawn_34
    · have hv := hv.2 c15
      refine lv_aload_n hx hb dX2_drawn_18 rfl (lv_at hl 0 rfl) ?_
      refine lv_iconst (v := (-1)) hx hb dX2_drawn_19 (by decide) ?_
      have h8 := hv.1
      have hv := hv.2
      have hPc := hP
      have hDc := hD
      refine rw_long (va_runV (As := [.int (-1)]) (rest := []) ⟨hx, hb, hml, hown, hts⟩ (h_X2_longRefused g ad σ (-1) h8) (cwV 1 hts gX2_drawn_X2_longRefused rfl rfl rfl (by decide +kernel) ⟨Nat.le_of_ble_eq_true rfl, Nat.le_of_ble_eq_true rfl⟩) ⟨RW_blind, va_recv hK hP (ci := 2) (q0 := 0) rfl rfl, fun U hU hW => ⟨rfl, by rw [hU]; exact hPc, va_K.moved hW.alike hK, hE.call hW hU hS (fun _ h => h), hDc⟩⟩ rfl rfl hl.1 rfl (lv_room (Nat.le_of_ble_eq_true rfl)) dX2_drawn_20 ⟨Nat.le_of_ble_eq_true rfl, Nat.le_of_ble_eq_true rfl⟩) hS (fun _ h => h) (fun r u H1 locs hw hP1 hk hS => ?_)
      obtain ⟨hw1, hw⟩ := hw; subst r; subst u
      have hP := hP1
      generalize H1 = H at hP hS ⊢
      have hP : va_P (gD g) vwCl (wX g ad ((xNow σ), (xTaken σ), (xTrial σ), (xScr σ), (xRow σ), (refuX (xRefus σ) ((-1) : Int32)), (xKept σ), (xRowLen σ), (xIsTaken σ))) H := hP
      have hD : va_D (AD ad 0 45) (wX g ad ((xNow σ), (xTaken σ), (xTrial σ), (xScr σ), (xRow σ), (refuX (xRefus σ) ((-1) : Int32)), (xKept σ), (xRowLen σ), (xIsTaken σ))) := hD.addr (by rfl)
      exact W.lret (v := (4000000000000000000 - ((-1) : Int32).toInt64)) hx hb hr (fun t ht hW => ⟨⟨(4000000000000000000 - ((-1) : Int32).toInt64), ((xNow σ), (xTaken σ), (xTrial σ), (xScr σ), (xRow σ), (refuX (xRefus σ) ((-1) : Int32)), (xKept σ), (xRowLen σ), (xIsTaken σ)), rfl, hv, P_at ht hP⟩, hS.F ht⟩) hS.2.2 dX2_drawn_23

set_option maxHeartbeats 4000000 in
set_option maxRecDepth 100000 in
theorem m_X2_mean (l : Launch) (h_J13_bitCount_95d88 : C_J13_bitCount_95d88 l) (h_X0_fitting : C_X0_fitting l) (h_X2_factCases : C_X2_factCases l) (h_X2_inLeastTerms : C_X2_inLeastTerms l) (h_X2_isPart : C_X2_isPart l) (h_X2_longRefused : C_X2_longRefused l) (g : CX) (ad : Nat → Nat) (σ : KX) (p0 : Int32) (Post : Int64 → KX → Prop) (hv : vc_X2_mean σ p0 Post) : Met l yX2_mean wsX2_mean { frames := 5, cells := 0, slots := 0, locals := 114 } (va_Pc [.ref (ad 0), .int p0] (RW g (AD ad 0 45) (wX g ad σ))) (va_Ql (fun (r : Int64) (u : KX) => Post r u) (fun u t => va_P (gD g) vwCl (wX g ad u) t.heap) (AD ad 0 45)) 0 0 (AD ad 0 45) := by
  unfold vc_X2_mean at hv
  refine Met.ofW (cc := cX2_mean) (maxL := 6) (ret := (some .long)) (by decide) rfl ?_
  intro p e s m args below meth c s₁ B hml hv0
  obtain ⟨rfl, hP, hK, hE, hD⟩ := hv0
  have hx := B.exec
  have hb := B.bytes
  have hr := B.returns
  have hts := atoms_spec (ws := wsX2_mean) B.pre
  have hown : s.vm.findClass RX2 = some m.cls := findClass_of_methodNamed B.named
  have hlocks := B.notSynchronized
  have hi2 : ∀ w ∈ wsX20, w ∈ wsX2_mean := by decide +kernel
  have k0 := hts (.fieldLink RX2 10 "JuryHearsAnswers" "now" "LJuryHearsAnswers$Court;") (by decide +kernel)
  have hS : va_S (AD ad 0 45) s.heap s.heap [] := va_S.rf
  have hP : va_P (gD g) vwCl (wX g ad σ) s.heap := hP
  have hl := lv_entry ([.ref (ad 0), .int p0]) (n := 6) (Nat.le_of_ble_eq_true rfl)
  rw [lg_entry_eq]
  generalize (lg_sl ([.ref (ad 0), .int p0]) ++ List.replicate (6 - (lg_sl ([.ref (ad 0), .int p0])).length) Slot.unset).toArray = ls at hl ⊢
  have hl : lv_has ls 6 [(0, .ref (ad 0)), (1, .int p0)] := hl
  have hv := hv (fun (x2 : Int64) (x4 : Int32) (x5 : Int32) (s_refus : FI) => ∀ (H : Heap) (locs : List Loc) (ls : Array Slot), va_P (gD g) vwCl (wX g ad ((xNow σ), (xTaken σ), (xTrial σ), (xScr σ), (xRow σ), s_refus, (xKept σ), (xRowLen σ), (xIsTaken σ))) H → va_D (AD ad 0 45) (wX g ad ((xNow σ), (xTaken σ), (xTrial σ), (xScr σ), (xRow σ), s_refus, (xKept σ), (xRowLen σ), (xIsTaken σ))) → va_S (AD ad 0 45) s.heap H locs → lv_has ls 6 [(1, .int p0), (2, .long x2), (4, .int x4), (5, .int x5)] → W p l e { frames := 5, cells := 0, slots := 0, locals := 114 } s m ([.ref (ad 0), .int p0] : List Value).toArray below meth c H locs 0 0 (MQ below (va_Ql (fun (r : Int64) (u : KX) => Post r u) (fun u t => va_P (gD g) vwCl (wX g ad u) t.heap) (AD ad 0 45)) ([.ref (ad 0), .int p0] : List Value).toArray s 0 0 (AD ad 0 45)) (F0 m 28 ls []))
  have hv := hv (by
    intro x2 x4 x5 s_refus hv H locs ls hP hD hS hl
    refine lv_iload hx hb dX2_mean_28 (lv_at hl 3 rfl) ?_
    refine lv_bipush (v := 6) hx hb dX2_mean_30 (by decide) ?_
    refine lv_icmp_ge (tgt := 56) hx hb dX2_mean_32 (by decide) (fun c32 => ?_) (fun c32 => ?_)
    · have hv := hv.1 c32
      refine lv_iload hx hb dX2_mean_56 (lv_at hl 2 rfl) ?_
      refine lv_lload_n hx hb dX2_mean_58 rfl (lv_at hl 1 rfl) ?_
      have hPc : va_P (gD g) vwCl [] H := fun k q h => by simp at h
      refine ro_int (va_runS (As := [.long x2]) (rest := [.int x4]) ⟨hx, hb, hml, hown, hts⟩ (h_J13_bitCount_95d88 g x2) (va_cwS 1 hts gX2_mean_J13_bitCount_95d88 rfl rfl rfl (by decide +kernel) ⟨Nat.le_of_ble_eq_true rfl, Nat.le_of_ble_eq_true rfl⟩) ⟨RO_blind, fun U hU hW => ⟨rfl, by rw [hU]; exact hPc, va_K.moved hW.alike hK, hE.call hW hU hS (fun _ h => h.elim)⟩⟩ rfl rfl hl.1 rfl (lv_room (Nat.le_of_ble_eq_true rfl)) dX2_mean_59 ⟨Nat.le_of_ble_eq_true rfl, Nat.le_of_ble_eq_true rfl⟩) hS hP (fun r H locs hw hP hS => ?_)
      subst r
      refine lv_iload_n hx hb dX2_mean_62 rfl (lv_at hl 0 rfl) ?_
      have hPc : va_P (gD g) vwCl [] H := fun k q h => by simp at h
      refine ro_long (va_runS (As := [.int x4, .int (popc x2), .int p0]) (rest := []) ⟨hx, hb, hml, hown, hts⟩ (h_X2_inLeastTerms g x4 (popc x2) p0) (va_cwS 3 hts gX2_mean_X2_inLeastTerms rfl rfl rfl (by decide +kernel) ⟨Nat.le_of_ble_eq_true rfl, Nat.le_of_ble_eq_true rfl⟩) ⟨RO_blind, fun U hU hW => ⟨rfl, by rw [hU]; exact hPc, va_K.moved hW.alike hK, hE.call hW hU hS (fun _ h => h.elim)⟩⟩ rfl rfl hl.1 rfl (lv_room (Nat.le_of_ble_eq_true rfl)) dX2_mean_63 ⟨Nat.le_of_ble_eq_true rfl, Nat.le_of_ble_eq_true rfl⟩) hS hP (fun r H locs hw hP hS => ?_)
      subst r
      exact W.lret (v := (leastTermsL x4 (popc x2) p0)) hx hb hr (fun t ht hW => ⟨⟨(leastTermsL x4 (popc x2) p0), ((xNow σ), (xTaken σ), (xTrial σ), (xScr σ), (xRow σ), s_refus, (xKept σ), (xRowLen σ), (xIsTaken σ)), rfl, hv, P_at ht hP⟩, hS.F ht⟩) hS.2.2 dX2_mean_66
    · have hv := hv.2 c32
      refine lv_iload hx hb dX2_mean_35 (lv_at hl 2 rfl) ?_
      refine lv_lload_n hx hb dX2_mean_37 rfl (lv_at hl 1 rfl) ?_
      refine lv_iload hx hb dX2_mean_38 (lv_at hl 3 rfl) ?_
      have hPc : va_P (gD g) vwCl [] H := fun k q h => by simp at h
      refine ro_long (va_runS (As := [.int x5]) (rest := [.long x2, .int x4]) ⟨hx, hb, hml, hown, hts⟩ (h_X2_factCases g x5) (va_cwS 1 hts gX2_mean_X2_factCases rfl rfl rfl (by decide +kernel) ⟨Nat.le_of_ble_eq_true rfl, Nat.le_of_ble_eq_true rfl⟩) ⟨RO_blind, fun U hU hW => ⟨rfl, by rw [hU]; exact hPc, va_K.moved hW.alike hK, hE.call hW hU hS (fun _ h => h.elim)⟩⟩ rfl rfl hl.1 rfl (lv_room (Nat.le_of_ble_eq_true rfl)) dX2_mean_40 ⟨Nat.le_of_ble_eq_true rfl, Nat.le_of_ble_eq_true rfl⟩) hS hP (fun r H locs hw hP hS => ?_)
      subst r
      refine lv_land hx hb dX2_mean_43 ?_
      have hPc : va_P (gD g) vwCl [] H := fun k q h => by simp at h
      refine ro_int (va_runS (As := [.long (x2 &&& (factCasesL x5))]) (rest := [.int x4]) ⟨hx, hb, hml, hown, hts⟩ (h_J13_bitCount_95d88 g (x2 &&& (factCasesL x5))) (va_cwS 1 hts gX2_mean_J13_bitCount_95d88 rfl rfl rfl (by decide +kernel) ⟨Nat.le_of_ble_eq_true rfl, Nat.le_of_ble_eq_true rfl⟩) ⟨RO_blind, fun U hU hW => ⟨rfl, by rw [hU]; exact hPc, va_K.moved hW.alike hK, hE.call hW hU hS (fun _ h => h.elim)⟩⟩ rfl rfl hl.1 rfl (lv_room (Nat.le_of_ble_eq_true rfl)) dX2_mean_44 ⟨Nat.le_of_ble_eq_true rfl, Nat.le_of_ble_eq_true rfl⟩) hS hP (fun r H locs hw hP hS => ?_)
      subst r
      refine lv_iadd hx hb dX2_mean_47 ?_
      refine lv_istore (lv' := [(4, .int (x4 + (popc (x2 &&& (factCasesL x5))))), (1, .int p0), (2, .long x2), (5, .int x5)]) hx hb dX2_mean_48 hl (by decide) rfl (fun ls hl => ?_)
      refine lv_iinc (v := (x5 + 1)) (lv' := [(5, .int (x5 + 1)), (4, .int (x4 + (popc (x2 &&& (factCasesL x5))))), (1, .int p0), (2, .long x2)]) hx hb dX2_mean_50 hl (k := 3) rfl (by first | rfl | exact congrArg _ (by decide)) (by decide) rfl (fun ls hl => ?_)
      refine lv_goto (tgt := 28) hx hb dX2_mean_53 (by decide) ?_
      exact hv H locs ls hP hD hS (lv_sub hl [2, 3, 1, 0] rfl))
  obtain ⟨H, hH⟩ : ∃ z, z = s.heap := ⟨_, rfl⟩
  obtain ⟨locs, hL⟩ : ∃ z : List Loc, z = [] := ⟨_, rfl⟩
  rw [← hL] at hS ⊢
  have hS : va_S (AD ad 0 45) s.heap H locs := by rw [hH]; exact hS
  rw [← hH] at hP ⊢
  clear hH hL
  refine lv_iload_n hx hb dX2_mean_0 rfl (lv_at hl 1 rfl) ?_
  have hPc : va_P (gD g) vwCl [] H := fun k q h => by simp at h
  refine ro_int (va_runS (As := [.int p0]) (rest := []) ⟨hx, hb, hml, hown, hts⟩ (h_X2_isPart g p0) (va_cwS 1 hts gX2_mean_X2_isPart rfl rfl rfl (by decide +kernel) ⟨Nat.le_of_ble_eq_true rfl, Nat.le_of_ble_eq_true rfl⟩) ⟨RO_blind, fun U hU hW => ⟨rfl, by rw [hU]; exact hPc, va_K.moved hW.alike hK, hE.call hW hU hS (fun _ h => h.elim)⟩⟩ rfl rfl hl.1 rfl (lv_room (Nat.le_of_ble_eq_true rfl)) dX2_mean_1 ⟨Nat.le_of_ble_eq_true rfl, Nat.le_of_ble_eq_true rfl⟩) hS hP (fun r H locs hw hP hS => ?_)
  subst r
  refine lv_if_ne (tgt := 14) hx hb dX2_mean_4 (by decide) (fun c4 => ?_) (fun c4 => ?_)
  · have hv := hv.1 c4
    refine lv_aload_n hx hb dX2_mean_14 rfl (lv_at hl 0 rfl) ?_
    refine va_get (D := gD g) (ci := 2) (v := .ref (ad 4)) (C := RX2) (T := TX2) (N := 9) hx hb hts hi2 hown hK hP 0 rfl rfl 0 (by decide) k0 (fun _ h9 => h9) rfl dX2_mean_15 ?_
    have h8 := hv.1
    have hv := hv.2
    have hPc : va_P (gD g) vwCl (wC g ad 4 (xNow σ)) H := hP.sub [4, 5, 6, 7, 8, 9, 10, 11, 12, 13, 14, 15, 16] rfl
    refine ro_long (va_runV (As := []) (rest := []) ⟨hx, hb, hml, hown, hts⟩ (h_X0_fitting g ad 4 (xNow σ) h8) (cwV 0 hts gX2_mean_X0_fitting rfl rfl rfl (by decide +kernel) ⟨Nat.le_of_ble_eq_true rfl, Nat.le_of_ble_eq_true rfl⟩) ⟨RO_blind, va_recv hK hP (ci := 0) (q0 := 4) rfl rfl, fun U hU hW => ⟨rfl, by rw [hU]; exact hPc, va_K.moved hW.alike hK, hE.call hW hU hS (fun _ h => h.elim)⟩⟩ rfl rfl hl.1 rfl (lv_room (Nat.le_of_ble_eq_true rfl)) dX2_mean_18 ⟨Nat.le_of_ble_eq_true rfl, Nat.le_of_ble_eq_true rfl⟩) hS hP (fun r H locs hw hP hS => ?_)
    subst r
    refine lv_lstore_n (lv' := [(2, .long (fittingL (xNow σ))), (0, .ref (ad 0)), (1, .int p0)]) hx hb dX2_mean_21 rfl hl (by decide) rfl (fun ls hl => ?_)
    refine lv_iconst (v := 0) hx hb dX2_mean_22 (by decide) ?_
    refine lv_istore (lv' := [(4, .int 0), (2, .long (fittingL (xNow σ))), (0, .ref (ad 0)), (1, .int p0)]) hx hb dX2_mean_23 hl (by decide) rfl (fun ls hl => ?_)
    refine lv_iconst (v := 0) hx hb dX2_mean_25 (by decide) ?_
    refine lv_istore (lv' := [(5, .int 0), (4, .int 0), (2, .long (fittingL (xNow σ))), (0, .ref (ad 0)), (1, .int p0)]) hx hb dX2_mean_26 hl (by decide) rfl (fun ls hl => ?_)
    exact hv H locs ls hP hD hS (lv_sub hl [4, 2, 1, 0] rfl)
  · have hv := hv.2 c4
    refine lv_aload_n hx hb dX2_mean_7 rfl (lv_at hl 0 rfl) ?_
    refine lv_bipush (v := (-2)) hx hb dX2_mean_8 (by decide) ?_
    have h8 := hv.1
    have hv := hv.2
    have hPc := hP
    have hDc := hD
    refine rw_long (va_runV (As := [.int (-2)]) (rest := []) ⟨hx, hb, hml, hown, hts⟩ (h_X2_longRefused g ad σ (-2) h8) (cwV 1 hts gX2_mean_X2_longRefused rfl rfl rfl (by decide +kernel) ⟨Nat.le_of_ble_eq_true rfl, Nat.le_of_ble_eq_true rfl⟩) ⟨RW_blind, va_recv hK hP (ci := 2) (q0 := 0) rfl rfl, fun U hU hW => ⟨rfl, by rw [hU]; exact hPc, va_K.moved hW.alike hK, hE.call hW hU hS (fun _ h => h), hDc⟩⟩ rfl rfl hl.1 rfl (lv_room (Nat.le_of_ble_eq_true rfl)) dX2_mean_10 ⟨Nat.le_of_ble_eq_true rfl, Nat.le_of_ble_eq_true rfl⟩) hS (fun _ h => h) (fun r u H1 locs hw hP1 hk hS => ?_)
    obtain ⟨hw1, hw⟩ := hw; subst r; subst u
    have hP := hP1
    generalize H1 = H at hP hS ⊢
    have hP : va_P (gD g) vwCl (wX g ad ((xNow σ), (xTaken σ), (xTrial σ), (xScr σ), (xRow σ), (refuX (xRefus σ) ((-2) : Int32)), (xKept σ), (xRowLen σ), (xIsTaken σ))) H := hP
    have hD : va_D (AD ad 0 45) (wX g ad ((xNow σ), (xTaken σ), (xTrial σ), (xScr σ), (xRow σ), (refuX (xRefus σ) ((-2) : Int32)), (xKept σ), (xRowLen σ), (xIsTaken σ))) := hD.addr (by rfl)
    exact W.lret (v := (4000000000000000000 - ((-2) : Int32).toInt64)) hx hb hr (fun t ht hW => ⟨⟨(4000000000000000000 - ((-2) : Int32).toInt64), ((xNow σ), (xTaken σ), (xTrial σ), (xScr σ), (xRow σ), (refuX (xRefus σ) ((-2) : Int32)), (xKept σ), (xRowLen σ), (xIsTaken σ)), rfl, hv, P_at ht hP⟩, hS.F ht⟩) hS.2.2 dX2_mean_13

set_option maxHeartbeats 4000000 in
set_option maxRecDepth 100000 in
theorem m_X2_whatIs (l : Launch) (h_X0_hasWitness : C_X0_hasWitness l) (h_X2_isPart : C_X2_isPart l) (h_X2_kindsByRow : C_X2_kindsByRow l) (h_X2_knownByRow : C_X2_knownByRow l) (h_X2_refused : C_X2_refused l) (g : CX) (ad : Nat → Nat) (σ : KX) (p0 : Int32) (p1 : Int32) (Post : Int32 → KX → Prop) (hv : vc_X2_whatIs σ p0 p1 Post) : Met l yX2_whatIs wsX2_whatIs { frames := 5, cells := 0, slots := 0, locals := 116 } (va_Pc [.ref (ad 0), .int p0, .int p1] (RW g (AD ad 0 45) (wX g ad σ))) (va_Qi (fun (r : Int32) (u : KX) => Post r u) (fun u t => va_P (gD g) vwCl (wX g ad u) t.heap) (AD ad 0 45)) 0 0 (AD ad 0 45) := by
  unfold vc_X2_whatIs at hv
  refine Met.ofW (cc := cX2_whatIs) (maxL := 3) (ret := (some .int)) (by decide) rfl ?_
  intro p e s m args below meth c s₁ B hml hv0
  obtain ⟨rfl, hP, hK, hE, hD⟩ := hv0
  have hx := B.exec
  have hb := B.bytes
  have hr := B.returns
  have hts := atoms_spec (ws := wsX2_whatIs) B.pre
  have hown : s.vm.findClass RX2 = some m.cls := findClass_of_methodNamed B.named
  have hlocks := B.notSynchronized
  have hi0 : ∀ w ∈ wsX00, w ∈ wsX2_whatIs := by decide +kernel
  have hi2 : ∀ w ∈ wsX20, w ∈ wsX2_whatIs := by decide +kernel
  have k0 := hts (.fieldLink RX2 10 "JuryHearsAnswers" "now" "LJuryHearsAnswers$Court;") (by decide +kernel)
  have k1 := hts (.fieldLink RX2 202 "JuryHearsAnswers" "rowLength" "I") (by decide +kernel)
  have k2 := hts (.fieldLink RX2 179 "JuryHearsAnswers$Court" "questions" "I") (by decide +kernel)
  have hS : va_S (AD ad 0 45) s.heap s.heap [] := va_S.rf
  have hP : va_P (gD g) vwCl (wX g ad σ) s.heap := hP
  have hl := lv_entry ([.ref (ad 0), .int p0, .int p1]) (n := 3) (Nat.le_of_ble_eq_true rfl)
  rw [lg_entry_eq]
  generalize (lg_sl ([.ref (ad 0), .int p0, .int p1]) ++ List.replicate (3 - (lg_sl ([.ref (ad 0), .int p0, .int p1])).length) Slot.unset).toArray = ls at hl ⊢
  have hl : lv_has ls 3 [(0, .ref (ad 0)), (1, .int p0), (2, .int p1)] := hl
  obtain ⟨H, hH⟩ : ∃ z, z = s.heap := ⟨_, rfl⟩
  obtain ⟨locs, hL⟩ : ∃ z : List Loc, z = [] := ⟨_, rfl⟩
  rw [← hL] at hS ⊢
  have hS : va_S (AD ad 0 45) s.heap H locs := by rw [hH]; exact hS
  rw [← hH] at hP ⊢
  clear hH hL
  refine lv_aload_n hx hb dX2_whatIs_0 rfl (lv_at hl 0 rfl) ?_
  refine va_get (D := gD g) (ci := 2) (v := .ref (ad 4)) (C := RX2) (T := TX2) (N := 9) hx hb hts hi2 hown hK hP 0 rfl rfl 0 (by decide) k0 (fun _ h9 => h9) rfl dX2_whatIs_1 ?_
  refine lv_iload_n hx hb dX2_whatIs_4 rfl (lv_at hl 1 rfl) ?_
  have hPc : va_P (gD g) vwCl (wC g ad 4 (xNow σ)) H := hP.sub [4, 5, 6, 7, 8, 9, 10, 11, 12, 13, 14, 15, 16] rfl
  refine ro_int (va_runV (As := [.int p0]) (rest := []) ⟨hx, hb, hml, hown, hts⟩ (h_X0_hasWitness g ad 4 (xNow σ) p0) (cwV 1 hts gX2_whatIs_X0_hasWitness rfl rfl rfl (by decide +kernel) ⟨Nat.le_of_ble_eq_true rfl, Nat.le_of_ble_eq_true rfl⟩) ⟨RO_blind, va_recv hK hP (ci := 0) (q0 := 4) rfl rfl, fun U hU hW => ⟨rfl, by rw [hU]; exact hPc, va_K.moved hW.alike hK, hE.call hW hU hS (fun _ h => h.elim)⟩⟩ rfl rfl hl.1 rfl (lv_room (Nat.le_of_ble_eq_true rfl)) dX2_whatIs_5 ⟨Nat.le_of_ble_eq_true rfl, Nat.le_of_ble_eq_true rfl⟩) hS hP (fun r H locs hw hP hS => ?_)
  subst r
  refine lv_if_ne (tgt := 17) hx hb dX2_whatIs_8 (by decide) (fun c8 => ?_) (fun c8 => ?_)
  · have hv := hv.1 c8
    refine lv_iload_n hx hb dX2_whatIs_17 rfl (lv_at hl 2 rfl) ?_
    have hPc : va_P (gD g) vwCl [] H := fun k q h => by simp at h
    refine ro_int (va_runS (As := [.int p1]) (rest := []) ⟨hx, hb, hml, hown, hts⟩ (h_X2_isPart g p1) (va_cwS 1 hts gX2_whatIs_X2_isPart rfl rfl rfl (by decide +kernel) ⟨Nat.le_of_ble_eq_true rfl, Nat.le_of_ble_eq_true rfl⟩) ⟨RO_blind, fun U hU hW => ⟨rfl, by rw [hU]; exact hPc, va_K.moved hW.alike hK, hE.call hW hU hS (fun _ h => h.elim)⟩⟩ rfl rfl hl.1 rfl (lv_room (Nat.le_of_ble_eq_true rfl)) dX2_whatIs_18 ⟨Nat.le_of_ble_eq_true rfl, Nat.le_of_ble_eq_true rfl⟩) hS hP (fun r H locs hw hP hS => ?_)
    subst r
    refine lv_if_ne (tgt := 31) hx hb dX2_whatIs_21 (by decide) (fun c21 => ?_) (fun c21 => ?_)
    · have hv := hv.1 c21
      refine lv_aload_n hx hb dX2_whatIs_31 rfl (lv_at hl 0 rfl) ?_
      refine va_get (D := gD g) (ci := 2) (v := .int (xRowLen σ)) (C := RX2) (T := TX2) (N := 9) hx hb hts hi2 hown hK hP 0 rfl rfl 7 (by decide) k1 (fun _ h9 => h9) rfl dX2_whatIs_32 ?_
      refine lv_aload_n hx hb dX2_whatIs_35 rfl (lv_at hl 0 rfl) ?_
      refine va_get (D := gD g) (ci := 2) (v := .ref (ad 4)) (C := RX2) (T := TX2) (N := 9) hx hb hts hi2 hown hK hP 0 rfl rfl 0 (by decide) k0 (fun _ h9 => h9) rfl dX2_whatIs_36 ?_
      refine va_get (D := gD g) (ci := 0) (v := .int (sNq (cS (xNow σ)))) (C := RX0) (T := TX0) (N := 17) hx hb hts hi0 hown hK hP 4 rfl rfl 2 (by decide) k2 (fun _ h9 => h9) rfl dX2_whatIs_39 ?_
      refine lv_icmp_le (tgt := 52) hx hb dX2_whatIs_42 (by decide) (fun c42 => ?_) (fun c42 => ?_)
      · have hv := hv.1 c42
        refine lv_iload_n hx hb dX2_whatIs_52 rfl (lv_at hl 2 rfl) ?_
        refine lv_if_ne (tgt := 64) hx hb dX2_whatIs_53 (by decide) (fun c53 => ?_) (fun c53 => ?_)
        · have hv := hv.1 c53
          refine lv_aload_n hx hb dX2_whatIs_64 rfl (lv_at hl 0 rfl) ?_
          refine lv_iload_n hx hb dX2_whatIs_65 rfl (lv_at hl 1 rfl) ?_
          have h8 := hv.1
          have hv := hv.2
          have hPc := hP
          have hDc := hD
          refine rw_int (va_runV (As := [.int p0]) (rest := []) ⟨hx, hb, hml, hown, hts⟩ (h_X2_knownByRow g ad σ p0 h8) (cwV 1 hts gX2_whatIs_X2_knownByRow rfl rfl rfl (by decide +kernel) ⟨Nat.le_of_ble_eq_true rfl, Nat.le_of_ble_eq_true rfl⟩) ⟨RW_blind, va_recv hK hP (ci := 2) (q0 := 0) rfl rfl, fun U hU hW => ⟨rfl, by rw [hU]; exact hPc, va_K.moved hW.alike hK, hE.call hW hU hS (fun _ h => h), hDc⟩⟩ rfl rfl hl.1 rfl (lv_room (Nat.le_of_ble_eq_true rfl)) dX2_whatIs_66 ⟨Nat.le_of_ble_eq_true rfl, Nat.le_of_ble_eq_true rfl⟩) hS (fun _ h => h) (fun r u H1 locs hw hP1 hk hS => ?_)
          obtain ⟨e66_trial, hex, hw1, hw⟩ := hw; subst r; subst u
          have hv := hv e66_trial hex
          have hP := hP1
          generalize H1 = H at hP hS ⊢
          have hP : va_P (gD g) vwCl (wX g ad ((xNow σ), (xTaken σ), (e66_trial), (xScr σ), (xRow σ), (xRefus σ), (xKept σ), (xRowLen σ), (xIsTaken σ))) H := hP
          have hD : va_D (AD ad 0 45) (wX g ad ((xNow σ), (xTaken σ), (e66_trial), (xScr σ), (xRow σ), (xRefus σ), (xKept σ), (xRowLen σ), (xIsTaken σ))) := hD.addr (by rfl)
          exact W.iret (v := (knownX (xNow σ) (xRow σ) (xRowLen σ) p0)) hx hb hr (fun t ht hW => ⟨⟨(knownX (xNow σ) (xRow σ) (xRowLen σ) p0), ((xNow σ), (xTaken σ), (e66_trial), (xScr σ), (xRow σ), (xRefus σ), (xKept σ), (xRowLen σ), (xIsTaken σ)), rfl, hv, P_at ht hP⟩, hS.F ht⟩) hS.2.2 dX2_whatIs_69
        · have hv := hv.2 c53
          refine lv_aload_n hx hb dX2_whatIs_56 rfl (lv_at hl 0 rfl) ?_
          refine lv_iload_n hx hb dX2_whatIs_57 rfl (lv_at hl 1 rfl) ?_
          have h8 := hv.1
          have hv := hv.2
          have hPc := hP
          have hDc := hD
          refine rw_int (va_runV (As := [.int p0]) (rest := []) ⟨hx, hb, hml, hown, hts⟩ (h_X2_kindsByRow g ad σ p0 h8) (cwV 1 hts gX2_whatIs_X2_kindsByRow rfl rfl rfl (by decide +kernel) ⟨Nat.le_of_ble_eq_true rfl, Nat.le_of_ble_eq_true rfl⟩) ⟨RW_blind, va_recv hK hP (ci := 2) (q0 := 0) rfl rfl, fun U hU hW => ⟨rfl, by rw [hU]; exact hPc, va_K.moved hW.alike hK, hE.call hW hU hS (fun _ h => h), hDc⟩⟩ rfl rfl hl.1 rfl (lv_room (Nat.le_of_ble_eq_true rfl)) dX2_whatIs_58 ⟨Nat.le_of_ble_eq_true rfl, Nat.le_of_ble_eq_true rfl⟩) hS (fun _ h => h) (fun r u H1 locs hw hP1 hk hS => ?_)
          obtain ⟨e58_trial, hex, hw1, hw⟩ := hw; subst r; subst u
          have hv := hv e58_trial hex
          have hP := hP1
          generalize H1 = H at hP hS ⊢
          have hP : va_P (gD g) vwCl (wX g ad ((xNow σ), (xTaken σ), (e58_trial), (xScr σ), (xRow σ), (xRefus σ), (xKept σ), (xRowLen σ), (xIsTaken σ))) H := hP
          have hD : va_D (AD ad 0 45) (wX g ad ((xNow σ), (xTaken σ), (e58_trial), (xScr σ), (xRow σ), (xRefus σ), (xKept σ), (xRowLen σ), (xIsTaken σ))) := hD.addr (by rfl)
          refine lv_goto (tgt := 69) hx hb dX2_whatIs_61 (by decide) ?_
          exact W.iret (v := (kindsX (xNow σ) (xRow σ) (xRowLen σ) p0)) hx hb hr (fun t ht hW => ⟨⟨(kindsX (xNow σ) (xRow σ) (xRowLen σ) p0), ((xNow σ), (xTaken σ), (e58_trial), (xScr σ), (xRow σ), (xRefus σ), (xKept σ), (xRowLen σ), (xIsTaken σ)), rfl, hv, P_at ht hP⟩, hS.F ht⟩) hS.2.2 dX2_whatIs_69
      · have hv := hv.2 c42
        refine lv_aload_n hx hb dX2_whatIs_45 rfl (lv_at hl 0 rfl) ?_
        refine lv_bipush (v := (-3)) hx hb dX2_whatIs_46 (by decide) ?_
        have h8 := hv.1
        have hv := hv.2
        have hPc := hP
        have hDc := hD
        refine rw_int (va_runV (As := [.int (-3)]) (rest := []) ⟨hx, hb, hml, hown, hts⟩ (h_X2_refused g ad σ (-3) h8) (cwV 1 hts gX2_whatIs_X2_refused rfl rfl rfl (by decide +kernel) ⟨Nat.le_of_ble_eq_true rfl, Nat.le_of_ble_eq_true rfl⟩) ⟨RW_blind, va_recv hK hP (ci := 2) (q0 := 0) rfl rfl, fun U hU hW => ⟨rfl, by rw [hU]; exact hPc, va_K.moved hW.alike hK, hE.call hW hU hS (fun _ h => h), hDc⟩⟩ rfl rfl hl.1 rfl (lv_room (Nat.le_of_ble_eq_true rfl)) dX2_whatIs_48 ⟨Nat.le_of_ble_eq_true rfl, Nat.le_of_ble_eq_true rfl⟩) hS (fun _ h => h) (fun r u H1 locs hw hP1 hk hS => ?_)
        obtain ⟨hw1, hw⟩ := hw; subst r; subst u
        have hP := hP1
        generalize H1 = H at hP hS ⊢
        have hP : va_P (gD g) vwCl (wX g ad ((xNow σ), (xTaken σ), (xTrial σ), (xScr σ), (xRow σ), (refuX (xRefus σ) ((-3) : Int32)), (xKept σ), (xRowLen σ), (xIsTaken σ))) H := hP
        have hD : va_D (AD ad 0 45) (wX g ad ((xNow σ), (xTaken σ), (xTrial σ), (xScr σ), (xRow σ), (refuX (xRefus σ) ((-3) : Int32)), (xKept σ), (xRowLen σ), (xIsTaken σ))) := hD.addr (by rfl)
        exact W.iret (v := (((-3) : Int32))) hx hb hr (fun t ht hW => ⟨⟨(((-3) : Int32)), ((xNow σ), (xTaken σ), (xTrial σ), (xScr σ), (xRow σ), (refuX (xRefus σ) ((-3) : Int32)), (xKept σ), (xRowLen σ), (xIsTaken σ)), rfl, hv, P_at ht hP⟩, hS.F ht⟩) hS.2.2 dX2_whatIs_51
    · have hv := hv.2 c21
      refine lv_aload_n hx hb dX2_whatIs_24 rfl (lv_at hl 0 rfl) ?_
      refine lv_bipush (v := (-2)) hx hb dX2_whatIs_25 (by decide) ?_
      have h8 := hv.1
      have hv := hv.2
      have hPc := hP
      have hDc := hD
      refine rw_int (va_runV (As := [.int (-2)]) (rest := []) ⟨hx, hb, hml, hown, hts⟩ (h_X2_refused g ad σ (-2) h8) (cwV 1 hts gX2_whatIs_X2_refused rfl rfl rfl (by decide +kernel) ⟨Nat.le_of_ble_eq_true rfl, Nat.le_of_ble_eq_true rfl⟩) ⟨RW_blind, va_recv hK hP (ci := 2) (q0 := 0) rfl rfl, fun U hU hW => ⟨rfl, by rw [hU]; exact hPc, va_K.moved hW.alike hK, hE.call hW hU hS (fun _ h => h), hDc⟩⟩ rfl rfl hl.1 rfl (lv_room (Nat.le_of_ble_eq_true rfl)) dX2_whatIs_27 ⟨Nat.le_of_ble_eq_true rfl, Nat.le_of_ble_eq_true rfl⟩) hS (fun _ h => h) (fun r u H1 locs hw hP1 hk hS => ?_)
      obtain ⟨hw1, hw⟩ := hw; subst r; subst u
      have hP := hP1
      generalize H1 = H at hP hS ⊢
      have hP : va_P (gD g) vwCl (wX g ad ((xNow σ), (xTaken σ), (xTrial σ), (xScr σ), (xRow σ), (refuX (xRefus σ) ((-2) : Int32)), (xKept σ), (xRowLen σ), (xIsTaken σ))) H := hP
      have hD : va_D (AD ad 0 45) (wX g ad ((xNow σ), (xTaken σ), (xTrial σ), (xScr σ), (xRow σ), (refuX (xRefus σ) ((-2) : Int32)), (xKept σ), (xRowLen σ), (xIsTaken σ))) := hD.addr (by rfl)
      exact W.iret (v := (((-2) : Int32))) hx hb hr (fun t ht hW => ⟨⟨(((-2) : Int32)), ((xNow σ), (xTaken σ), (xTrial σ), (xScr σ), (xRow σ), (refuX (xRefus σ) ((-2) : Int32)), (xKept σ), (xRowLen σ), (xIsTaken σ)), rfl, hv, P_at ht hP⟩, hS.F ht⟩) hS.2.2 dX2_whatIs_30
  · have hv := hv.2 c8
    refine lv_aload_n hx hb dX2_whatIs_11 rfl (lv_at hl 0 rfl) ?_
    refine lv_iconst (v := (-1)) hx hb dX2_whatIs_12 (by decide) ?_
    have h8 := hv.1
    have hv := hv.2
    have hPc := hP
    have hDc := hD
    refine rw_int (va_runV (As := [.int (-1)]) (rest := []) ⟨hx, hb, hml, hown, hts⟩ (h_X2_refused g ad σ (-1) h8) (cwV 1 hts gX2_whatIs_X2_refused rfl rfl rfl (by decide +kernel) ⟨Nat.le_of_ble_eq_true rfl, Nat.le_of_ble_eq_true rfl⟩) ⟨RW_blind, va_recv hK hP (ci := 2) (q0 := 0) rfl rfl, fun U hU hW => ⟨rfl, by rw [hU]; exact hPc, va_K.moved hW.alike hK, hE.call hW hU hS (fun _ h => h), hDc⟩⟩ rfl rfl hl.1 rfl (lv_room (Nat.le_of_ble_eq_true rfl)) dX2_whatIs_13 ⟨Nat.le_of_ble_eq_true rfl, Nat.le_of_ble_eq_true rfl⟩) hS (fun _ h => h) (fun r u H1 locs hw hP1 hk hS => ?_)
    obtain ⟨hw1, hw⟩ := hw; subst r; subst u
    have hP := hP1
    generalize H1 = H at hP hS ⊢
    have hP : va_P (gD g) vwCl (wX g ad ((xNow σ), (xTaken σ), (xTrial σ), (xScr σ), (xRow σ), (refuX (xRefus σ) ((-1) : Int32)), (xKept σ), (xRowLen σ), (xIsTaken σ))) H := hP
    have hD : va_D (AD ad 0 45) (wX g ad ((xNow σ), (xTaken σ), (xTrial σ), (xScr σ), (xRow σ), (refuX (xRefus σ) ((-1) : Int32)), (xKept σ), (xRowLen σ), (xIsTaken σ))) := hD.addr (by rfl)
    exact W.iret (v := (((-1) : Int32))) hx hb hr (fun t ht hW => ⟨⟨(((-1) : Int32)), ((xNow σ), (xTaken σ), (xTrial σ), (xScr σ), (xRow σ), (refuX (xRefus σ) ((-1) : Int32)), (xKept σ), (xRowLen σ), (xIsTaken σ)), rfl, hv, P_at ht hP⟩, hS.F ht⟩) hS.2.2 dX2_whatIs_16

set_option maxHeartbeats 4000000 in
set_option maxRecDepth 100000 in
theorem m_X2_row (l : Launch) (h_X2_refused : C_X2_refused l) (g : CX) (ad : Nat → Nat) (σ : KX) (p0 : Int32) (Post : Int32 → KX → Prop) (hv : vc_X2_row σ p0 Post) : Met l yX2_row wsX2_row { frames := 1, cells := 0, slots := 0, locals := 21 } (va_Pc [.ref (ad 0), .int p0] (RW g (AD ad 0 45) (wX g ad σ))) (va_Qi (fun (r : Int32) (u : KX) => Post r u) (fun u t => va_P (gD g) vwCl (wX g ad u) t.heap) (AD ad 0 45)) 0 0 (AD ad 0 45) := by
  unfold vc_X2_row at hv
  refine Met.ofW (cc := cX2_row) (maxL := 2) (ret := (some .int)) (by decide) rfl ?_
  intro p e s m args below meth c s₁ B hml hv0
  obtain ⟨rfl, hP, hK, hE, hD⟩ := hv0
  have hx := B.exec
  have hb := B.bytes
  have hr := B.returns
  have hts := atoms_spec (ws := wsX2_row) B.pre
  have hown : s.vm.findClass RX2 = some m.cls := findClass_of_methodNamed B.named
  have hlocks := B.notSynchronized
  have hi2 : ∀ w ∈ wsX20, w ∈ wsX2_row := by decide +kernel
  have k0 := hts (.fieldLink RX2 202 "JuryHearsAnswers" "rowLength" "I") (by decide +kernel)
  have k1 := hts (.fieldLink RX2 29 "JuryHearsAnswers" "rowNumbers" "[I") (by decide +kernel)
  have hS : va_S (AD ad 0 45) s.heap s.heap [] := va_S.rf
  have hP : va_P (gD g) vwCl (wX g ad σ) s.heap := hP
  have hl := lv_entry ([.ref (ad 0), .int p0]) (n := 2) (Nat.le_of_ble_eq_true rfl)
  rw [lg_entry_eq]
  generalize (lg_sl ([.ref (ad 0), .int p0]) ++ List.replicate (2 - (lg_sl ([.ref (ad 0), .int p0])).length) Slot.unset).toArray = ls at hl ⊢
  have hl : lv_has ls 2 [(0, .ref (ad 0)), (1, .int p0)] := hl
  obtain ⟨H, hH⟩ : ∃ z, z = s.heap := ⟨_, rfl⟩
  obtain ⟨locs, hL⟩ : ∃ z : List Loc, z = [] := ⟨_, rfl⟩
  rw [← hL] at hS ⊢
  have hS : va_S (AD ad 0 45) s.heap H locs := by rw [hH]; exact hS
  rw [← hH] at hP ⊢
  clear hH hL
  refine lv_iload_n hx hb dX2_row_0 rfl (lv_at hl 1 rfl) ?_
  refine lv_if_ge (tgt := 11) hx hb dX2_row_1 (by decide) (fun c1 => ?_) (fun c1 => ?_)
  · have hv := hv.1 c1
    refine lv_iload_n hx hb dX2_row_11 rfl (lv_at hl 1 rfl) ?_
    refine lv_bipush (v := 99) hx hb dX2_row_12 (by decide) ?_
    refine lv_icmp_gt (tgt := 26) hx hb dX2_row_14 (by decide) (fun c14 => ?_) (fun c14 => ?_)
    · have hv := hv.1 c14
      refine lv_aload_n hx hb dX2_row_26 rfl (lv_at hl 0 rfl) ?_
      refine lv_bipush (v := (-6)) hx hb dX2_row_27 (by decide) ?_
      have h8 := hv.1
      have hv := hv.2
      have hPc := hP
      have hDc := hD
      refine rw_int (va_runV (As := [.int (-6)]) (rest := []) ⟨hx, hb, hml, hown, hts⟩ (h_X2_refused g ad σ (-6) h8) (cwV 1 hts gX2_row_X2_refused rfl rfl rfl (by decide +kernel) ⟨Nat.le_of_ble_eq_true rfl, Nat.le_of_ble_eq_true rfl⟩) ⟨RW_blind, va_recv hK hP (ci := 2) (q0 := 0) rfl rfl, fun U hU hW => ⟨rfl, by rw [hU]; exact hPc, va_K.moved hW.alike hK, hE.call hW hU hS (fun _ h => h), hDc⟩⟩ rfl rfl hl.1 rfl (lv_room (Nat.le_of_ble_eq_true rfl)) dX2_row_29 ⟨Nat.le_of_ble_eq_true rfl, Nat.le_of_ble_eq_true rfl⟩) hS (fun _ h => h) (fun r u H1 locs hw hP1 hk hS => ?_)
      obtain ⟨hw1, hw⟩ := hw; subst r; subst u
      have hP := hP1
      generalize H1 = H at hP hS ⊢
      have hP : va_P (gD g) vwCl (wX g ad ((xNow σ), (xTaken σ), (xTrial σ), (xScr σ), (xRow σ), (refuX (xRefus σ) ((-6) : Int32)), (xKept σ), (xRowLen σ), (xIsTaken σ))) H := hP
      have hD : va_D (AD ad 0 45) (wX g ad ((xNow σ), (xTaken σ), (xTrial σ), (xScr σ), (xRow σ), (refuX (xRefus σ) ((-6) : Int32)), (xKept σ), (xRowLen σ), (xIsTaken σ))) := hD.addr (by rfl)
      exact W.iret (v := (((-6) : Int32))) hx hb hr (fun t ht hW => ⟨⟨(((-6) : Int32)), ((xNow σ), (xTaken σ), (xTrial σ), (xScr σ), (xRow σ), (refuX (xRefus σ) ((-6) : Int32)), (xKept σ), (xRowLen σ), (xIsTaken σ)), rfl, hv, P_at ht hP⟩, hS.F ht⟩) hS.2.2 dX2_row_32
    · have hv := hv.2 c14
      refine lv_aload_n hx hb dX2_row_17 rfl (lv_at hl 0 rfl) ?_
      refine va_get (D := gD g) (ci := 2) (v := .int (xRowLen σ)) (C := RX2) (T := TX2) (N := 9) hx hb hts hi2 hown hK hP 0 rfl rfl 7 (by decide) k0 (fun _ h9 => h9) rfl dX2_row_18 ?_
      refine lv_bipush (v := 12) hx hb dX2_row_21 (by decide) ?_
      refine lv_icmp_lt (tgt := 33) hx hb dX2_row_23 (by decide) (fun c23 => ?_) (fun c23 => ?_)
      · have hv := hv.1 c23
        refine lv_aload_n hx hb dX2_row_33 rfl (lv_at hl 0 rfl) ?_
        refine va_get (D := gD g) (ci := 2) (v := .ref (ad 1)) (C := RX2) (T := TX2) (N := 9) hx hb hts hi2 hown hK hP 0 rfl rfl 4 (by decide) k1 (fun _ h9 => h9) rfl dX2_row_34 ?_
        refine lv_aload_n hx hb dX2_row_37 rfl (lv_at hl 0 rfl) ?_
        refine va_get (D := gD g) (ci := 2) (v := .int (xRowLen σ)) (C := RX2) (T := TX2) (N := 9) hx hb hts hi2 hown hK hP 0 rfl rfl 7 (by decide) k0 (fun _ h9 => h9) rfl dX2_row_38 ?_
        refine lv_iload_n hx hb dX2_row_41 rfl (lv_at hl 1 rfl) ?_
        have h9 := hv.1
        have hv := hv.2
        refine va_iast (f := (xRow σ)) (n := 12) hx hb hK hP hD hS 1 0 rfl rfl h9 dX2_row_42 (fun H locs hP hD hS => ?_)
        have hP : va_P (gD g) vwCl (wX g ad ((xNow σ), (xTaken σ), (xTrial σ), (xScr σ), (upd (xRow σ) ((xRowLen σ)).toNatClampNeg p0), (xRefus σ), (xKept σ), (xRowLen σ), (xIsTaken σ))) H := hP
        have hD : va_D (AD ad 0 45) (wX g ad ((xNow σ), (xTaken σ), (xTrial σ), (xScr σ), (upd (xRow σ) ((xRowLen σ)).toNatClampNeg p0), (xRefus σ), (xKept σ), (xRowLen σ), (xIsTaken σ))) := hD
        refine lv_aload_n hx hb dX2_row_43 rfl (lv_at hl 0 rfl) ?_
        refine lv_dup hx hb dX2_row_44 rfl ?_
        refine va_get (D := gD g) (ci := 2) (v := .int (xRowLen σ)) (C := RX2) (T := TX2) (N := 9) hx hb hts hi2 hown hK hP 0 rfl rfl 7 (by decide) k0 (fun _ h9 => h9) rfl dX2_row_45 ?_
        refine lv_iconst (v := 1) hx hb dX2_row_48 (by decide) ?_
        refine lv_iadd hx hb dX2_row_49 ?_
        refine va_put (D := gD g) (ci := 2) (v := .int ((xRowLen σ) + 1)) (ty := .int) (C := RX2) (T := TX2) (N := 9) hx hb hts hi2 tyX2 tyX2_ok nmX2 hown hK hP hD hS 0 rfl rfl 7 (by decide) k0 (fun _ h9 => h9) rfl (by decide +kernel) rfl rfl (Nat.le_of_ble_eq_true rfl) dX2_row_50 (fun H locs hP hD hS => ?_)
        have hP : va_P (gD g) vwCl (wX g ad ((xNow σ), (xTaken σ), (xTrial σ), (xScr σ), (upd (xRow σ) ((xRowLen σ)).toNatClampNeg p0), (xRefus σ), (xKept σ), ((xRowLen σ) + 1), (xIsTaken σ))) H := hP
        have hD : va_D (AD ad 0 45) (wX g ad ((xNow σ), (xTaken σ), (xTrial σ), (xScr σ), (upd (xRow σ) ((xRowLen σ)).toNatClampNeg p0), (xRefus σ), (xKept σ), ((xRowLen σ) + 1), (xIsTaken σ))) := hD
        refine lv_aload_n hx hb dX2_row_53 rfl (lv_at hl 0 rfl) ?_
        refine va_get (D := gD g) (ci := 2) (v := .int ((xRowLen σ) + 1)) (C := RX2) (T := TX2) (N := 9) hx hb hts hi2 hown hK hP 0 rfl rfl 7 (by decide) k0 (fun _ h9 => h9) rfl dX2_row_54 ?_
        exact W.iret (v := ((xRowLen σ) + 1)) hx hb hr (fun t ht hW => ⟨⟨((xRowLen σ) + 1), ((xNow σ), (xTaken σ), (xTrial σ), (xScr σ), (upd (xRow σ) ((xRowLen σ)).toNatClampNeg p0), (xRefus σ), (xKept σ), ((xRowLen σ) + 1), (xIsTaken σ)), rfl, hv, P_at ht hP⟩, hS.F ht⟩) hS.2.2 dX2_row_57
      · have hv := hv.2 c23
        refine lv_aload_n hx hb dX2_row_26 rfl (lv_at hl 0 rfl) ?_
        refine lv_bipush (v := (-6)) hx hb dX2_row_27 (by decide) ?_
        have h8 := hv.1
        have hv := hv.2
        have hPc := hP
        have hDc := hD
        refine rw_int (va_runV (As := [.int (-6)]) (rest := []) ⟨hx, hb, hml, hown, hts⟩ (h_X2_refused g ad σ (-6) h8) (cwV 1 hts gX2_row_X2_refused rfl rfl rfl (by decide +kernel) ⟨Nat.le_of_ble_eq_true rfl, Nat.le_of_ble_eq_true rfl⟩) ⟨RW_blind, va_recv hK hP (ci := 2) (q0 := 0) rfl rfl, fun U hU hW => ⟨rfl, by rw [hU]; exact hPc, va_K.moved hW.alike hK, hE.call hW hU hS (fun _ h => h), hDc⟩⟩ rfl rfl hl.1 rfl (lv_room (Nat.le_of_ble_eq_true rfl)) dX2_row_29 ⟨Nat.le_of_ble_eq_true rfl, Nat.le_of_ble_eq_true rfl⟩) hS (fun _ h => h) (fun r u H1 locs hw hP1 hk hS => ?_)
        obtain ⟨hw1, hw⟩ := hw; subst r; subst u
        have hP := hP1
        generalize H1 = H at hP hS ⊢
        have hP : va_P (gD g) vwCl (wX g ad ((xNow σ), (xTaken σ), (xTrial σ), (xScr σ), (xRow σ), (refuX (xRefus σ) ((-6) : Int32)), (xKept σ), (xRowLen σ), (xIsTaken σ))) H := hP
        have hD : va_D (AD ad 0 45) (wX g ad ((xNow σ), (xTaken σ), (xTrial σ), (xScr σ), (xRow σ), (refuX (xRefus σ) ((-6) : Int32)), (xKept σ), (xRowLen σ), (xIsTaken σ))) := hD.addr (by rfl)
        exact W.iret (v := (((-6) : Int32))) hx hb hr (fun t ht hW => ⟨⟨(((-6) : Int32)), ((xNow σ), (xTaken σ), (xTrial σ), (xScr σ), (xRow σ), (refuX (xRefus σ) ((-6) : Int32)), (xKept σ), (xRowLen σ), (xIsTaken σ)), rfl, hv, P_at ht hP⟩, hS.F ht⟩) hS.2.2 dX2_row_32
  · have hv := hv.2 c1
    refine lv_aload_n hx hb dX2_row_4 rfl (lv_at hl 0 rfl) ?_
    refine lv_bipush (v := (-4)) hx hb dX2_row_5 (by decide) ?_
    have h8 := hv.1
    have hv := hv.2
    have hPc := hP
    have hDc := hD
    refine rw_int (va_runV (As := [.int (-4)]) (rest := []) ⟨hx, hb, hml, hown, hts⟩ (h_X2_refused g ad σ (-4) h8) (cwV 1 hts gX2_row_X2_refused rfl rfl rfl (by decide +kernel) ⟨Nat.le_of_ble_eq_true rfl, Nat.le_of_ble_eq_true rfl⟩) ⟨RW_blind, va_recv hK hP (ci := 2) (q0 := 0) rfl rfl, fun U hU hW => ⟨rfl, by rw [hU]; exact hPc, va_K.moved hW.alike hK, hE.call hW hU hS (fun _ h => h), hDc⟩⟩ rfl rfl hl.1 rfl (lv_room (Nat.le_of_ble_eq_true rfl)) dX2_row_7 ⟨Nat.le_of_ble_eq_true rfl, Nat.le_of_ble_eq_true rfl⟩) hS (fun _ h => h) (fun r u H1 locs hw hP1 hk hS => ?_)
    obtain ⟨hw1, hw⟩ := hw; subst r; subst u
    have hP := hP1
    generalize H1 = H at hP hS ⊢
    have hP : va_P (gD g) vwCl (wX g ad ((xNow σ), (xTaken σ), (xTrial σ), (xScr σ), (xRow σ), (refuX (xRefus σ) ((-4) : Int32)), (xKept σ), (xRowLen σ), (xIsTaken σ))) H := hP
    have hD : va_D (AD ad 0 45) (wX g ad ((xNow σ), (xTaken σ), (xTrial σ), (xScr σ), (xRow σ), (refuX (xRefus σ) ((-4) : Int32)), (xKept σ), (xRowLen σ), (xIsTaken σ))) := hD.addr (by rfl)
    exact W.iret (v := (((-4) : Int32))) hx hb hr (fun t ht hW => ⟨⟨(((-4) : Int32)), ((xNow σ), (xTaken σ), (xTrial σ), (xScr σ), (xRow σ), (refuX (xRefus σ) ((-4) : Int32)), (xKept σ), (xRowLen σ), (xIsTaken σ)), rfl, hv, P_at ht hP⟩, hS.F ht⟩) hS.2.2 dX2_row_10

set_option maxHeartbeats 4000000 in
set_option maxRecDepth 100000 in
theorem m_X2_judge (l : Launch) (h_X2_firstWrongInRow : C_X2_firstWrongInRow l) (g : CX) (ad : Nat → Nat) (σ : KX)  (Post : Int32 → KX → Prop) (hv : vc_X2_judge σ Post) : Met l yX2_judge wsX2_judge { frames := 2, cells := 0, slots := 0, locals := 42 } (va_Pc [.ref (ad 0)] (RW g (AD ad 0 45) (wX g ad σ))) (va_Qi (fun (r : Int32) (u : KX) => Post r u) (fun u t => va_P (gD g) vwCl (wX g ad u) t.heap) (AD ad 0 45)) 0 0 (AD ad 0 45) := by
  unfold vc_X2_judge at hv
  refine Met.ofW (cc := cX2_judge) (maxL := 2) (ret := (some .int)) (by decide) rfl ?_
  intro p e s m args below meth c s₁ B hml hv0
  obtain ⟨rfl, hP, hK, hE, hD⟩ := hv0
  have hx := B.exec
  have hb := B.bytes
  have hr := B.returns
  have hts := atoms_spec (ws := wsX2_judge) B.pre
  have hown : s.vm.findClass RX2 = some m.cls := findClass_of_methodNamed B.named
  have hlocks := B.notSynchronized
  have hi2 : ∀ w ∈ wsX20, w ∈ wsX2_judge := by decide +kernel
  have k0 := hts (.fieldLink RX2 202 "JuryHearsAnswers" "rowLength" "I") (by decide +kernel)
  have hS : va_S (AD ad 0 45) s.heap s.heap [] := va_S.rf
  have hP : va_P (gD g) vwCl (wX g ad σ) s.heap := hP
  have hl := lv_entry ([.ref (ad 0)]) (n := 2) (Nat.le_of_ble_eq_true rfl)
  rw [lg_entry_eq]
  generalize (lg_sl ([.ref (ad 0)]) ++ List.replicate (2 - (lg_sl ([.ref (ad 0)])).length) Slot.unset).toArray = ls at hl ⊢
  have hl : lv_has ls 2 [(0, .ref (ad 0))] := hl
  obtain ⟨H, hH⟩ : ∃ z, z = s.heap := ⟨_, rfl⟩
  obtain ⟨locs, hL⟩ : ∃ z : List Loc, z = [] := ⟨_, rfl⟩
  rw [← hL] at hS ⊢
  have hS : va_S (AD ad 0 45) s.heap H locs := by rw [hH]; exact hS
  rw [← hH] at hP ⊢
  clear hH hL
  refine lv_aload_n hx hb dX2_judge_0 rfl (lv_at hl 0 rfl) ?_
  have h8 := hv.1
  have hv := hv.2
  have hPc := hP
  refine ro_int (va_runV (As := []) (rest := []) ⟨hx, hb, hml, hown, hts⟩ (h_X2_firstWrongInRow g ad σ h8) (cwV 0 hts gX2_judge_X2_firstWrongInRow rfl rfl rfl (by decide +kernel) ⟨Nat.le_of_ble_eq_true rfl, Nat.le_of_ble_eq_true rfl⟩) ⟨RO_blind, va_recv hK hP (ci := 2) (q0 := 0) rfl rfl, fun U hU hW => ⟨rfl, by rw [hU]; exact hPc, va_K.moved hW.alike hK, hE.call hW hU hS (fun _ h => h.elim)⟩⟩ rfl rfl hl.1 rfl (lv_room (Nat.le_of_ble_eq_true rfl)) dX2_judge_1 ⟨Nat.le_of_ble_eq_true rfl, Nat.le_of_ble_eq_true rfl⟩) hS hP (fun r H locs hw hP hS => ?_)
  subst r
  refine lv_istore_n (lv' := [(1, .int (wrongX (cS (xNow σ)) (xRow σ) (xRowLen σ))), (0, .ref (ad 0))]) hx hb dX2_judge_4 rfl hl (by decide) rfl (fun ls hl => ?_)
  refine lv_aload_n hx hb dX2_judge_5 rfl (lv_at hl 1 rfl) ?_
  refine lv_iconst (v := 0) hx hb dX2_judge_6 (by decide) ?_
  refine va_put (D := gD g) (ci := 2) (v := .int 0) (ty := .int) (C := RX2) (T := TX2) (N := 9) hx hb hts hi2 tyX2 tyX2_ok nmX2 hown hK hP hD hS 0 rfl rfl 7 (by decide) k0 (fun _ h9 => h9) rfl (by decide +kernel) rfl rfl (Nat.le_of_ble_eq_true rfl) dX2_judge_7 (fun H locs hP hD hS => ?_)
  have hP : va_P (gD g) vwCl (wX g ad ((xNow σ), (xTaken σ), (xTrial σ), (xScr σ), (xRow σ), (xRefus σ), (xKept σ), 0, (xIsTaken σ))) H := hP
  have hD : va_D (AD ad 0 45) (wX g ad ((xNow σ), (xTaken σ), (xTrial σ), (xScr σ), (xRow σ), (xRefus σ), (xKept σ), 0, (xIsTaken σ))) := hD
  refine lv_iload_n hx hb dX2_judge_10 rfl (lv_at hl 0 rfl) ?_
  exact W.iret (v := (wrongX (cS (xNow σ)) (xRow σ) (xRowLen σ))) hx hb hr (fun t ht hW => ⟨⟨(wrongX (cS (xNow σ)) (xRow σ) (xRowLen σ)), ((xNow σ), (xTaken σ), (xTrial σ), (xScr σ), (xRow σ), (xRefus σ), (xKept σ), 0, (xIsTaken σ)), rfl, hv, P_at ht hP⟩, hS.F ht⟩) hS.2.2 dX2_judge_11

set_option maxHeartbeats 4000000 in
set_option maxRecDepth 100000 in
theorem m_X2_clear (l : Launch)  (g : CX) (ad : Nat → Nat) (σ : KX)  (Post : Int32 → KX → Prop) (hv : vc_X2_clear σ Post) : Met l yX2_clear wsX2_clear { frames := 0, cells := 0, slots := 0, locals := 0 } (va_Pc [.ref (ad 0)] (RW g (AD ad 0 45) (wX g ad σ))) (va_Qi (fun (r : Int32) (u : KX) => Post r u) (fun u t => va_P (gD g) vwCl (wX g ad u) t.heap) (AD ad 0 45)) 0 0 (AD ad 0 45) := by
  unfold vc_X2_clear at hv
  refine Met.ofW (cc := cX2_clear) (maxL := 2) (ret := (some .int)) (by decide) rfl ?_
  intro p e s m args below meth c s₁ B hml hv0
  obtain ⟨rfl, hP, hK, hE, hD⟩ := hv0
  have hx := B.exec
  have hb := B.bytes
  have hr := B.returns
  have hts := atoms_spec (ws := wsX2_clear) B.pre
  have hown : s.vm.findClass RX2 = some m.cls := findClass_of_methodNamed B.named
  have hlocks := B.notSynchronized
  have hi2 : ∀ w ∈ wsX20, w ∈ wsX2_clear := by decide +kernel
  have k0 := hts (.fieldLink RX2 202 "JuryHearsAnswers" "rowLength" "I") (by decide +kernel)
  have hS : va_S (AD ad 0 45) s.heap s.heap [] := va_S.rf
  have hP : va_P (gD g) vwCl (wX g ad σ) s.heap := hP
  have hl := lv_entry ([.ref (ad 0)]) (n := 2) (Nat.le_of_ble_eq_true rfl)
  rw [lg_entry_eq]
  generalize (lg_sl ([.ref (ad 0)]) ++ List.replicate (2 - (lg_sl ([.ref (ad 0)])).length) Slot.unset).toArray = ls at hl ⊢
  have hl : lv_has ls 2 [(0, .ref (ad 0))] := hl
  obtain ⟨H, hH⟩ : ∃ z, z = s.heap := ⟨_, rfl⟩
  obtain ⟨locs, hL⟩ : ∃ z : List Loc, z = [] := ⟨_, rfl⟩
  rw [← hL] at hS ⊢
  have hS : va_S (AD ad 0 45) s.heap H locs := by rw [hH]; exact hS
  rw [← hH] at hP ⊢
  clear hH hL
  refine lv_aload_n hx hb dX2_clear_0 rfl (lv_at hl 0 rfl) ?_
  refine va_get (D := gD g) (ci := 2) (v := .int (xRowLen σ)) (C := RX2) (T := TX2) (N := 9) hx hb hts hi2 hown hK hP 0 rfl rfl 7 (by decide) k0 (fun _ h9 => h9) rfl dX2_clear_1 ?_
  refine lv_istore_n (lv' := [(1, .int (xRowLen σ)), (0, .ref (ad 0))]) hx hb dX2_clear_4 rfl hl (by decide) rfl (fun ls hl => ?_)
  refine lv_aload_n hx hb dX2_clear_5 rfl (lv_at hl 1 rfl) ?_
  refine lv_iconst (v := 0) hx hb dX2_clear_6 (by decide) ?_
  refine va_put (D := gD g) (ci := 2) (v := .int 0) (ty := .int) (C := RX2) (T := TX2) (N := 9) hx hb hts hi2 tyX2 tyX2_ok nmX2 hown hK hP hD hS 0 rfl rfl 7 (by decide) k0 (fun _ h9 => h9) rfl (by decide +kernel) rfl rfl (Nat.le_of_ble_eq_true rfl) dX2_clear_7 (fun H locs hP hD hS => ?_)
  have hP : va_P (gD g) vwCl (wX g ad ((xNow σ), (xTaken σ), (xTrial σ), (xScr σ), (xRow σ), (xRefus σ), (xKept σ), 0, (xIsTaken σ))) H := hP
  have hD : va_D (AD ad 0 45) (wX g ad ((xNow σ), (xTaken σ), (xTrial σ), (xScr σ), (xRow σ), (xRefus σ), (xKept σ), 0, (xIsTaken σ))) := hD
  refine lv_iload_n hx hb dX2_clear_10 rfl (lv_at hl 0 rfl) ?_
  exact W.iret (v := (xRowLen σ)) hx hb hr (fun t ht hW => ⟨⟨(xRowLen σ), ((xNow σ), (xTaken σ), (xTrial σ), (xScr σ), (xRow σ), (xRefus σ), (xKept σ), 0, (xIsTaken σ)), rfl, hv, P_at ht hP⟩, hS.F ht⟩) hS.2.2 dX2_clear_11

set_option maxHeartbeats 4000000 in
set_option maxRecDepth 100000 in
theorem m_X2_lots (l : Launch) (h_X2_isPart : C_X2_isPart l) (h_X2_refused : C_X2_refused l) (h_X2_sessions : C_X2_sessions l) (g : CX) (ad : Nat → Nat) (σ : KX) (p0 : Int32) (p1 : Int32) (p2 : Int32) (Post : Int32 → KX → Prop) (hv : vc_X2_lots σ p0 p1 p2 Post) : Met l yX2_lots wsX2_lots { frames := 6, cells := 0, slots := 0, locals := 143 } (va_Pc [.ref (ad 0), .int p0, .int p1, .int p2] (RW g (AD ad 0 45) (wX g ad σ))) (va_Qi (fun (r : Int32) (u : KX) => Post r u) (fun u t => va_P (gD g) vwCl (wX g ad u) t.heap) (AD ad 0 45)) 0 0 (AD ad 0 45) := by
  unfold vc_X2_lots at hv
  refine Met.ofW (cc := cX2_lots) (maxL := 4) (ret := (some .int)) (by decide) rfl ?_
  intro p e s m args below meth c s₁ B hml hv0
  obtain ⟨rfl, hP, hK, hE, hD⟩ := hv0
  have hx := B.exec
  have hb := B.bytes
  have hr := B.returns
  have hts := atoms_spec (ws := wsX2_lots) B.pre
  have hown : s.vm.findClass RX2 = some m.cls := findClass_of_methodNamed B.named
  have hlocks := B.notSynchronized
  have hi0 : ∀ w ∈ wsX00, w ∈ wsX2_lots := by decide +kernel
  have hi2 : ∀ w ∈ wsX20, w ∈ wsX2_lots := by decide +kernel
  have k0 := hts (.fieldLink RX2 10 "JuryHearsAnswers" "now" "LJuryHearsAnswers$Court;") (by decide +kernel)
  have k1 := hts (.fieldLink RX2 152 "JuryHearsAnswers$Court" "witnesses" "I") (by decide +kernel)
  have k2 := hts (.fieldLink RX2 179 "JuryHearsAnswers$Court" "questions" "I") (by decide +kernel)
  have hS : va_S (AD ad 0 45) s.heap s.heap [] := va_S.rf
  have hP : va_P (gD g) vwCl (wX g ad σ) s.heap := hP
  have hl := lv_entry ([.ref (ad 0), .int p0, .int p1, .int p2]) (n := 4) (Nat.le_of_ble_eq_true rfl)
  rw [lg_entry_eq]
  generalize (lg_sl ([.ref (ad 0), .int p0, .int p1, .int p2]) ++ List.replicate (4 - (lg_sl ([.ref (ad 0), .int p0, .int p1, .int p2])).length) Slot.unset).toArray = ls at hl ⊢
  have hl : lv_has ls 4 [(0, .ref (ad 0)), (1, .int p0), (2, .int p1), (3, .int p2)] := hl
  obtain ⟨H, hH⟩ : ∃ z, z = s.heap := ⟨_, rfl⟩
  obtain ⟨locs, hL⟩ : ∃ z : List Loc, z = [] := ⟨_, rfl⟩
  rw [← hL] at hS ⊢
  have hS : va_S (AD ad 0 45) s.heap H locs := by rw [hH]; exact hS
  rw [← hH] at hP ⊢
  clear hH hL
  refine lv_iload_n hx hb dX2_lots_0 rfl (lv_at hl 1 rfl) ?_
  refine lv_iconst (v := 1) hx hb dX2_lots_1 (by decide) ?_
  refine lv_icmp_ge (tgt := 12) hx hb dX2_lots_2 (by decide) (fun c2 => ?_) (fun c2 => ?_)
  · have hv := hv.1 c2
    refine lv_iload_n hx hb dX2_lots_12 rfl (lv_at hl 1 rfl) ?_
    refine lv_bipush (v := 20) hx hb dX2_lots_13 (by decide) ?_
    refine lv_icmp_le (tgt := 25) hx hb dX2_lots_15 (by decide) (fun c15 => ?_) (fun c15 => ?_)
    · have hv := hv.1 c15
      refine lv_iload_n hx hb dX2_lots_25 rfl (lv_at hl 3 rfl) ?_
      have hPc : va_P (gD g) vwCl [] H := fun k q h => by simp at h
      refine ro_int (va_runS (As := [.int p2]) (rest := []) ⟨hx, hb, hml, hown, hts⟩ (h_X2_isPart g p2) (va_cwS 1 hts gX2_lots_X2_isPart rfl rfl rfl (by decide +kernel) ⟨Nat.le_of_ble_eq_true rfl, Nat.le_of_ble_eq_true rfl⟩) ⟨RO_blind, fun U hU hW => ⟨rfl, by rw [hU]; exact hPc, va_K.moved hW.alike hK, hE.call hW hU hS (fun _ h => h.elim)⟩⟩ rfl rfl hl.1 rfl (lv_room (Nat.le_of_ble_eq_true rfl)) dX2_lots_26 ⟨Nat.le_of_ble_eq_true rfl, Nat.le_of_ble_eq_true rfl⟩) hS hP (fun r H locs hw hP hS => ?_)
      subst r
      refine lv_if_ne (tgt := 39) hx hb dX2_lots_29 (by decide) (fun c29 => ?_) (fun c29 => ?_)
      · have hv := hv.1 c29
        refine lv_aload_n hx hb dX2_lots_39 rfl (lv_at hl 0 rfl) ?_
        refine va_get (D := gD g) (ci := 2) (v := .ref (ad 4)) (C := RX2) (T := TX2) (N := 9) hx hb hts hi2 hown hK hP 0 rfl rfl 0 (by decide) k0 (fun _ h9 => h9) rfl dX2_lots_40 ?_
        refine va_get (D := gD g) (ci := 0) (v := .int (sNw (cS (xNow σ)))) (C := RX0) (T := TX0) (N := 17) hx hb hts hi0 hown hK hP 4 rfl rfl 3 (by decide) k1 (fun _ h9 => h9) rfl dX2_lots_43 ?_
        refine lv_if_eq (tgt := 59) hx hb dX2_lots_46 (by decide) (fun c46 => ?_) (fun c46 => ?_)
        · have hv := hv.1 c46
          refine lv_aload_n hx hb dX2_lots_59 rfl (lv_at hl 0 rfl) ?_
          refine lv_bipush (v := (-3)) hx hb dX2_lots_60 (by decide) ?_
          have h8 := hv.1
          have hv := hv.2
          have hPc := hP
          have hDc := hD
          refine rw_int (va_runV (As := [.int (-3)]) (rest := []) ⟨hx, hb, hml, hown, hts⟩ (h_X2_refused g ad σ (-3) h8) (cwV 1 hts gX2_lots_X2_refused rfl rfl rfl (by decide +kernel) ⟨Nat.le_of_ble_eq_true rfl, Nat.le_of_ble_eq_true rfl⟩) ⟨RW_blind, va_recv hK hP (ci := 2) (q0 := 0) rfl rfl, fun U hU hW => ⟨rfl, by rw [hU]; exact hPc, va_K.moved hW.alike hK, hE.call hW hU hS (fun _ h => h), hDc⟩⟩ rfl rfl hl.1 rfl (lv_room (Nat.le_of_ble_eq_true rfl)) dX2_lots_62 ⟨Nat.le_of_ble_eq_true rfl, Nat.le_of_ble_eq_true rfl⟩) hS (fun _ h => h) (fun r u H1 locs hw hP1 hk hS => ?_)
          obtain ⟨hw1, hw⟩ := hw; subst r; subst u
          have hP := hP1
          generalize H1 = H at hP hS ⊢
          have hP : va_P (gD g) vwCl (wX g ad ((xNow σ), (xTaken σ), (xTrial σ), (xScr σ), (xRow σ), (refuX (xRefus σ) ((-3) : Int32)), (xKept σ), (xRowLen σ), (xIsTaken σ))) H := hP
          have hD : va_D (AD ad 0 45) (wX g ad ((xNow σ), (xTaken σ), (xTrial σ), (xScr σ), (xRow σ), (refuX (xRefus σ) ((-3) : Int32)), (xKept σ), (xRowLen σ), (xIsTaken σ))) := hD.addr (by rfl)
          exact W.iret (v := (((-3) : Int32))) hx hb hr (fun t ht hW => ⟨⟨(((-3) : Int32)), ((xNow σ), (xTaken σ), (xTrial σ), (xScr σ), (xRow σ), (refuX (xRefus σ) ((-3) : Int32)), (xKept σ), (xRowLen σ), (xIsTaken σ)), rfl, hv, P_at ht hP⟩, hS.F ht⟩) hS.2.2 dX2_lots_65
        · have hv := hv.2 c46
          refine lv_aload_n hx hb dX2_lots_49 rfl (lv_at hl 0 rfl) ?_
          refine va_get (D := gD g) (ci := 2) (v := .ref (ad 4)) (C := RX2) (T := TX2) (N := 9) hx hb hts hi2 hown hK hP 0 rfl rfl 0 (by decide) k0 (fun _ h9 => h9) rfl dX2_lots_50 ?_
          refine va_get (D := gD g) (ci := 0) (v := .int (sNq (cS (xNow σ)))) (C := RX0) (T := TX0) (N := 17) hx hb hts hi0 hown hK hP 4 rfl rfl 2 (by decide) k2 (fun _ h9 => h9) rfl dX2_lots_53 ?_
          refine lv_if_ne (tgt := 66) hx hb dX2_lots_56 (by decide) (fun c56 => ?_) (fun c56 => ?_)
          · have hv := hv.1 c56
            refine lv_aload_n hx hb dX2_lots_66 rfl (lv_at hl 0 rfl) ?_
            refine lv_iload_n hx hb dX2_lots_67 rfl (lv_at hl 1 rfl) ?_
            refine lv_iload_n hx hb dX2_lots_68 rfl (lv_at hl 2 rfl) ?_
            refine lv_iload_n hx hb dX2_lots_69 rfl (lv_at hl 3 rfl) ?_
            have h8 := hv.1
            have hv := hv.2
            have hPc := hP
            have hDc := hD
            refine rw_int (va_runV (As := [.int p0, .int p1, .int p2]) (rest := []) ⟨hx, hb, hml, hown, hts⟩ (h_X2_sessions g ad σ p0 p1 p2 h8) (cwV 3 hts gX2_lots_X2_sessions rfl rfl rfl (by decide +kernel) ⟨Nat.le_of_ble_eq_true rfl, Nat.le_of_ble_eq_true rfl⟩) ⟨RW_blind, va_recv hK hP (ci := 2) (q0 := 0) rfl rfl, fun U hU hW => ⟨rfl, by rw [hU]; exact hPc, va_K.moved hW.alike hK, hE.call hW hU hS (fun _ h => h), hDc⟩⟩ rfl rfl hl.1 rfl (lv_room (Nat.le_of_ble_eq_true rfl)) dX2_lots_70 ⟨Nat.le_of_ble_eq_true rfl, Nat.le_of_ble_eq_true rfl⟩) hS (fun _ h => h) (fun r u H1 locs hw hP1 hk hS => ?_)
            obtain ⟨e70_trial, hex, hw1, hw⟩ := hw; subst r; subst u
            have hv := hv e70_trial hex
            have hP := hP1
            generalize H1 = H at hP hS ⊢
            have hP : va_P (gD g) vwCl (wX g ad ((xNow σ), (xTaken σ), (e70_trial), (xScr σ), (xRow σ), (xRefus σ), (xKept σ), (xRowLen σ), (xIsTaken σ))) H := hP
            have hD : va_D (AD ad 0 45) (wX g ad ((xNow σ), (xTaken σ), (e70_trial), (xScr σ), (xRow σ), (xRefus σ), (xKept σ), (xRowLen σ), (xIsTaken σ))) := hD.addr (by rfl)
            exact W.iret (v := (lotsX (xNow σ) p0 p1 p2)) hx hb hr (fun t ht hW => ⟨⟨(lotsX (xNow σ) p0 p1 p2), ((xNow σ), (xTaken σ), (e70_trial), (xScr σ), (xRow σ), (xRefus σ), (xKept σ), (xRowLen σ), (xIsTaken σ)), rfl, hv, P_at ht hP⟩, hS.F ht⟩) hS.2.2 dX2_lots_73
          · have hv := hv.2 c56
            refine lv_aload_n hx hb dX2_lots_59 rfl (lv_at hl 0 rfl) ?_
            refine lv_bipush (v := (-3)) hx hb dX2_lots_60 (by decide) ?_
            have h8 := hv.1
            have hv := hv.2
            have hPc := hP
            have hDc := hD
            refine rw_int (va_runV (As := [.int (-3)]) (rest := []) ⟨hx, hb, hml, hown, hts⟩ (h_X2_refused g ad σ (-3) h8) (cwV 1 hts gX2_lots_X2_refused rfl rfl rfl (by decide +kernel) ⟨Nat.le_of_ble_eq_true rfl, Nat.le_of_ble_eq_true rfl⟩) ⟨RW_blind, va_recv hK hP (ci := 2) (q0 := 0) rfl rfl, fun U hU hW => ⟨rfl, by rw [hU]; exact hPc, va_K.moved hW.alike hK, hE.call hW hU hS (fun _ h => h), hDc⟩⟩ rfl rfl hl.1 rfl (lv_room (Nat.le_of_ble_eq_true rfl)) dX2_lots_62 ⟨Nat.le_of_ble_eq_true rfl, Nat.le_of_ble_eq_true rfl⟩) hS (fun _ h => h) (fun r u H1 locs hw hP1 hk hS => ?_)
            obtain ⟨hw1, hw⟩ := hw; subst r; subst u
            have hP := hP1
            generalize H1 = H at hP hS ⊢
            have hP : va_P (gD g) vwCl (wX g ad ((xNow σ), (xTaken σ), (xTrial σ), (xScr σ), (xRow σ), (refuX (xRefus σ) ((-3) : Int32)), (xKept σ), (xRowLen σ), (xIsTaken σ))) H := hP
            have hD : va_D (AD ad 0 45) (wX g ad ((xNow σ), (xTaken σ), (xTrial σ), (xScr σ), (xRow σ), (refuX (xRefus σ) ((-3) : Int32)), (xKept σ), (xRowLen σ), (xIsTaken σ))) := hD.addr (by rfl)
            exact W.iret (v := (((-3) : Int32))) hx hb hr (fun t ht hW => ⟨⟨(((-3) : Int32)), ((xNow σ), (xTaken σ), (xTrial σ), (xScr σ), (xRow σ), (refuX (xRefus σ) ((-3) : Int32)), (xKept σ), (xRowLen σ), (xIsTaken σ)), rfl, hv, P_at ht hP⟩, hS.F ht⟩) hS.2.2 dX2_lots_65
      · have hv := hv.2 c29
        refine lv_aload_n hx hb dX2_lots_32 rfl (lv_at hl 0 rfl) ?_
        refine lv_bipush (v := (-2)) hx hb dX2_lots_33 (by decide) ?_
        have h8 := hv.1
        have hv := hv.2
        have hPc := hP
        have hDc := hD
        refine rw_int (va_runV (As := [.int (-2)]) (rest := []) ⟨hx, hb, hml, hown, hts⟩ (h_X2_refused g ad σ (-2) h8) (cwV 1 hts gX2_lots_X2_refused rfl rfl rfl (by decide +kernel) ⟨Nat.le_of_ble_eq_true rfl, Nat.le_of_ble_eq_true rfl⟩) ⟨RW_blind, va_recv hK hP (ci := 2) (q0 := 0) rfl rfl, fun U hU hW => ⟨rfl, by rw [hU]; exact hPc, va_K.moved hW.alike hK, hE.call hW hU hS (fun _ h => h), hDc⟩⟩ rfl rfl hl.1 rfl (lv_room (Nat.le_of_ble_eq_true rfl)) dX2_lots_35 ⟨Nat.le_of_ble_eq_true rfl, Nat.le_of_ble_eq_true rfl⟩) hS (fun _ h => h) (fun r u H1 locs hw hP1 hk hS => ?_)
        obtain ⟨hw1, hw⟩ := hw; subst r; subst u
        have hP := hP1
        generalize H1 = H at hP hS ⊢
        have hP : va_P (gD g) vwCl (wX g ad ((xNow σ), (xTaken σ), (xTrial σ), (xScr σ), (xRow σ), (refuX (xRefus σ) ((-2) : Int32)), (xKept σ), (xRowLen σ), (xIsTaken σ))) H := hP
        have hD : va_D (AD ad 0 45) (wX g ad ((xNow σ), (xTaken σ), (xTrial σ), (xScr σ), (xRow σ), (refuX (xRefus σ) ((-2) : Int32)), (xKept σ), (xRowLen σ), (xIsTaken σ))) := hD.addr (by rfl)
        exact W.iret (v := (((-2) : Int32))) hx hb hr (fun t ht hW => ⟨⟨(((-2) : Int32)), ((xNow σ), (xTaken σ), (xTrial σ), (xScr σ), (xRow σ), (refuX (xRefus σ) ((-2) : Int32)), (xKept σ), (xRowLen σ), (xIsTaken σ)), rfl, hv, P_at ht hP⟩, hS.F ht⟩) hS.2.2 dX2_lots_38
    · have hv := hv.2 c15
      refine lv_aload_n hx hb dX2_lots_18 rfl (lv_at hl 0 rfl) ?_
      refine lv_bipush (v := (-6)) hx hb dX2_lots_19 (by decide) ?_
      have h8 := hv.1
      have hv := hv.2
      have hPc := hP
      have hDc := hD
      refine rw_int (va_runV (As := [.int (-6)]) (rest := []) ⟨hx, hb, hml, hown, hts⟩ (h_X2_refused g ad σ (-6) h8) (cwV 1 hts gX2_lots_X2_refused rfl rfl rfl (by decide +kernel) ⟨Nat.le_of_ble_eq_true rfl, Nat.le_of_ble_eq_true rfl⟩) ⟨RW_blind, va_recv hK hP (ci := 2) (q0 := 0) rfl rfl, fun U hU hW => ⟨rfl, by rw [hU]; exact hPc, va_K.moved hW.alike hK, hE.call hW hU hS (fun _ h => h), hDc⟩⟩ rfl rfl hl.1 rfl (lv_room (Nat.le_of_ble_eq_true rfl)) dX2_lots_21 ⟨Nat.le_of_ble_eq_true rfl, Nat.le_of_ble_eq_true rfl⟩) hS (fun _ h => h) (fun r u H1 locs hw hP1 hk hS => ?_)
      obtain ⟨hw1, hw⟩ := hw; subst r; subst u
      have hP := hP1
      generalize H1 = H at hP hS ⊢
      have hP : va_P (gD g) vwCl (wX g ad ((xNow σ), (xTaken σ), (xTrial σ), (xScr σ), (xRow σ), (refuX (xRefus σ) ((-6) : Int32)), (xKept σ), (xRowLen σ), (xIsTaken σ))) H := hP
      have hD : va_D (AD ad 0 45) (wX g ad ((xNow σ), (xTaken σ), (xTrial σ), (xScr σ), (xRow σ), (refuX (xRefus σ) ((-6) : Int32)), (xKept σ), (xRowLen σ), (xIsTaken σ))) := hD.addr (by rfl)
      exact W.iret (v := (((-6) : Int32))) hx hb hr (fun t ht hW => ⟨⟨(((-6) : Int32)), ((xNow σ), (xTaken σ), (xTrial σ), (xScr σ), (xRow σ), (refuX (xRefus σ) ((-6) : Int32)), (xKept σ), (xRowLen σ), (xIsTaken σ)), rfl, hv, P_at ht hP⟩, hS.F ht⟩) hS.2.2 dX2_lots_24
  · have hv := hv.2 c2
    refine lv_aload_n hx hb dX2_lots_5 rfl (lv_at hl 0 rfl) ?_
    refine lv_bipush (v := (-4)) hx hb dX2_lots_6 (by decide) ?_
    have h8 := hv.1
    have hv := hv.2
    have hPc := hP
    have hDc := hD
    refine rw_int (va_runV (As := [.int (-4)]) (rest := []) ⟨hx, hb, hml, hown, hts⟩ (h_X2_refused g ad σ (-4) h8) (cwV 1 hts gX2_lots_X2_refused rfl rfl rfl (by decide +kernel) ⟨Nat.le_of_ble_eq_true rfl, Nat.le_of_ble_eq_true rfl⟩) ⟨RW_blind, va_recv hK hP (ci := 2) (q0 := 0) rfl rfl, fun U hU hW => ⟨rfl, by rw [hU]; exact hPc, va_K.moved hW.alike hK, hE.call hW hU hS (fun _ h => h), hDc⟩⟩ rfl rfl hl.1 rfl (lv_room (Nat.le_of_ble_eq_true rfl)) dX2_lots_8 ⟨Nat.le_of_ble_eq_true rfl, Nat.le_of_ble_eq_true rfl⟩) hS (fun _ h => h) (fun r u H1 locs hw hP1 hk hS => ?_)
    obtain ⟨hw1, hw⟩ := hw; subst r; subst u
    have hP := hP1
    generalize H1 = H at hP hS ⊢
    have hP : va_P (gD g) vwCl (wX g ad ((xNow σ), (xTaken σ), (xTrial σ), (xScr σ), (xRow σ), (refuX (xRefus σ) ((-4) : Int32)), (xKept σ), (xRowLen σ), (xIsTaken σ))) H := hP
    have hD : va_D (AD ad 0 45) (wX g ad ((xNow σ), (xTaken σ), (xTrial σ), (xScr σ), (xRow σ), (refuX (xRefus σ) ((-4) : Int32)), (xKept σ), (xRowLen σ), (xIsTaken σ))) := hD.addr (by rfl)
    exact W.iret (v := (((-4) : Int32))) hx hb hr (fun t ht hW => ⟨⟨(((-4) : Int32)), ((xNow σ), (xTaken σ), (xTrial σ), (xScr σ), (xRow σ), (refuX (xRefus σ) ((-4) : Int32)), (xKept σ), (xRowLen σ), (xIsTaken σ)), rfl, hv, P_at ht hP⟩, hS.F ht⟩) hS.2.2 dX2_lots_11

