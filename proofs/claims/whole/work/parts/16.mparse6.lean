set_option maxHeartbeats 4000000 in
set_option maxRecDepth 100000 in
theorem m_X3_passes_3 (l : Launch)  (g : CX) (ad : Nat → Nat) (σ : KM)  (Post : KM → Prop) (hv : vc_X3_passes_3 σ Post) : Met l yX3_passes wsX3_passes { frames := 0, cells := 0, slots := 0, locals := 0 } (va_Pc [.ref (ad 0), .ref (ad 3)] (RW g (AD ad 0 21) (wM g ad σ))) (va_Qv (fun (u : KM) => Post u) (fun u t => va_P (gD g) vwCl (wM g ad u) t.heap) (AD ad 0 21)) 0 0 (AD ad 0 21) := by
  unfold vc_X3_passes_3 at hv
  refine Met.ofW (cc := cX3_passes) (maxL := 3) (ret := none) (by decide) rfl ?_
  intro p e s m args below meth c s₁ B hml hv0
  obtain ⟨rfl, hP, hK, hE, hD⟩ := hv0
  have hx := B.exec
  have hb := B.bytes
  have hr := B.returns
  have hts := atoms_spec (ws := wsX3_passes) B.pre
  have hown : s.vm.findClass RX3 = some m.cls := findClass_of_methodNamed B.named
  have hlocks := B.notSynchronized
  have hi3 : ∀ w ∈ wsX30, w ∈ wsX3_passes := by decide +kernel
  have k0 := hts (.fieldLink RX3 160 "JuryHearsAnswersModel" "isKeeping" "Z") (by decide +kernel)
  have k1 := hts (.fieldLink RX3 55 "JuryHearsAnswersModel" "kept" "[I") (by decide +kernel)
  have k2 := hts (.fieldLink RX3 164 "JuryHearsAnswersModel" "cursor" "I") (by decide +kernel)
  have hS : va_S (AD ad 0 21) s.heap s.heap [] := va_S.rf
  have hP : va_P (gD g) vwCl (wM g ad σ) s.heap := hP
  have hl := lv_entry ([.ref (ad 0), .ref (ad 3)]) (n := 3) (Nat.le_of_ble_eq_true rfl)
  rw [lg_entry_eq]
  generalize (lg_sl ([.ref (ad 0), .ref (ad 3)]) ++ List.replicate (3 - (lg_sl ([.ref (ad 0), .ref (ad 3)])).length) Slot.unset).toArray = ls at hl ⊢
  have hl : lv_has ls 3 [(0, .ref (ad 0)), (1, .ref (ad 3))] := hl
  have hv := hv (fun (x2 : Int32) (s_K_cur : Int32) (s_K_kept : FI) (s_S_first : FI) => ∀ (H : Heap) (locs : List Loc) (ls : Array Slot), va_P (gD g) vwCl (wM g ad (((sCase (mS σ)), (sAsked (mS σ)), (sNq (mS σ)), (sNw (mS σ)), (sNh (mS σ)), (sForm (mS σ)), s_S_first, (sSecond (mS σ)), (sKind (mS σ)), (sFigure (mS σ)), (sKnows (mS σ)), (sWhom (mS σ)), (sWhat (mS σ)), (sSaid (mS σ)), (sWhen (mS σ))), (mT σ), (s_K_kept, (kHas (mK σ)), (kKeep (mK σ)), s_K_cur), (mF σ), (mRow σ), (mRowMany σ), (mLots σ), (mRefused σ))) H → va_D (AD ad 0 21) (wM g ad (((sCase (mS σ)), (sAsked (mS σ)), (sNq (mS σ)), (sNw (mS σ)), (sNh (mS σ)), (sForm (mS σ)), s_S_first, (sSecond (mS σ)), (sKind (mS σ)), (sFigure (mS σ)), (sKnows (mS σ)), (sWhom (mS σ)), (sWhat (mS σ)), (sSaid (mS σ)), (sWhen (mS σ))), (mT σ), (s_K_kept, (kHas (mK σ)), (kKeep (mK σ)), s_K_cur), (mF σ), (mRow σ), (mRowMany σ), (mLots σ), (mRefused σ))) → va_S (AD ad 0 21) s.heap H locs → lv_has ls 3 [(0, .ref (ad 0)), (1, .ref (ad 3)), (2, .int x2)] → W p l e { frames := 0, cells := 0, slots := 0, locals := 0 } s m ([.ref (ad 0), .ref (ad 3)] : List Value).toArray below meth c H locs 0 0 (MQ below (va_Qv (fun (u : KM) => Post u) (fun u t => va_P (gD g) vwCl (wM g ad u) t.heap) (AD ad 0 21)) ([.ref (ad 0), .ref (ad 3)] : List Value).toArray s 0 0 (AD ad 0 21)) (F0 m 2 ls []))
  have hv := hv (by
    intro x2 s_K_cur s_K_kept s_S_first hv H locs ls hP hD hS hl
    refine lv_iload_n hx hb dX3_passes_2 rfl (lv_at hl 2 rfl) ?_
    refine lv_aload_n hx hb dX3_passes_3 rfl (lv_at hl 1 rfl) ?_
    refine va_alen (v := 8) hx hb hK hP 3 rfl (t0 := 0) rfl rfl dX3_passes_4 ?_
    refine lv_icmp_ge (tgt := 58) hx hb dX3_passes_5 (by decide) (fun c5 => ?_) (fun c5 => ?_)
    · have hv := hv.1 c5
      exact W.vret hx hb hr (fun t ht hW => ⟨⟨(((sCase (mS σ)), (sAsked (mS σ)), (sNq (mS σ)), (sNw (mS σ)), (sNh (mS σ)), (sForm (mS σ)), s_S_first, (sSecond (mS σ)), (sKind (mS σ)), (sFigure (mS σ)), (sKnows (mS σ)), (sWhom (mS σ)), (sWhat (mS σ)), (sSaid (mS σ)), (sWhen (mS σ))), (mT σ), (s_K_kept, (kHas (mK σ)), (kKeep (mK σ)), s_K_cur), (mF σ), (mRow σ), (mRowMany σ), (mLots σ), (mRefused σ)), rfl, hv, P_at ht hP⟩, hS.F ht⟩) hS.2.2 dX3_passes_58
    · have hv := hv.2 c5
      refine lv_aload_n hx hb dX3_passes_8 rfl (lv_at hl 0 rfl) ?_
      refine va_get (D := gD g) (ci := 3) (v := .int (kKeep (mK σ))) (C := RX3) (T := TX3) (N := 33) hx hb hts hi3 hown hK hP 0 rfl rfl 25 (by decide) k0 (fun _ h9 => h9) rfl dX3_passes_9 ?_
      refine lv_if_eq (tgt := 30) hx hb dX3_passes_12 (by decide) (fun c12 => ?_) (fun c12 => ?_)
      · have hv := hv.1 c12
        refine lv_aload_n hx hb dX3_passes_30 rfl (lv_at hl 1 rfl) ?_
        refine lv_iload_n hx hb dX3_passes_31 rfl (lv_at hl 2 rfl) ?_
        refine lv_aload_n hx hb dX3_passes_32 rfl (lv_at hl 0 rfl) ?_
        refine va_get (D := gD g) (ci := 3) (v := .ref (ad 16)) (C := RX3) (T := TX3) (N := 33) hx hb hts hi3 hown hK hP 0 rfl rfl 23 (by decide) k1 (fun _ h9 => h9) rfl dX3_passes_33 ?_
        refine lv_aload_n hx hb dX3_passes_36 rfl (lv_at hl 0 rfl) ?_
        refine va_get (D := gD g) (ci := 3) (v := .int s_K_cur) (C := RX3) (T := TX3) (N := 33) hx hb hts hi3 hown hK hP 0 rfl rfl 26 (by decide) k2 (fun _ h9 => h9) rfl dX3_passes_37 ?_
        have h9 := hv.1
        have hv := hv.2
        refine va_iald (f := s_K_kept) (n := 276) hx hb hK hP 16 0 rfl rfl h9 dX3_passes_40 ?_
        have h9 := hv.1
        have hv := hv.2
        refine va_iast (f := s_S_first) (n := 8) hx hb hK hP hD hS 3 0 rfl rfl h9 dX3_passes_41 (fun H locs hP hD hS => ?_)
        have hP : va_P (gD g) vwCl (wM g ad (((sCase (mS σ)), (sAsked (mS σ)), (sNq (mS σ)), (sNw (mS σ)), (sNh (mS σ)), (sForm (mS σ)), (upd s_S_first (x2).toNatClampNeg (s_K_kept (s_K_cur).toNatClampNeg)), (sSecond (mS σ)), (sKind (mS σ)), (sFigure (mS σ)), (sKnows (mS σ)), (sWhom (mS σ)), (sWhat (mS σ)), (sSaid (mS σ)), (sWhen (mS σ))), (mT σ), (s_K_kept, (kHas (mK σ)), (kKeep (mK σ)), s_K_cur), (mF σ), (mRow σ), (mRowMany σ), (mLots σ), (mRefused σ))) H := hP
        have hD : va_D (AD ad 0 21) (wM g ad (((sCase (mS σ)), (sAsked (mS σ)), (sNq (mS σ)), (sNw (mS σ)), (sNh (mS σ)), (sForm (mS σ)), (upd s_S_first (x2).toNatClampNeg (s_K_kept (s_K_cur).toNatClampNeg)), (sSecond (mS σ)), (sKind (mS σ)), (sFigure (mS σ)), (sKnows (mS σ)), (sWhom (mS σ)), (sWhat (mS σ)), (sSaid (mS σ)), (sWhen (mS σ))), (mT σ), (s_K_kept, (kHas (mK σ)), (kKeep (mK σ)), s_K_cur), (mF σ), (mRow σ), (mRowMany σ), (mLots σ), (mRefused σ))) := hD
        refine lv_aload_n hx hb dX3_passes_42 rfl (lv_at hl 0 rfl) ?_
        refine lv_dup hx hb dX3_passes_43 rfl ?_
        refine va_get (D := gD g) (ci := 3) (v := .int s_K_cur) (C := RX3) (T := TX3) (N := 33) hx hb hts hi3 hown hK hP 0 rfl rfl 26 (by decide) k2 (fun _ h9 => h9) rfl dX3_passes_44 ?_
        refine lv_iconst (v := 1) hx hb dX3_passes_47 (by decide) ?_
        refine lv_iadd hx hb dX3_passes_48 ?_
        refine va_put (D := gD g) (ci := 3) (v := .int (s_K_cur + 1)) (ty := .int) (C := RX3) (T := TX3) (N := 33) hx hb hts hi3 tyX3 tyX3_ok nmX3 hown hK hP hD hS 0 rfl rfl 26 (by decide) k2 (fun _ h9 => h9) rfl (by decide +kernel) rfl rfl (Nat.le_of_ble_eq_true rfl) dX3_passes_49 (fun H locs hP hD hS => ?_)
        have hP : va_P (gD g) vwCl (wM g ad (((sCase (mS σ)), (sAsked (mS σ)), (sNq (mS σ)), (sNw (mS σ)), (sNh (mS σ)), (sForm (mS σ)), (upd s_S_first (x2).toNatClampNeg (s_K_kept (s_K_cur).toNatClampNeg)), (sSecond (mS σ)), (sKind (mS σ)), (sFigure (mS σ)), (sKnows (mS σ)), (sWhom (mS σ)), (sWhat (mS σ)), (sSaid (mS σ)), (sWhen (mS σ))), (mT σ), (s_K_kept, (kHas (mK σ)), (kKeep (mK σ)), (s_K_cur + 1)), (mF σ), (mRow σ), (mRowMany σ), (mLots σ), (mRefused σ))) H := hP
        have hD : va_D (AD ad 0 21) (wM g ad (((sCase (mS σ)), (sAsked (mS σ)), (sNq (mS σ)), (sNw (mS σ)), (sNh (mS σ)), (sForm (mS σ)), (upd s_S_first (x2).toNatClampNeg (s_K_kept (s_K_cur).toNatClampNeg)), (sSecond (mS σ)), (sKind (mS σ)), (sFigure (mS σ)), (sKnows (mS σ)), (sWhom (mS σ)), (sWhat (mS σ)), (sSaid (mS σ)), (sWhen (mS σ))), (mT σ), (s_K_kept, (kHas (mK σ)), (kKeep (mK σ)), (s_K_cur + 1)), (mF σ), (mRow σ), (mRowMany σ), (mLots σ), (mRefused σ))) := hD
        refine lv_iinc (v := (x2 + 1)) (lv' := [(2, .int (x2 + 1)), (0, .ref (ad 0)), (1, .ref (ad 3))]) hx hb dX3_passes_52 hl (k := 2) rfl (by first | rfl | exact congrArg _ (by decide)) (by decide) rfl (fun ls hl => ?_)
        refine lv_goto (tgt := 2) hx hb dX3_passes_55 (by decide) ?_
        exact hv H locs ls hP hD hS (lv_sub hl [1, 2, 0] rfl)
      · have hv := hv.2 c12
        refine lv_aload_n hx hb dX3_passes_15 rfl (lv_at hl 0 rfl) ?_
        refine va_get (D := gD g) (ci := 3) (v := .ref (ad 16)) (C := RX3) (T := TX3) (N := 33) hx hb hts hi3 hown hK hP 0 rfl rfl 23 (by decide) k1 (fun _ h9 => h9) rfl dX3_passes_16 ?_
        refine lv_aload_n hx hb dX3_passes_19 rfl (lv_at hl 0 rfl) ?_
        refine va_get (D := gD g) (ci := 3) (v := .int s_K_cur) (C := RX3) (T := TX3) (N := 33) hx hb hts hi3 hown hK hP 0 rfl rfl 26 (by decide) k2 (fun _ h9 => h9) rfl dX3_passes_20 ?_
        refine lv_aload_n hx hb dX3_passes_23 rfl (lv_at hl 1 rfl) ?_
        refine lv_iload_n hx hb dX3_passes_24 rfl (lv_at hl 2 rfl) ?_
        have h9 := hv.1
        have hv := hv.2
        refine va_iald (f := s_S_first) (n := 8) hx hb hK hP 3 0 rfl rfl h9 dX3_passes_25 ?_
        have h9 := hv.1
        have hv := hv.2
        refine va_iast (f := s_K_kept) (n := 276) hx hb hK hP hD hS 16 0 rfl rfl h9 dX3_passes_26 (fun H locs hP hD hS => ?_)
        have hP : va_P (gD g) vwCl (wM g ad (((sCase (mS σ)), (sAsked (mS σ)), (sNq (mS σ)), (sNw (mS σ)), (sNh (mS σ)), (sForm (mS σ)), s_S_first, (sSecond (mS σ)), (sKind (mS σ)), (sFigure (mS σ)), (sKnows (mS σ)), (sWhom (mS σ)), (sWhat (mS σ)), (sSaid (mS σ)), (sWhen (mS σ))), (mT σ), ((upd s_K_kept (s_K_cur).toNatClampNeg (s_S_first (x2).toNatClampNeg)), (kHas (mK σ)), (kKeep (mK σ)), s_K_cur), (mF σ), (mRow σ), (mRowMany σ), (mLots σ), (mRefused σ))) H := hP
        have hD : va_D (AD ad 0 21) (wM g ad (((sCase (mS σ)), (sAsked (mS σ)), (sNq (mS σ)), (sNw (mS σ)), (sNh (mS σ)), (sForm (mS σ)), s_S_first, (sSecond (mS σ)), (sKind (mS σ)), (sFigure (mS σ)), (sKnows (mS σ)), (sWhom (mS σ)), (sWhat (mS σ)), (sSaid (mS σ)), (sWhen (mS σ))), (mT σ), ((upd s_K_kept (s_K_cur).toNatClampNeg (s_S_first (x2).toNatClampNeg)), (kHas (mK σ)), (kKeep (mK σ)), s_K_cur), (mF σ), (mRow σ), (mRowMany σ), (mLots σ), (mRefused σ))) := hD
        refine lv_goto (tgt := 42) hx hb dX3_passes_27 (by decide) ?_
        refine lv_aload_n hx hb dX3_passes_42 rfl (lv_at hl 0 rfl) ?_
        refine lv_dup hx hb dX3_passes_43 rfl ?_
        refine va_get (D := gD g) (ci := 3) (v := .int s_K_cur) (C := RX3) (T := TX3) (N := 33) hx hb hts hi3 hown hK hP 0 rfl rfl 26 (by decide) k2 (fun _ h9 => h9) rfl dX3_passes_44 ?_
        refine lv_iconst (v := 1) hx hb dX3_passes_47 (by decide) ?_
        refine lv_iadd hx hb dX3_passes_48 ?_
        refine va_put (D := gD g) (ci := 3) (v := .int (s_K_cur + 1)) (ty := .int) (C := RX3) (T := TX3) (N := 33) hx hb hts hi3 tyX3 tyX3_ok nmX3 hown hK hP hD hS 0 rfl rfl 26 (by decide) k2 (fun _ h9 => h9) rfl (by decide +kernel) rfl rfl (Nat.le_of_ble_eq_true rfl) dX3_passes_49 (fun H locs hP hD hS => ?_)
        have hP : va_P (gD g) vwCl (wM g ad (((sCase (mS σ)), (sAsked (mS σ)), (sNq (mS σ)), (sNw (mS σ)), (sNh (mS σ)), (sForm (mS σ)), s_S_first, (sSecond (mS σ)), (sKind (mS σ)), (sFigure (mS σ)), (sKnows (mS σ)), (sWhom (mS σ)), (sWhat (mS σ)), (sSaid (mS σ)), (sWhen (mS σ))), (mT σ), ((upd s_K_kept (s_K_cur).toNatClampNeg (s_S_first (x2).toNatClampNeg)), (kHas (mK σ)), (kKeep (mK σ)), (s_K_cur + 1)), (mF σ), (mRow σ), (mRowMany σ), (mLots σ), (mRefused σ))) H := hP
        have hD : va_D (AD ad 0 21) (wM g ad (((sCase (mS σ)), (sAsked (mS σ)), (sNq (mS σ)), (sNw (mS σ)), (sNh (mS σ)), (sForm (mS σ)), s_S_first, (sSecond (mS σ)), (sKind (mS σ)), (sFigure (mS σ)), (sKnows (mS σ)), (sWhom (mS σ)), (sWhat (mS σ)), (sSaid (mS σ)), (sWhen (mS σ))), (mT σ), ((upd s_K_kept (s_K_cur).toNatClampNeg (s_S_first (x2).toNatClampNeg)), (kHas (mK σ)), (kKeep (mK σ)), (s_K_cur + 1)), (mF σ), (mRow σ), (mRowMany σ), (mLots σ), (mRefused σ))) := hD
        refine lv_iinc (v := (x2 + 1)) (lv' := [(2, .int (x2 + 1)), (0, .ref (ad 0)), (1, .ref (ad 3))]) hx hb dX3_passes_52 hl (k := 2) rfl (by first | rfl | exact congrArg _ (by decide)) (by decide) rfl (fun ls hl => ?_)
        refine lv_goto (tgt := 2) hx hb dX3_passes_55 (by decide) ?_
        exact hv H locs ls hP hD hS (lv_sub hl [1, 2, 0] rfl))
  obtain ⟨H, hH⟩ : ∃ z, z = s.heap := ⟨_, rfl⟩
  obtain ⟨locs, hL⟩ : ∃ z : List Loc, z = [] := ⟨_, rfl⟩
  rw [← hL] at hS ⊢
  have hS : va_S (AD ad 0 21) s.heap H locs := by rw [hH]; exact hS
  rw [← hH] at hP ⊢
  clear hH hL
  refine lv_iconst (v := 0) hx hb dX3_passes_0 (by decide) ?_
  refine lv_istore_n (lv' := [(2, .int 0), (0, .ref (ad 0)), (1, .ref (ad 3))]) hx hb dX3_passes_1 rfl hl (by decide) rfl (fun ls hl => ?_)
  exact hv H locs ls hP hD hS (lv_sub hl [1, 2, 0] rfl)

set_option maxHeartbeats 4000000 in
set_option maxRecDepth 100000 in
theorem m_X3_passes_4 (l : Launch)  (g : CX) (ad : Nat → Nat) (σ : KM)  (Post : KM → Prop) (hv : vc_X3_passes_4 σ Post) : Met l yX3_passes wsX3_passes { frames := 0, cells := 0, slots := 0, locals := 0 } (va_Pc [.ref (ad 0), .ref (ad 4)] (RW g (AD ad 0 21) (wM g ad σ))) (va_Qv (fun (u : KM) => Post u) (fun u t => va_P (gD g) vwCl (wM g ad u) t.heap) (AD ad 0 21)) 0 0 (AD ad 0 21) := by
  unfold vc_X3_passes_4 at hv
  refine Met.ofW (cc := cX3_passes) (maxL := 3) (ret := none) (by decide) rfl ?_
  intro p e s m args below meth c s₁ B hml hv0
  obtain ⟨rfl, hP, hK, hE, hD⟩ := hv0
  have hx := B.exec
  have hb := B.bytes
  have hr := B.returns
  have hts := atoms_spec (ws := wsX3_passes) B.pre
  have hown : s.vm.findClass RX3 = some m.cls := findClass_of_methodNamed B.named
  have hlocks := B.notSynchronized
  have hi3 : ∀ w ∈ wsX30, w ∈ wsX3_passes := by decide +kernel
  have k0 := hts (.fieldLink RX3 160 "JuryHearsAnswersModel" "isKeeping" "Z") (by decide +kernel)
  have k1 := hts (.fieldLink RX3 55 "JuryHearsAnswersModel" "kept" "[I") (by decide +kernel)
  have k2 := hts (.fieldLink RX3 164 "JuryHearsAnswersModel" "cursor" "I") (by decide +kernel)
  have hS : va_S (AD ad 0 21) s.heap s.heap [] := va_S.rf
  have hP : va_P (gD g) vwCl (wM g ad σ) s.heap := hP
  have hl := lv_entry ([.ref (ad 0), .ref (ad 4)]) (n := 3) (Nat.le_of_ble_eq_true rfl)
  rw [lg_entry_eq]
  generalize (lg_sl ([.ref (ad 0), .ref (ad 4)]) ++ List.replicate (3 - (lg_sl ([.ref (ad 0), .ref (ad 4)])).length) Slot.unset).toArray = ls at hl ⊢
  have hl : lv_has ls 3 [(0, .ref (ad 0)), (1, .ref (ad 4))] := hl
  have hv := hv (fun (x2 : Int32) (s_K_cur : Int32) (s_K_kept : FI) (s_S_second : FI) => ∀ (H : Heap) (locs : List Loc) (ls : Array Slot), va_P (gD g) vwCl (wM g ad (((sCase (mS σ)), (sAsked (mS σ)), (sNq (mS σ)), (sNw (mS σ)), (sNh (mS σ)), (sForm (mS σ)), (sFirst (mS σ)), s_S_second, (sKind (mS σ)), (sFigure (mS σ)), (sKnows (mS σ)), (sWhom (mS σ)), (sWhat (mS σ)), (sSaid (mS σ)), (sWhen (mS σ))), (mT σ), (s_K_kept, (kHas (mK σ)), (kKeep (mK σ)), s_K_cur), (mF σ), (mRow σ), (mRowMany σ), (mLots σ), (mRefused σ))) H → va_D (AD ad 0 21) (wM g ad (((sCase (mS σ)), (sAsked (mS σ)), (sNq (mS σ)), (sNw (mS σ)), (sNh (mS σ)), (sForm (mS σ)), (sFirst (mS σ)), s_S_second, (sKind (mS σ)), (sFigure (mS σ)), (sKnows (mS σ)), (sWhom (mS σ)), (sWhat (mS σ)), (sSaid (mS σ)), (sWhen (mS σ))), (mT σ), (s_K_kept, (kHas (mK σ)), (kKeep (mK σ)), s_K_cur), (mF σ), (mRow σ), (mRowMany σ), (mLots σ), (mRefused σ))) → va_S (AD ad 0 21) s.heap H locs → lv_has ls 3 [(0, .ref (ad 0)), (1, .ref (ad 4)), (2, .int x2)] → W p l e { frames := 0, cells := 0, slots := 0, locals := 0 } s m ([.ref (ad 0), .ref (ad 4)] : List Value).toArray below meth c H locs 0 0 (MQ below (va_Qv (fun (u : KM) => Post u) (fun u t => va_P (gD g) vwCl (wM g ad u) t.heap) (AD ad 0 21)) ([.ref (ad 0), .ref (ad 4)] : List Value).toArray s 0 0 (AD ad 0 21)) (F0 m 2 ls []))
  have hv := hv (by
    intro x2 s_K_cur s_K_kept s_S_second hv H locs ls hP hD hS hl
    refine lv_iload_n hx hb dX3_passes_2 rfl (lv_at hl 2 rfl) ?_
    refine lv_aload_n hx hb dX3_passes_3 rfl (lv_at hl 1 rfl) ?_
    refine va_alen (v := 8) hx hb hK hP 4 rfl (t0 := 0) rfl rfl dX3_passes_4 ?_
    refine lv_icmp_ge (tgt := 58) hx hb dX3_passes_5 (by decide) (fun c5 => ?_) (fun c5 => ?_)
    · have hv := hv.1 c5
      exact W.vret hx hb hr (fun t ht hW => ⟨⟨(((sCase (mS σ)), (sAsked (mS σ)), (sNq (mS σ)), (sNw (mS σ)), (sNh (mS σ)), (sForm (mS σ)), (sFirst (mS σ)), s_S_second, (sKind (mS σ)), (sFigure (mS σ)), (sKnows (mS σ)), (sWhom (mS σ)), (sWhat (mS σ)), (sSaid (mS σ)), (sWhen (mS σ))), (mT σ), (s_K_kept, (kHas (mK σ)), (kKeep (mK σ)), s_K_cur), (mF σ), (mRow σ), (mRowMany σ), (mLots σ), (mRefused σ)), rfl, hv, P_at ht hP⟩, hS.F ht⟩) hS.2.2 dX3_passes_58
    · have hv := hv.2 c5
      refine lv_aload_n hx hb dX3_passes_8 rfl (lv_at hl 0 rfl) ?_
      refine va_get (D := gD g) (ci := 3) (v := .int (kKeep (mK σ))) (C := RX3) (T := TX3) (N := 33) hx hb hts hi3 hown hK hP 0 rfl rfl 25 (by decide) k0 (fun _ h9 => h9) rfl dX3_passes_9 ?_
      refine lv_if_eq (tgt := 30) hx hb dX3_passes_12 (by decide) (fun c12 => ?_) (fun c12 => ?_)
      · have hv := hv.1 c12
        refine lv_aload_n hx hb dX3_passes_30 rfl (lv_at hl 1 rfl) ?_
        refine lv_iload_n hx hb dX3_passes_31 rfl (lv_at hl 2 rfl) ?_
        refine lv_aload_n hx hb dX3_passes_32 rfl (lv_at hl 0 rfl) ?_
        refine va_get (D := gD g) (ci := 3) (v := .ref (ad 16)) (C := RX3) (T := TX3) (N := 33) hx hb hts hi3 hown hK hP 0 rfl rfl 23 (by decide) k1 (fun _ h9 => h9) rfl dX3_passes_33 ?_
        refine lv_aload_n hx hb dX3_passes_36 rfl (lv_at hl 0 rfl) ?_
        refine va_get (D := gD g) (ci := 3) (v := .int s_K_cur) (C := RX3) (T := TX3) (N := 33) hx hb hts hi3 hown hK hP 0 rfl rfl 26 (by decide) k2 (fun _ h9 => h9) rfl dX3_passes_37 ?_
        have h9 := hv.1
        have hv := hv.2
        refine va_iald (f := s_K_kept) (n := 276) hx hb hK hP 16 0 rfl rfl h9 dX3_passes_40 ?_
        have h9 := hv.1
        have hv := hv.2
        refine va_iast (f := s_S_second) (n := 8) hx hb hK hP hD hS 4 0 rfl rfl h9 dX3_passes_41 (fun H locs hP hD hS => ?_)
        have hP : va_P (gD g) vwCl (wM g ad (((sCase (mS σ)), (sAsked (mS σ)), (sNq (mS σ)), (sNw (mS σ)), (sNh (mS σ)), (sForm (mS σ)), (sFirst (mS σ)), (upd s_S_second (x2).toNatClampNeg (s_K_kept (s_K_cur).toNatClampNeg)), (sKind (mS σ)), (sFigure (mS σ)), (sKnows (mS σ)), (sWhom (mS σ)), (sWhat (mS σ)), (sSaid (mS σ)), (sWhen (mS σ))), (mT σ), (s_K_kept, (kHas (mK σ)), (kKeep (mK σ)), s_K_cur), (mF σ), (mRow σ), (mRowMany σ), (mLots σ), (mRefused σ))) H := hP
        have hD : va_D (AD ad 0 21) (wM g ad (((sCase (mS σ)), (sAsked (mS σ)), (sNq (mS σ)), (sNw (mS σ)), (sNh (mS σ)), (sForm (mS σ)), (sFirst (mS σ)), (upd s_S_second (x2).toNatClampNeg (s_K_kept (s_K_cur).toNatClampNeg)), (sKind (mS σ)), (sFigure (mS σ)), (sKnows (mS σ)), (sWhom (mS σ)), (sWhat (mS σ)), (sSaid (mS σ)), (sWhen (mS σ))), (mT σ), (s_K_kept, (kHas (mK σ)), (kKeep (mK σ)), s_K_cur), (mF σ), (mRow σ), (mRowMany σ), (mLots σ), (mRefused σ))) := hD
        refine lv_aload_n hx hb dX3_passes_42 rfl (lv_at hl 0 rfl) ?_
        refine lv_dup hx hb dX3_passes_43 rfl ?_
        refine va_get (D := gD g) (ci := 3) (v := .int s_K_cur) (C := RX3) (T := TX3) (N := 33) hx hb hts hi3 hown hK hP 0 rfl rfl 26 (by decide) k2 (fun _ h9 => h9) rfl dX3_passes_44 ?_
        refine lv_iconst (v := 1) hx hb dX3_passes_47 (by decide) ?_
        refine lv_iadd hx hb dX3_passes_48 ?_
        refine va_put (D := gD g) (ci := 3) (v := .int (s_K_cur + 1)) (ty := .int) (C := RX3) (T := TX3) (N := 33) hx hb hts hi3 tyX3 tyX3_ok nmX3 hown hK hP hD hS 0 rfl rfl 26 (by decide) k2 (fun _ h9 => h9) rfl (by decide +kernel) rfl rfl (Nat.le_of_ble_eq_true rfl) dX3_passes_49 (fun H locs hP hD hS => ?_)
        have hP : va_P (gD g) vwCl (wM g ad (((sCase (mS σ)), (sAsked (mS σ)), (sNq (mS σ)), (sNw (mS σ)), (sNh (mS σ)), (sForm (mS σ)), (sFirst (mS σ)), (upd s_S_second (x2).toNatClampNeg (s_K_kept (s_K_cur).toNatClampNeg)), (sKind (mS σ)), (sFigure (mS σ)), (sKnows (mS σ)), (sWhom (mS σ)), (sWhat (mS σ)), (sSaid (mS σ)), (sWhen (mS σ))), (mT σ), (s_K_kept, (kHas (mK σ)), (kKeep (mK σ)), (s_K_cur + 1)), (mF σ), (mRow σ), (mRowMany σ), (mLots σ), (mRefused σ))) H := hP
        have hD : va_D (AD ad 0 21) (wM g ad (((sCase (mS σ)), (sAsked (mS σ)), (sNq (mS σ)), (sNw (mS σ)), (sNh (mS σ)), (sForm (mS σ)), (sFirst (mS σ)), (upd s_S_second (x2).toNatClampNeg (s_K_kept (s_K_cur).toNatClampNeg)), (sKind (mS σ)), (sFigure (mS σ)), (sKnows (mS σ)), (sWhom (mS σ)), (sWhat (mS σ)), (sSaid (mS σ)), (sWhen (mS σ))), (mT σ), (s_K_kept, (kHas (mK σ)), (kKeep (mK σ)), (s_K_cur + 1)), (mF σ), (mRow σ), (mRowMany σ), (mLots σ), (mRefused σ))) := hD
        refine lv_iinc (v := (x2 + 1)) (lv' := [(2, .int (x2 + 1)), (0, .ref (ad 0)), (1, .ref (ad 4))]) hx hb dX3_passes_52 hl (k := 2) rfl (by first | rfl | exact congrArg _ (by decide)) (by decide) rfl (fun ls hl => ?_)
        refine lv_goto (tgt := 2) hx hb dX3_passes_55 (by decide) ?_
        exact hv H locs ls hP hD hS (lv_sub hl [1, 2, 0] rfl)
      · have hv := hv.2 c12
        refine lv_aload_n hx hb dX3_passes_15 rfl (lv_at hl 0 rfl) ?_
        refine va_get (D := gD g) (ci := 3) (v := .ref (ad 16)) (C := RX3) (T := TX3) (N := 33) hx hb hts hi3 hown hK hP 0 rfl rfl 23 (by decide) k1 (fun _ h9 => h9) rfl dX3_passes_16 ?_
        refine lv_aload_n hx hb dX3_passes_19 rfl (lv_at hl 0 rfl) ?_
        refine va_get (D := gD g) (ci := 3) (v := .int s_K_cur) (C := RX3) (T := TX3) (N := 33) hx hb hts hi3 hown hK hP 0 rfl rfl 26 (by decide) k2 (fun _ h9 => h9) rfl dX3_passes_20 ?_
        refine lv_aload_n hx hb dX3_passes_23 rfl (lv_at hl 1 rfl) ?_
        refine lv_iload_n hx hb dX3_passes_24 rfl (lv_at hl 2 rfl) ?_
        have h9 := hv.1
        have hv := hv.2
        refine va_iald (f := s_S_second) (n := 8) hx hb hK hP 4 0 rfl rfl h9 dX3_passes_25 ?_
        have h9 := hv.1
        have hv := hv.2
        refine va_iast (f := s_K_kept) (n := 276) hx hb hK hP hD hS 16 0 rfl rfl h9 dX3_passes_26 (fun H locs hP hD hS => ?_)
        have hP : va_P (gD g) vwCl (wM g ad (((sCase (mS σ)), (sAsked (mS σ)), (sNq (mS σ)), (sNw (mS σ)), (sNh (mS σ)), (sForm (mS σ)), (sFirst (mS σ)), s_S_second, (sKind (mS σ)), (sFigure (mS σ)), (sKnows (mS σ)), (sWhom (mS σ)), (sWhat (mS σ)), (sSaid (mS σ)), (sWhen (mS σ))), (mT σ), ((upd s_K_kept (s_K_cur).toNatClampNeg (s_S_second (x2).toNatClampNeg)), (kHas (mK σ)), (kKeep (mK σ)), s_K_cur), (mF σ), (mRow σ), (mRowMany σ), (mLots σ), (mRefused σ))) H := hP
        have hD : va_D (AD ad 0 21) (wM g ad (((sCase (mS σ)), (sAsked (mS σ)), (sNq (mS σ)), (sNw (mS σ)), (sNh (mS σ)), (sForm (mS σ)), (sFirst (mS σ)), s_S_second, (sKind (mS σ)), (sFigure (mS σ)), (sKnows (mS σ)), (sWhom (mS σ)), (sWhat (mS σ)), (sSaid (mS σ)), (sWhen (mS σ))), (mT σ), ((upd s_K_kept (s_K_cur).toNatClampNeg (s_S_second (x2).toNatClampNeg)), (kHas (mK σ)), (kKeep (mK σ)), s_K_cur), (mF σ), (mRow σ), (mRowMany σ), (mLots σ), (mRefused σ))) := hD
        refine lv_goto (tgt := 42) hx hb dX3_passes_27 (by decide) ?_
        refine lv_aload_n hx hb dX3_passes_42 rfl (lv_at hl 0 rfl) ?_
        refine lv_dup hx hb dX3_passes_43 rfl ?_
        refine va_get (D := gD g) (ci := 3) (v := .int s_K_cur) (C := RX3) (T := TX3) (N := 33) hx hb hts hi3 hown hK hP 0 rfl rfl 26 (by decide) k2 (fun _ h9 => h9) rfl dX3_passes_44 ?_
        refine lv_iconst (v := 1) hx hb dX3_passes_47 (by decide) ?_
        refine lv_iadd hx hb dX3_passes_48 ?_
        refine va_put (D := gD g) (ci := 3) (v := .int (s_K_cur + 1)) (ty := .int) (C := RX3) (T := TX3) (N := 33) hx hb hts hi3 tyX3 tyX3_ok nmX3 hown hK hP hD hS 0 rfl rfl 26 (by decide) k2 (fun _ h9 => h9) rfl (by decide +kernel) rfl rfl (Nat.le_of_ble_eq_true rfl) dX3_passes_49 (fun H locs hP hD hS => ?_)
        have hP : va_P (gD g) vwCl (wM g ad (((sCase (mS σ)), (sAsked (mS σ)), (sNq (mS σ)), (sNw (mS σ)), (sNh (mS σ)), (sForm (mS σ)), (sFirst (mS σ)), s_S_second, (sKind (mS σ)), (sFigure (mS σ)), (sKnows (mS σ)), (sWhom (mS σ)), (sWhat (mS σ)), (sSaid (mS σ)), (sWhen (mS σ))), (mT σ), ((upd s_K_kept (s_K_cur).toNatClampNeg (s_S_second (x2).toNatClampNeg)), (kHas (mK σ)), (kKeep (mK σ)), (s_K_cur + 1)), (mF σ), (mRow σ), (mRowMany σ), (mLots σ), (mRefused σ))) H := hP
        have hD : va_D (AD ad 0 21) (wM g ad (((sCase (mS σ)), (sAsked (mS σ)), (sNq (mS σ)), (sNw (mS σ)), (sNh (mS σ)), (sForm (mS σ)), (sFirst (mS σ)), s_S_second, (sKind (mS σ)), (sFigure (mS σ)), (sKnows (mS σ)), (sWhom (mS σ)), (sWhat (mS σ)), (sSaid (mS σ)), (sWhen (mS σ))), (mT σ), ((upd s_K_kept (s_K_cur).toNatClampNeg (s_S_second (x2).toNatClampNeg)), (kHas (mK σ)), (kKeep (mK σ)), (s_K_cur + 1)), (mF σ), (mRow σ), (mRowMany σ), (mLots σ), (mRefused σ))) := hD
        refine lv_iinc (v := (x2 + 1)) (lv' := [(2, .int (x2 + 1)), (0, .ref (ad 0)), (1, .ref (ad 4))]) hx hb dX3_passes_52 hl (k := 2) rfl (by first | rfl | exact congrArg _ (by decide)) (by decide) rfl (fun ls hl => ?_)
        refine lv_goto (tgt := 2) hx hb dX3_passes_55 (by decide) ?_
        exact hv H locs ls hP hD hS (lv_sub hl [1, 2, 0] rfl))
  obtain ⟨H, hH⟩ : ∃ z, z = s.heap := ⟨_, rfl⟩
  obtain ⟨locs, hL⟩ : ∃ z : List Loc, z = [] := ⟨_, rfl⟩
  rw [← hL] at hS ⊢
  have hS : va_S (AD ad 0 21) s.heap H locs := by rw [hH]; exact hS
  rw [← hH] at hP ⊢
  clear hH hL
  refine lv_iconst (v := 0) hx hb dX3_passes_0 (by decide) ?_
  refine lv_istore_n (lv' := [(2, .int 0), (0, .ref (ad 0)), (1, .ref (ad 4))]) hx hb dX3_passes_1 rfl hl (by decide) rfl (fun ls hl => ?_)
  exact hv H locs ls hP hD hS (lv_sub hl [1, 2, 0] rfl)

set_option maxHeartbeats 4000000 in
set_option maxRecDepth 100000 in
theorem m_X3_passes_5 (l : Launch)  (g : CX) (ad : Nat → Nat) (σ : KM)  (Post : KM → Prop) (hv : vc_X3_passes_5 σ Post) : Met l yX3_passes wsX3_passes { frames := 0, cells := 0, slots := 0, locals := 0 } (va_Pc [.ref (ad 0), .ref (ad 5)] (RW g (AD ad 0 21) (wM g ad σ))) (va_Qv (fun (u : KM) => Post u) (fun u t => va_P (gD g) vwCl (wM g ad u) t.heap) (AD ad 0 21)) 0 0 (AD ad 0 21) := by
  unfold vc_X3_passes_5 at hv
  refine Met.ofW (cc := cX3_passes) (maxL := 3) (ret := none) (by decide) rfl ?_
  intro p e s m args below meth c s₁ B hml hv0
  obtain ⟨rfl, hP, hK, hE, hD⟩ := hv0
  have hx := B.exec
  have hb := B.bytes
  have hr := B.returns
  have hts := atoms_spec (ws := wsX3_passes) B.pre
  have hown : s.vm.findClass RX3 = some m.cls := findClass_of_methodNamed B.named
  have hlocks := B.notSynchronized
  have hi3 : ∀ w ∈ wsX30, w ∈ wsX3_passes := by decide +kernel
  have k0 := hts (.fieldLink RX3 160 "JuryHearsAnswersModel" "isKeeping" "Z") (by decide +kernel)
  have k1 := hts (.fieldLink RX3 55 "JuryHearsAnswersModel" "kept" "[I") (by decide +kernel)
  have k2 := hts (.fieldLink RX3 164 "JuryHearsAnswersModel" "cursor" "I") (by decide +kernel)
  have hS : va_S (AD ad 0 21) s.heap s.heap [] := va_S.rf
  have hP : va_P (gD g) vwCl (wM g ad σ) s.heap := hP
  have hl := lv_entry ([.ref (ad 0), .ref (ad 5)]) (n := 3) (Nat.le_of_ble_eq_true rfl)
  rw [lg_entry_eq]
  generalize (lg_sl ([.ref (ad 0), .ref (ad 5)]) ++ List.replicate (3 - (lg_sl ([.ref (ad 0), .ref (ad 5)])).length) Slot.unset).toArray = ls at hl ⊢
  have hl : lv_has ls 3 [(0, .ref (ad 0)), (1, .ref (ad 5))] := hl
  have hv := hv (fun (x2 : Int32) (s_K_cur : Int32) (s_K_kept : FI) (s_S_kind : FI) => ∀ (H : Heap) (locs : List Loc) (ls : Array Slot), va_P (gD g) vwCl (wM g ad (((sCase (mS σ)), (sAsked (mS σ)), (sNq (mS σ)), (sNw (mS σ)), (sNh (mS σ)), (sForm (mS σ)), (sFirst (mS σ)), (sSecond (mS σ)), s_S_kind, (sFigure (mS σ)), (sKnows (mS σ)), (sWhom (mS σ)), (sWhat (mS σ)), (sSaid (mS σ)), (sWhen (mS σ))), (mT σ), (s_K_kept, (kHas (mK σ)), (kKeep (mK σ)), s_K_cur), (mF σ), (mRow σ), (mRowMany σ), (mLots σ), (mRefused σ))) H → va_D (AD ad 0 21) (wM g ad (((sCase (mS σ)), (sAsked (mS σ)), (sNq (mS σ)), (sNw (mS σ)), (sNh (mS σ)), (sForm (mS σ)), (sFirst (mS σ)), (sSecond (mS σ)), s_S_kind, (sFigure (mS σ)), (sKnows (mS σ)), (sWhom (mS σ)), (sWhat (mS σ)), (sSaid (mS σ)), (sWhen (mS σ))), (mT σ), (s_K_kept, (kHas (mK σ)), (kKeep (mK σ)), s_K_cur), (mF σ), (mRow σ), (mRowMany σ), (mLots σ), (mRefused σ))) → va_S (AD ad 0 21) s.heap H locs → lv_has ls 3 [(0, .ref (ad 0)), (1, .ref (ad 5)), (2, .int x2)] → W p l e { frames := 0, cells := 0, slots := 0, locals := 0 } s m ([.ref (ad 0), .ref (ad 5)] : List Value).toArray below meth c H locs 0 0 (MQ below (va_Qv (fun (u : KM) => Post u) (fun u t => va_P (gD g) vwCl (wM g ad u) t.heap) (AD ad 0 21)) ([.ref (ad 0), .ref (ad 5)] : List Value).toArray s 0 0 (AD ad 0 21)) (F0 m 2 ls []))
  have hv := hv (by
    intro x2 s_K_cur s_K_kept s_S_kind hv H locs ls hP hD hS hl
    refine lv_iload_n hx hb dX3_passes_2 rfl (lv_at hl 2 rfl) ?_
    refine lv_aload_n hx hb dX3_passes_3 rfl (lv_at hl 1 rfl) ?_
    refine va_alen (v := 5) hx hb hK hP 5 rfl (t0 := 0) rfl rfl dX3_passes_4 ?_
    refine lv_icmp_ge (tgt := 58) hx hb dX3_passes_5 (by decide) (fun c5 => ?_) (fun c5 => ?_)
    · have hv := hv.1 c5
      exact W.vret hx hb hr (fun t ht hW => ⟨⟨(((sCase (mS σ)), (sAsked (mS σ)), (sNq (mS σ)), (sNw (mS σ)), (sNh (mS σ)), (sForm (mS σ)), (sFirst (mS σ)), (sSecond (mS σ)), s_S_kind, (sFigure (mS σ)), (sKnows (mS σ)), (sWhom (mS σ)), (sWhat (mS σ)), (sSaid (mS σ)), (sWhen (mS σ))), (mT σ), (s_K_kept, (kHas (mK σ)), (kKeep (mK σ)), s_K_cur), (mF σ), (mRow σ), (mRowMany σ), (mLots σ), (mRefused σ)), rfl, hv, P_at ht hP⟩, hS.F ht⟩) hS.2.2 dX3_passes_58
    · have hv := hv.2 c5
      refine lv_aload_n hx hb dX3_passes_8 rfl (lv_at hl 0 rfl) ?_
      refine va_get (D := gD g) (ci := 3) (v := .int (kKeep (mK σ))) (C := RX3) (T := TX3) (N := 33) hx hb hts hi3 hown hK hP 0 rfl rfl 25 (by decide) k0 (fun _ h9 => h9) rfl dX3_passes_9 ?_
      refine lv_if_eq (tgt := 30) hx hb dX3_passes_12 (by decide) (fun c12 => ?_) (fun c12 => ?_)
      · have hv := hv.1 c12
        refine lv_aload_n hx hb dX3_passes_30 rfl (lv_at hl 1 rfl) ?_
        refine lv_iload_n hx hb dX3_passes_31 rfl (lv_at hl 2 rfl) ?_
        refine lv_aload_n hx hb dX3_passes_32 rfl (lv_at hl 0 rfl) ?_
        refine va_get (D := gD g) (ci := 3) (v := .ref (ad 16)) (C := RX3) (T := TX3) (N := 33) hx hb hts hi3 hown hK hP 0 rfl rfl 23 (by decide) k1 (fun _ h9 => h9) rfl dX3_passes_33 ?_
        refine lv_aload_n hx hb dX3_passes_36 rfl (lv_at hl 0 rfl) ?_
        refine va_get (D := gD g) (ci := 3) (v := .int s_K_cur) (C := RX3) (T := TX3) (N := 33) hx hb hts hi3 hown hK hP 0 rfl rfl 26 (by decide) k2 (fun _ h9 => h9) rfl dX3_passes_37 ?_
        have h9 := hv.1
        have hv := hv.2
        refine va_iald (f := s_K_kept) (n := 276) hx hb hK hP 16 0 rfl rfl h9 dX3_passes_40 ?_
        have h9 := hv.1
        have hv := hv.2
        refine va_iast (f := s_S_kind) (n := 5) hx hb hK hP hD hS 5 0 rfl rfl h9 dX3_passes_41 (fun H locs hP hD hS => ?_)
        have hP : va_P (gD g) vwCl (wM g ad (((sCase (mS σ)), (sAsked (mS σ)), (sNq (mS σ)), (sNw (mS σ)), (sNh (mS σ)), (sForm (mS σ)), (sFirst (mS σ)), (sSecond (mS σ)), (upd s_S_kind (x2).toNatClampNeg (s_K_kept (s_K_cur).toNatClampNeg)), (sFigure (mS σ)), (sKnows (mS σ)), (sWhom (mS σ)), (sWhat (mS σ)), (sSaid (mS σ)), (sWhen (mS σ))), (mT σ), (s_K_kept, (kHas (mK σ)), (kKeep (mK σ)), s_K_cur), (mF σ), (mRow σ), (mRowMany σ), (mLots σ), (mRefused σ))) H := hP
        have hD : va_D (AD ad 0 21) (wM g ad (((sCase (mS σ)), (sAsked (mS σ)), (sNq (mS σ)), (sNw (mS σ)), (sNh (mS σ)), (sForm (mS σ)), (sFirst (mS σ)), (sSecond (mS σ)), (upd s_S_kind (x2).toNatClampNeg (s_K_kept (s_K_cur).toNatClampNeg)), (sFigure (mS σ)), (sKnows (mS σ)), (sWhom (mS σ)), (sWhat (mS σ)), (sSaid (mS σ)), (sWhen (mS σ))), (mT σ), (s_K_kept, (kHas (mK σ)), (kKeep (mK σ)), s_K_cur), (mF σ), (mRow σ), (mRowMany σ), (mLots σ), (mRefused σ))) := hD
        refine lv_aload_n hx hb dX3_passes_42 rfl (lv_at hl 0 rfl) ?_
        refine lv_dup hx hb dX3_passes_43 rfl ?_
        refine va_get (D := gD g) (ci := 3) (v := .int s_K_cur) (C := RX3) (T := TX3) (N := 33) hx hb hts hi3 hown hK hP 0 rfl rfl 26 (by decide) k2 (fun _ h9 => h9) rfl dX3_passes_44 ?_
        refine lv_iconst (v := 1) hx hb dX3_passes_47 (by decide) ?_
        refine lv_iadd hx hb dX3_passes_48 ?_
        refine va_put (D := gD g) (ci := 3) (v := .int (s_K_cur + 1)) (ty := .int) (C := RX3) (T := TX3) (N := 33) hx hb hts hi3 tyX3 tyX3_ok nmX3 hown hK hP hD hS 0 rfl rfl 26 (by decide) k2 (fun _ h9 => h9) rfl (by decide +kernel) rfl rfl (Nat.le_of_ble_eq_true rfl) dX3_passes_49 (fun H locs hP hD hS => ?_)
        have hP : va_P (gD g) vwCl (wM g ad (((sCase (mS σ)), (sAsked (mS σ)), (sNq (mS σ)), (sNw (mS σ)), (sNh (mS σ)), (sForm (mS σ)), (sFirst (mS σ)), (sSecond (mS σ)), (upd s_S_kind (x2).toNatClampNeg (s_K_kept (s_K_cur).toNatClampNeg)), (sFigure (mS σ)), (sKnows (mS σ)), (sWhom (mS σ)), (sWhat (mS σ)), (sSaid (mS σ)), (sWhen (mS σ))), (mT σ), (s_K_kept, (kHas (mK σ)), (kKeep (mK σ)), (s_K_cur + 1)), (mF σ), (mRow σ), (mRowMany σ), (mLots σ), (mRefused σ))) H := hP
        have hD : va_D (AD ad 0 21) (wM g ad (((sCase (mS σ)), (sAsked (mS σ)), (sNq (mS σ)), (sNw (mS σ)), (sNh (mS σ)), (sForm (mS σ)), (sFirst (mS σ)), (sSecond (mS σ)), (upd s_S_kind (x2).toNatClampNeg (s_K_kept (s_K_cur).toNatClampNeg)), (sFigure (mS σ)), (sKnows (mS σ)), (sWhom (mS σ)), (sWhat (mS σ)), (sSaid (mS σ)), (sWhen (mS σ))), (mT σ), (s_K_kept, (kHas (mK σ)), (kKeep (mK σ)), (s_K_cur + 1)), (mF σ), (mRow σ), (mRowMany σ), (mLots σ), (mRefused σ))) := hD
        refine lv_iinc (v := (x2 + 1)) (lv' := [(2, .int (x2 + 1)), (0, .ref (ad 0)), (1, .ref (ad 5))]) hx hb dX3_passes_52 hl (k := 2) rfl (by first | rfl | exact congrArg _ (by decide)) (by decide) rfl (fun ls hl => ?_)
        refine lv_goto (tgt := 2) hx hb dX3_passes_55 (by decide) ?_
        exact hv H locs ls hP hD hS (lv_sub hl [1, 2, 0] rfl)
      · have hv := hv.2 c12
        refine lv_aload_n hx hb dX3_passes_15 rfl (lv_at hl 0 rfl) ?_
        refine va_get (D := gD g) (ci := 3) (v := .ref (ad 16)) (C := RX3) (T := TX3) (N := 33) hx hb hts hi3 hown hK hP 0 rfl rfl 23 (by decide) k1 (fun _ h9 => h9) rfl dX3_passes_16 ?_
        refine lv_aload_n hx hb dX3_passes_19 rfl (lv_at hl 0 rfl) ?_
        refine va_get (D := gD g) (ci := 3) (v := .int s_K_cur) (C := RX3) (T := TX3) (N := 33) hx hb hts hi3 hown hK hP 0 rfl rfl 26 (by decide) k2 (fun _ h9 => h9) rfl dX3_passes_20 ?_
        refine lv_aload_n hx hb dX3_passes_23 rfl (lv_at hl 1 rfl) ?_
        refine lv_iload_n hx hb dX3_passes_24 rfl (lv_at hl 2 rfl) ?_
        have h9 := hv.1
        have hv := hv.2
        refine va_iald (f := s_S_kind) (n := 5) hx hb hK hP 5 0 rfl rfl h9 dX3_passes_25 ?_
        have h9 := hv.1
        have hv := hv.2
        refine va_iast (f := s_K_kept) (n := 276) hx hb hK hP hD hS 16 0 rfl rfl h9 dX3_passes_26 (fun H locs hP hD hS => ?_)
        have hP : va_P (gD g) vwCl (wM g ad (((sCase (mS σ)), (sAsked (mS σ)), (sNq (mS σ)), (sNw (mS σ)), (sNh (mS σ)), (sForm (mS σ)), (sFirst (mS σ)), (sSecond (mS σ)), s_S_kind, (sFigure (mS σ)), (sKnows (mS σ)), (sWhom (mS σ)), (sWhat (mS σ)), (sSaid (mS σ)), (sWhen (mS σ))), (mT σ), ((upd s_K_kept (s_K_cur).toNatClampNeg (s_S_kind (x2).toNatClampNeg)), (kHas (mK σ)), (kKeep (mK σ)), s_K_cur), (mF σ), (mRow σ), (mRowMany σ), (mLots σ), (mRefused σ))) H := hP
        have hD : va_D (AD ad 0 21) (wM g ad (((sCase (mS σ)), (sAsked (mS σ)), (sNq (mS σ)), (sNw (mS σ)), (sNh (mS σ)), (sForm (mS σ)), (sFirst (mS σ)), (sSecond (mS σ)), s_S_kind, (sFigure (mS σ)), (sKnows (mS σ)), (sWhom (mS σ)), (sWhat (mS σ)), (sSaid (mS σ)), (sWhen (mS σ))), (mT σ), ((upd s_K_kept (s_K_cur).toNatClampNeg (s_S_kind (x2).toNatClampNeg)), (kHas (mK σ)), (kKeep (mK σ)), s_K_cur), (mF σ), (mRow σ), (mRowMany σ), (mLots σ), (mRefused σ))) := hD
        refine lv_goto (tgt := 42) hx hb dX3_passes_27 (by decide) ?_
        refine lv_aload_n hx hb dX3_passes_42 rfl (lv_at hl 0 rfl) ?_
        refine lv_dup hx hb dX3_passes_43 rfl ?_
        refine va_get (D := gD g) (ci := 3) (v := .int s_K_cur) (C := RX3) (T := TX3) (N := 33) hx hb hts hi3 hown hK hP 0 rfl rfl 26 (by decide) k2 (fun _ h9 => h9) rfl dX3_passes_44 ?_
        refine lv_iconst (v := 1) hx hb dX3_passes_47 (by decide) ?_
        refine lv_iadd hx hb dX3_passes_48 ?_
        refine va_put (D := gD g) (ci := 3) (v := .int (s_K_cur + 1)) (ty := .int) (C := RX3) (T := TX3) (N := 33) hx hb hts hi3 tyX3 tyX3_ok nmX3 hown hK hP hD hS 0 rfl rfl 26 (by decide) k2 (fun _ h9 => h9) rfl (by decide +kernel) rfl rfl (Nat.le_of_ble_eq_true rfl) dX3_passes_49 (fun H locs hP hD hS => ?_)
        have hP : va_P (gD g) vwCl (wM g ad (((sCase (mS σ)), (sAsked (mS σ)), (sNq (mS σ)), (sNw (mS σ)), (sNh (mS σ)), (sForm (mS σ)), (sFirst (mS σ)), (sSecond (mS σ)), s_S_kind, (sFigure (mS σ)), (sKnows (mS σ)), (sWhom (mS σ)), (sWhat (mS σ)), (sSaid (mS σ)), (sWhen (mS σ))), (mT σ), ((upd s_K_kept (s_K_cur).toNatClampNeg (s_S_kind (x2).toNatClampNeg)), (kHas (mK σ)), (kKeep (mK σ)), (s_K_cur + 1)), (mF σ), (mRow σ), (mRowMany σ), (mLots σ), (mRefused σ))) H := hP
        have hD : va_D (AD ad 0 21) (wM g ad (((sCase (mS σ)), (sAsked (mS σ)), (sNq (mS σ)), (sNw (mS σ)), (sNh (mS σ)), (sForm (mS σ)), (sFirst (mS σ)), (sSecond (mS σ)), s_S_kind, (sFigure (mS σ)), (sKnows (mS σ)), (sWhom (mS σ)), (sWhat (mS σ)), (sSaid (mS σ)), (sWhen (mS σ))), (mT σ), ((upd s_K_kept (s_K_cur).toNatClampNeg (s_S_kind (x2).toNatClampNeg)), (kHas (mK σ)), (kKeep (mK σ)), (s_K_cur + 1)), (mF σ), (mRow σ), (mRowMany σ), (mLots σ), (mRefused σ))) := hD
        refine lv_iinc (v := (x2 + 1)) (lv' := [(2, .int (x2 + 1)), (0, .ref (ad 0)), (1, .ref (ad 5))]) hx hb dX3_passes_52 hl (k := 2) rfl (by first | rfl | exact congrArg _ (by decide)) (by decide) rfl (fun ls hl => ?_)
        refine lv_goto (tgt := 2) hx hb dX3_passes_55 (by decide) ?_
        exact hv H locs ls hP hD hS (lv_sub hl [1, 2, 0] rfl))
  obtain ⟨H, hH⟩ : ∃ z, z = s.heap := ⟨_, rfl⟩
  obtain ⟨locs, hL⟩ : ∃ z : List Loc, z = [] := ⟨_, rfl⟩
  rw [← hL] at hS ⊢
  have hS : va_S (AD ad 0 21) s.heap H locs := by rw [hH]; exact hS
  rw [← hH] at hP ⊢
  clear hH hL
  refine lv_iconst (v := 0) hx hb dX3_passes_0 (by decide) ?_
  refine lv_istore_n (lv' := [(2, .int 0), (0, .ref (ad 0)), (1, .ref (ad 5))]) hx hb dX3_passes_1 rfl hl (by decide) rfl (fun ls hl => ?_)
  exact hv H locs ls hP hD hS (lv_sub hl [1, 2, 0] rfl)

set_option maxHeartbeats 4000000 in
set_option maxRecDepth 100000 in
theorem m_X3_passes_6 (l : Launch)  (g : CX) (ad : Nat → Nat) (σ : KM)  (Post : KM → Prop) (hv : vc_X3_passes_6 σ Post) : Met l yX3_passes wsX3_passes { frames := 0, cells := 0, slots := 0, locals := 0 } (va_Pc [.ref (ad 0), .ref (ad 6)] (RW g (AD ad 0 21) (wM g ad σ))) (va_Qv (fun (u : KM) => Post u) (fun u t => va_P (gD g) vwCl (wM g ad u) t.heap) (AD ad 0 21)) 0 0 (AD ad 0 21) := by
  unfold vc_X3_passes_6 at hv
  refine Met.ofW (cc := cX3_passes) (maxL := 3) (ret := none) (by decide) rfl ?_
  intro p e s m args below meth c s₁ B hml hv0
  obtain ⟨rfl, hP, hK, hE, hD⟩ := hv0
  have hx := B.exec
  have hb := B.bytes
  have hr := B.returns
  have hts := atoms_spec (ws := wsX3_passes) B.pre
  have hown : s.vm.findClass RX3 = some m.cls := findClass_of_methodNamed B.named
  have hlocks := B.notSynchronized
  have hi3 : ∀ w ∈ wsX30, w ∈ wsX3_passes := by decide +kernel
  have k0 := hts (.fieldLink RX3 160 "JuryHearsAnswersModel" "isKeeping" "Z") (by decide +kernel)
  have k1 := hts (.fieldLink RX3 55 "JuryHearsAnswersModel" "kept" "[I") (by decide +kernel)
  have k2 := hts (.fieldLink RX3 164 "JuryHearsAnswersModel" "cursor" "I") (by decide +kernel)
  have hS : va_S (AD ad 0 21) s.heap s.heap [] := va_S.rf
  have hP : va_P (gD g) vwCl (wM g ad σ) s.heap := hP
  have hl := lv_entry ([.ref (ad 0), .ref (ad 6)]) (n := 3) (Nat.le_of_ble_eq_true rfl)
  rw [lg_entry_eq]
  generalize (lg_sl ([.ref (ad 0), .ref (ad 6)]) ++ List.replicate (3 - (lg_sl ([.ref (ad 0), .ref (ad 6)])).length) Slot.unset).toArray = ls at hl ⊢
  have hl : lv_has ls 3 [(0, .ref (ad 0)), (1, .ref (ad 6))] := hl
  have hv := hv (fun (x2 : Int32) (s_K_cur : Int32) (s_K_kept : FI) (s_S_figure : FI) => ∀ (H : Heap) (locs : List Loc) (ls : Array Slot), va_P (gD g) vwCl (wM g ad (((sCase (mS σ)), (sAsked (mS σ)), (sNq (mS σ)), (sNw (mS σ)), (sNh (mS σ)), (sForm (mS σ)), (sFirst (mS σ)), (sSecond (mS σ)), (sKind (mS σ)), s_S_figure, (sKnows (mS σ)), (sWhom (mS σ)), (sWhat (mS σ)), (sSaid (mS σ)), (sWhen (mS σ))), (mT σ), (s_K_kept, (kHas (mK σ)), (kKeep (mK σ)), s_K_cur), (mF σ), (mRow σ), (mRowMany σ), (mLots σ), (mRefused σ))) H → va_D (AD ad 0 21) (wM g ad (((sCase (mS σ)), (sAsked (mS σ)), (sNq (mS σ)), (sNw (mS σ)), (sNh (mS σ)), (sForm (mS σ)), (sFirst (mS σ)), (sSecond (mS σ)), (sKind (mS σ)), s_S_figure, (sKnows (mS σ)), (sWhom (mS σ)), (sWhat (mS σ)), (sSaid (mS σ)), (sWhen (mS σ))), (mT σ), (s_K_kept, (kHas (mK σ)), (kKeep (mK σ)), s_K_cur), (mF σ), (mRow σ), (mRowMany σ), (mLots σ), (mRefused σ))) → va_S (AD ad 0 21) s.heap H locs → lv_has ls 3 [(0, .ref (ad 0)), (1, .ref (ad 6)), (2, .int x2)] → W p l e { frames := 0, cells := 0, slots := 0, locals := 0 } s m ([.ref (ad 0), .ref (ad 6)] : List Value).toArray below meth c H locs 0 0 (MQ below (va_Qv (fun (u : KM) => Post u) (fun u t => va_P (gD g) vwCl (wM g ad u) t.heap) (AD ad 0 21)) ([.ref (ad 0), .ref (ad 6)] : List Value).toArray s 0 0 (AD ad 0 21)) (F0 m 2 ls []))
  have hv := hv (by
    intro x2 s_K_cur s_K_kept s_S_figure hv H locs ls hP hD hS hl
    refine lv_iload_n hx hb dX3_passes_2 rfl (lv_at hl 2 rfl) ?_
    refine lv_aload_n hx hb dX3_passes_3 rfl (lv_at hl 1 rfl) ?_
    refine va_alen (v := 5) hx hb hK hP 6 rfl (t0 := 0) rfl rfl dX3_passes_4 ?_
    refine lv_icmp_ge (tgt := 58) hx hb dX3_passes_5 (by decide) (fun c5 => ?_) (fun c5 => ?_)
    · have hv := hv.1 c5
      exact W.vret hx hb hr (fun t ht hW => ⟨⟨(((sCase (mS σ)), (sAsked (mS σ)), (sNq (mS σ)), (sNw (mS σ)), (sNh (mS σ)), (sForm (mS σ)), (sFirst (mS σ)), (sSecond (mS σ)), (sKind (mS σ)), s_S_figure, (sKnows (mS σ)), (sWhom (mS σ)), (sWhat (mS σ)), (sSaid (mS σ)), (sWhen (mS σ))), (mT σ), (s_K_kept, (kHas (mK σ)), (kKeep (mK σ)), s_K_cur), (mF σ), (mRow σ), (mRowMany σ), (mLots σ), (mRefused σ)), rfl, hv, P_at ht hP⟩, hS.F ht⟩) hS.2.2 dX3_passes_58
    · have hv := hv.2 c5
      refine lv_aload_n hx hb dX3_passes_8 rfl (lv_at hl 0 rfl) ?_
      refine va_get (D := gD g) (ci := 3) (v := .int (kKeep (mK σ))) (C := RX3) (T := TX3) (N := 33) hx hb hts hi3 hown hK hP 0 rfl rfl 25 (by decide) k0 (fun _ h9 => h9) rfl dX3_passes_9 ?_
      refine lv_if_eq (tgt := 30) hx hb dX3_passes_12 (by decide) (fun c12 => ?_) (fun c12 => ?_)
      · have hv := hv.1 c12
        refine lv_aload_n hx hb dX3_passes_30 rfl (lv_at hl 1 rfl) ?_
        refine lv_iload_n hx hb dX3_passes_31 rfl (lv_at hl 2 rfl) ?_
        refine lv_aload_n hx hb dX3_passes_32 rfl (lv_at hl 0 rfl) ?_
        refine va_get (D := gD g) (ci := 3) (v := .ref (ad 16)) (C := RX3) (T := TX3) (N := 33) hx hb hts hi3 hown hK hP 0 rfl rfl 23 (by decide) k1 (fun _ h9 => h9) rfl dX3_passes_33 ?_
        refine lv_aload_n hx hb dX3_passes_36 rfl (lv_at hl 0 rfl) ?_
        refine va_get (D := gD g) (ci := 3) (v := .int s_K_cur) (C := RX3) (T := TX3) (N := 33) hx hb hts hi3 hown hK hP 0 rfl rfl 26 (by decide) k2 (fun _ h9 => h9) rfl dX3_passes_37 ?_
        have h9 := hv.1
        have hv := hv.2
        refine va_iald (f := s_K_kept) (n := 276) hx hb hK hP 16 0 rfl rfl h9 dX3_passes_40 ?_
        have h9 := hv.1
        have hv := hv.2
        refine va_iast (f := s_S_figure) (n := 5) hx hb hK hP hD hS 6 0 rfl rfl h9 dX3_passes_41 (fun H locs hP hD hS => ?_)
        have hP : va_P (gD g) vwCl (wM g ad (((sCase (mS σ)), (sAsked (mS σ)), (sNq (mS σ)), (sNw (mS σ)), (sNh (mS σ)), (sForm (mS σ)), (sFirst (mS σ)), (sSecond (mS σ)), (sKind (mS σ)), (upd s_S_figure (x2).toNatClampNeg (s_K_kept (s_K_cur).toNatClampNeg)), (sKnows (mS σ)), (sWhom (mS σ)), (sWhat (mS σ)), (sSaid (mS σ)), (sWhen (mS σ))), (mT σ), (s_K_kept, (kHas (mK σ)), (kKeep (mK σ)), s_K_cur), (mF σ), (mRow σ), (mRowMany σ), (mLots σ), (mRefused σ))) H := hP
        have hD : va_D (AD ad 0 21) (wM g ad (((sCase (mS σ)), (sAsked (mS σ)), (sNq (mS σ)), (sNw (mS σ)), (sNh (mS σ)), (sForm (mS σ)), (sFirst (mS σ)), (sSecond (mS σ)), (sKind (mS σ)), (upd s_S_figure (x2).toNatClampNeg (s_K_kept (s_K_cur).toNatClampNeg)), (sKnows (mS σ)), (sWhom (mS σ)), (sWhat (mS σ)), (sSaid (mS σ)), (sWhen (mS σ))), (mT σ), (s_K_kept, (kHas (mK σ)), (kKeep (mK σ)), s_K_cur), (mF σ), (mRow σ), (mRowMany σ), (mLots σ), (mRefused σ))) := hD
        refine lv_aload_n hx hb dX3_passes_42 rfl (lv_at hl 0 rfl) ?_
        refine lv_dup hx hb dX3_passes_43 rfl ?_
        refine va_get (D := gD g) (ci := 3) (v := .int s_K_cur) (C := RX3) (T := TX3) (N := 33) hx hb hts hi3 hown hK hP 0 rfl rfl 26 (by decide) k2 (fun _ h9 => h9) rfl dX3_passes_44 ?_
        refine lv_iconst (v := 1) hx hb dX3_passes_47 (by decide) ?_
        refine lv_iadd hx hb dX3_passes_48 ?_
        refine va_put (D := gD g) (ci := 3) (v := .int (s_K_cur + 1)) (ty := .int) (C := RX3) (T := TX3) (N := 33) hx hb hts hi3 tyX3 tyX3_ok nmX3 hown hK hP hD hS 0 rfl rfl 26 (by decide) k2 (fun _ h9 => h9) rfl (by decide +kernel) rfl rfl (Nat.le_of_ble_eq_true rfl) dX3_passes_49 (fun H locs hP hD hS => ?_)
        have hP : va_P (gD g) vwCl (wM g ad (((sCase (mS σ)), (sAsked (mS σ)), (sNq (mS σ)), (sNw (mS σ)), (sNh (mS σ)), (sForm (mS σ)), (sFirst (mS σ)), (sSecond (mS σ)), (sKind (mS σ)), (upd s_S_figure (x2).toNatClampNeg (s_K_kept (s_K_cur).toNatClampNeg)), (sKnows (mS σ)), (sWhom (mS σ)), (sWhat (mS σ)), (sSaid (mS σ)), (sWhen (mS σ))), (mT σ), (s_K_kept, (kHas (mK σ)), (kKeep (mK σ)), (s_K_cur + 1)), (mF σ), (mRow σ), (mRowMany σ), (mLots σ), (mRefused σ))) H := hP
        have hD : va_D (AD ad 0 21) (wM g ad (((sCase (mS σ)), (sAsked (mS σ)), (sNq (mS σ)), (sNw (mS σ)), (sNh (mS σ)), (sForm (mS σ)), (sFirst (mS σ)), (sSecond (mS σ)), (sKind (mS σ)), (upd s_S_figure (x2).toNatClampNeg (s_K_kept (s_K_cur).toNatClampNeg)), (sKnows (mS σ)), (sWhom (mS σ)), (sWhat (mS σ)), (sSaid (mS σ)), (sWhen (mS σ))), (mT σ), (s_K_kept, (kHas (mK σ)), (kKeep (mK σ)), (s_K_cur + 1)), (mF σ), (mRow σ), (mRowMany σ), (mLots σ), (mRefused σ))) := hD
        refine lv_iinc (v := (x2 + 1)) (lv' := [(2, .int (x2 + 1)), (0, .ref (ad 0)), (1, .ref (ad 6))]) hx hb dX3_passes_52 hl (k := 2) rfl (by first | rfl | exact congrArg _ (by decide)) (by decide) rfl (fun ls hl => ?_)
        refine lv_goto (tgt := 2) hx hb dX3_passes_55 (by decide) ?_
        exact hv H locs ls hP hD hS (lv_sub hl [1, 2, 0] rfl)
      · have hv := hv.2 c12
        refine lv_aload_n hx hb dX3_passes_15 rfl (lv_at hl 0 rfl) ?_
        refine va_get (D := gD g) (ci := 3) (v := .ref (ad 16)) (C := RX3) (T := TX3) (N := 33) hx hb hts hi3 hown hK hP 0 rfl rfl 23 (by decide) k1 (fun _ h9 => h9) rfl dX3_passes_16 ?_
        refine lv_aload_n hx hb dX3_passes_19 rfl (lv_at hl 0 rfl) ?_
        refine va_get (D := gD g) (ci := 3) (v := .int s_K_cur) (C := RX3) (T := TX3) (N := 33) hx hb hts hi3 hown hK hP 0 rfl rfl 26 (by decide) k2 (fun _ h9 => h9) rfl dX3_passes_20 ?_
        refine lv_aload_n hx hb dX3_passes_23 rfl (lv_at hl 1 rfl) ?_
        refine lv_iload_n hx hb dX3_passes_24 rfl (lv_at hl 2 rfl) ?_
        have h9 := hv.1
        have hv := hv.2
        refine va_iald (f := s_S_figure) (n := 5) hx hb hK hP 6 0 rfl rfl h9 dX3_passes_25 ?_
        have h9 := hv.1
        have hv := hv.2
        refine va_iast (f := s_K_kept) (n := 276) hx hb hK hP hD hS 16 0 rfl rfl h9 dX3_passes_26 (fun H locs hP hD hS => ?_)
        have hP : va_P (gD g) vwCl (wM g ad (((sCase (mS σ)), (sAsked (mS σ)), (sNq (mS σ)), (sNw (mS σ)), (sNh (mS σ)), (sForm (mS σ)), (sFirst (mS σ)), (sSecond (mS σ)), (sKind (mS σ)), s_S_figure, (sKnows (mS σ)), (sWhom (mS σ)), (sWhat (mS σ)), (sSaid (mS σ)), (sWhen (mS σ))), (mT σ), ((upd s_K_kept (s_K_cur).toNatClampNeg (s_S_figure (x2).toNatClampNeg)), (kHas (mK σ)), (kKeep (mK σ)), s_K_cur), (mF σ), (mRow σ), (mRowMany σ), (mLots σ), (mRefused σ))) H := hP
        have hD : va_D (AD ad 0 21) (wM g ad (((sCase (mS σ)), (sAsked (mS σ)), (sNq (mS σ)), (sNw (mS σ)), (sNh (mS σ)), (sForm (mS σ)), (sFirst (mS σ)), (sSecond (mS σ)), (sKind (mS σ)), s_S_figure, (sKnows (mS σ)), (sWhom (mS σ)), (sWhat (mS σ)), (sSaid (mS σ)), (sWhen (mS σ))), (mT σ), ((upd s_K_kept (s_K_cur).toNatClampNeg (s_S_figure (x2).toNatClampNeg)), (kHas (mK σ)), (kKeep (mK σ)), s_K_cur), (mF σ), (mRow σ), (mRowMany σ), (mLots σ), (mRefused σ))) := hD
        refine lv_goto (tgt := 42) hx hb dX3_passes_27 (by decide) ?_
        refine lv_aload_n hx hb dX3_passes_42 rfl (lv_at hl 0 rfl) ?_
        refine lv_dup hx hb dX3_passes_43 rfl ?_
        refine va_get (D := gD g) (ci := 3) (v := .int s_K_cur) (C := RX3) (T := TX3) (N := 33) hx hb hts hi3 hown hK hP 0 rfl rfl 26 (by decide) k2 (fun _ h9 => h9) rfl dX3_passes_44 ?_
        refine lv_iconst (v := 1) hx hb dX3_passes_47 (by decide) ?_
        refine lv_iadd hx hb dX3_passes_48 ?_
        refine va_put (D := gD g) (ci := 3) (v := .int (s_K_cur + 1)) (ty := .int) (C := RX3) (T := TX3) (N := 33) hx hb hts hi3 tyX3 tyX3_ok nmX3 hown hK hP hD hS 0 rfl rfl 26 (by decide) k2 (fun _ h9 => h9) rfl (by decide +kernel) rfl rfl (Nat.le_of_ble_eq_true rfl) dX3_passes_49 (fun H locs hP hD hS => ?_)
        have hP : va_P (gD g) vwCl (wM g ad (((sCase (mS σ)), (sAsked (mS σ)), (sNq (mS σ)), (sNw (mS σ)), (sNh (mS σ)), (sForm (mS σ)), (sFirst (mS σ)), (sSecond (mS σ)), (sKind (mS σ)), s_S_figure, (sKnows (mS σ)), (sWhom (mS σ)), (sWhat (mS σ)), (sSaid (mS σ)), (sWhen (mS σ))), (mT σ), ((upd s_K_kept (s_K_cur).toNatClampNeg (s_S_figure (x2).toNatClampNeg)), (kHas (mK σ)), (kKeep (mK σ)), (s_K_cur + 1)), (mF σ), (mRow σ), (mRowMany σ), (mLots σ), (mRefused σ))) H := hP
        have hD : va_D (AD ad 0 21) (wM g ad (((sCase (mS σ)), (sAsked (mS σ)), (sNq (mS σ)), (sNw (mS σ)), (sNh (mS σ)), (sForm (mS σ)), (sFirst (mS σ)), (sSecond (mS σ)), (sKind (mS σ)), s_S_figure, (sKnows (mS σ)), (sWhom (mS σ)), (sWhat (mS σ)), (sSaid (mS σ)), (sWhen (mS σ))), (mT σ), ((upd s_K_kept (s_K_cur).toNatClampNeg (s_S_figure (x2).toNatClampNeg)), (kHas (mK σ)), (kKeep (mK σ)), (s_K_cur + 1)), (mF σ), (mRow σ), (mRowMany σ), (mLots σ), (mRefused σ))) := hD
        refine lv_iinc (v := (x2 + 1)) (lv' := [(2, .int (x2 + 1)), (0, .ref (ad 0)), (1, .ref (ad 6))]) hx hb dX3_passes_52 hl (k := 2) rfl (by first | rfl | exact congrArg _ (by decide)) (by decide) rfl (fun ls hl => ?_)
        refine lv_goto (tgt := 2) hx hb dX3_passes_55 (by decide) ?_
        exact hv H locs ls hP hD hS (lv_sub hl [1, 2, 0] rfl))
  obtain ⟨H, hH⟩ : ∃ z, z = s.heap := ⟨_, rfl⟩
  obtain ⟨locs, hL⟩ : ∃ z : List Loc, z = [] := ⟨_, rfl⟩
  rw [← hL] at hS ⊢
  have hS : va_S (AD ad 0 21) s.heap H locs := by rw [hH]; exact hS
  rw [← hH] at hP ⊢
  clear hH hL
  refine lv_iconst (v := 0) hx hb dX3_passes_0 (by decide) ?_
  refine lv_istore_n (lv' := [(2, .int 0), (0, .ref (ad 0)), (1, .ref (ad 6))]) hx hb dX3_passes_1 rfl hl (by decide) rfl (fun ls hl => ?_)
  exact hv H locs ls hP hD hS (lv_sub hl [1, 2, 0] rfl)

