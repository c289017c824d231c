set_option maxHeartbeats 4000000 in
set_option maxRecDepth 100000 in
theorem m_X0_flipKnown (l : Launch) (h_X0_hasWitness : C_X0_hasWitness l) (h_X2_isFact : C_X2_isFact l) (g : CX) (ad : Nat → Nat) (o : Nat) (σ : KC) (p0 : Int32) (p1 : Int32) (Post : Int32 → KC → Prop) (hv : vc_X0_flipKnown σ p0 p1 Post) : Met l yX0_flipKnown wsX0_flipKnown { frames := 1, cells := 0, slots := 0, locals := 21 } (va_Pc [.ref (ad o), .int p0, .int p1] (RW g (AD ad o 13) (wC g ad o σ))) (va_Qi (fun (r : Int32) (u : KC) => Post r u) (fun u t => va_P (gD g) vwCl (wC g ad o u) t.heap) (AD ad o 13)) 0 0 (AD ad o 13) := by
  unfold vc_X0_flipKnown at hv
  refine Met.ofW (cc := cX0_flipKnown) (maxL := 3) (ret := (some .boolean)) (by decide) rfl ?_
  intro p e s m args below meth c s₁ B hml hv0
  obtain ⟨rfl, hP, hK, hE, hD⟩ := hv0
  have hx := B.exec
  have hb := B.bytes
  have hr := B.returns
  have hts := atoms_spec (ws := wsX0_flipKnown) B.pre
  have hown : s.vm.findClass RX0 = some m.cls := findClass_of_methodNamed B.named
  have hlocks := B.notSynchronized
  have hi0 : ∀ w ∈ wsX00, w ∈ wsX0_flipKnown := by decide +kernel
  have k0 := hts (.initialized RX2) (by decide +kernel)
  have k1 := hts (.static yX2_isFact) (by decide +kernel)
  have k2 := hts (.fieldLink RX0 34 "JuryHearsAnswers$Court" "known" "[I") (by decide +kernel)
  have hS : va_S (AD ad o 13) s.heap s.heap [] := va_S.rf
  have hP : va_P (gD g) vwCl (wC g ad o σ) s.heap := hP
  have hl := lv_entry ([.ref (ad o), .int p0, .int p1]) (n := 3) (Nat.le_of_ble_eq_true rfl)
  rw [lg_entry_eq]
  generalize (lg_sl ([.ref (ad o), .int p0, .int p1]) ++ List.replicate (3 - (lg_sl ([.ref (ad o), .int p0, .int p1])).length) Slot.unset).toArray = ls at hl ⊢
  have hl : lv_has ls 3 [(0, .ref (ad o)), (1, .int p0), (2, .int p1)] := hl
  obtain ⟨H, hH⟩ : ∃ z, z = s.heap := ⟨_, rfl⟩
  obtain ⟨locs, hL⟩ : ∃ z : List Loc, z = [] := ⟨_, rfl⟩
  rw [← hL] at hS ⊢
  have hS : va_S (AD ad o 13) s.heap H locs := by rw [hH]; exact hS
  rw [← hH] at hP ⊢
  clear hH hL
  refine lv_aload_n hx hb dX0_flipKnown_0 rfl (lv_at hl 0 rfl) ?_
  refine lv_iload_n hx hb dX0_flipKnown_1 rfl (lv_at hl 1 rfl) ?_
  have hPc := hP
  refine ro_int (va_runV (As := [.int p0]) (rest := []) ⟨hx, hb, hml, hown, hts⟩ (h_X0_hasWitness g ad o σ p0) (cwV 1 hts gX0_flipKnown_X0_hasWitness rfl rfl rfl (by decide +kernel) ⟨Nat.le_of_ble_eq_true rfl, Nat.le_of_ble_eq_true rfl⟩) ⟨RO_blind, va_recv hK hP (ci := 0) (q0 := 0) rfl rfl, fun U hU hW => ⟨rfl, by rw [hU]; exact hPc, va_K.moved hW.alike hK, hE.call hW hU hS (fun _ h => h.elim)⟩⟩ rfl rfl hl.1 rfl (lv_room (Nat.le_of_ble_eq_true rfl)) dX0_flipKnown_2 ⟨Nat.le_of_ble_eq_true rfl, Nat.le_of_ble_eq_true rfl⟩) hS hP (fun r H locs hw hP hS => ?_)
  subst r
  refine lv_if_eq (tgt := 15) hx hb dX0_flipKnown_5 (by decide) (fun c5 => ?_) (fun c5 => ?_)
  · have hv := hv.1 c5
    refine lv_iconst (v := 0) hx hb dX0_flipKnown_15 (by decide) ?_
    exact W.zret (v := 0) hx hb hr rfl (fun t ht hW => ⟨⟨0, σ, rfl, hv, P_at ht hP⟩, hS.F ht⟩) hS.2.2 dX0_flipKnown_16
  · have hv := hv.2 c5
    refine lv_iload_n hx hb dX0_flipKnown_8 rfl (lv_at hl 2 rfl) ?_
    have hPc : va_P (gD g) vwCl [] H := fun k q h => by simp at h
    refine ro_int (va_runSN (As := [.int p1]) (rest := []) ⟨hx, hb, hml, hown, hts⟩ (h_X2_isFact g p1) ⟨va_cnB 1 hts gX0_flipKnown_X2_isFact_n71 rfl rfl rfl (hE.1.1) k0 (by decide +kernel) ⟨Nat.le_of_ble_eq_true rfl, Nat.le_of_ble_eq_true rfl⟩, k1, trivial⟩ ⟨RO_blind, fun U hU hW => ⟨rfl, by rw [hU]; exact hPc, va_K.moved hW.alike hK, hE.call hW hU hS (fun _ h => h.elim)⟩⟩ rfl rfl hl.1 rfl (lv_room (Nat.le_of_ble_eq_true rfl)) dX0_flipKnown_9 ⟨Nat.le_of_ble_eq_true rfl, Nat.le_of_ble_eq_true rfl⟩) hS hP (fun r H locs hw hP hS => ?_)
    subst r
    refine lv_if_ne (tgt := 17) hx hb dX0_flipKnown_12 (by decide) (fun c12 => ?_) (fun c12 => ?_)
    · have hv := hv.1 c12
      refine lv_aload_n hx hb dX0_flipKnown_17 rfl (lv_at hl 0 rfl) ?_
      refine va_get (D := gD g) (ci := 0) (v := .ref (ad (o + 8))) (C := RX0) (T := TX0) (N := 17) hx hb hts hi0 hown hK hP 0 rfl rfl 12 (by decide) k2 (fun _ h9 => h9) rfl dX0_flipKnown_18 ?_
      refine lv_iload_n hx hb dX0_flipKnown_21 rfl (lv_at hl 1 rfl) ?_
      refine lv_dup2_11 hx hb dX0_flipKnown_22 rfl rfl ?_
      have h9 := hv.1
      have hv := hv.2
      refine va_iald (f := (sKnows (cS σ))) (n := 5) hx hb hK hP 8 0 rfl rfl h9 dX0_flipKnown_23 ?_
      refine lv_iconst (v := 1) hx hb dX0_flipKnown_24 (by decide) ?_
      refine lv_iload_n hx hb dX0_flipKnown_25 rfl (lv_at hl 2 rfl) ?_
      refine lv_ishl hx hb dX0_flipKnown_26 ?_
      refine lv_ixor hx hb dX0_flipKnown_27 ?_
      have h9 := hv.1
      have hv := hv.2
      refine va_iast (f := (sKnows (cS σ))) (n := 5) hx hb hK hP hD hS 8 0 rfl rfl h9 dX0_flipKnown_28 (fun H locs hP hD hS => ?_)
      have hP : va_P (gD g) vwCl (wC g ad o (((sCase (cS σ)), (sAsked (cS σ)), (sNq (cS σ)), (sNw (cS σ)), (sNh (cS σ)), (sForm (cS σ)), (sFirst (cS σ)), (sSecond (cS σ)), (sKind (cS σ)), (sFigure (cS σ)), (upd (sKnows (cS σ)) (p0).toNatClampNeg (((sKnows (cS σ)) (p0).toNatClampNeg) ^^^ (1 <<< (p1 &&& 31)))), (sWhom (cS σ)), (sWhat (cS σ)), (sSaid (cS σ)), (sWhen (cS σ))), (cNeeded σ), (cTruth σ))) H := hP
      have hD : va_D (AD ad o 13) (wC g ad o (((sCase (cS σ)), (sAsked (cS σ)), (sNq (cS σ)), (sNw (cS σ)), (sNh (cS σ)), (sForm (cS σ)), (sFirst (cS σ)), (sSecond (cS σ)), (sKind (cS σ)), (sFigure (cS σ)), (upd (sKnows (cS σ)) (p0).toNatClampNeg (((sKnows (cS σ)) (p0).toNatClampNeg) ^^^ (1 <<< (p1 &&& 31)))), (sWhom (cS σ)), (sWhat (cS σ)), (sSaid (cS σ)), (sWhen (cS σ))), (cNeeded σ), (cTruth σ))) := hD
      refine lv_iconst (v := 1) hx hb dX0_flipKnown_29 (by decide) ?_
      exact W.zret (v := 1) hx hb hr rfl (fun t ht hW => ⟨⟨1, (((sCase (cS σ)), (sAsked (cS σ)), (sNq (cS σ)), (sNw (cS σ)), (sNh (cS σ)), (sForm (cS σ)), (sFirst (cS σ)), (sSecond (cS σ)), (sKind (cS σ)), (sFigure (cS σ)), (upd (sKnows (cS σ)) (p0).toNatClampNeg (((sKnows (cS σ)) (p0).toNatClampNeg) ^^^ (1 <<< (p1 &&& 31)))), (sWhom (cS σ)), (sWhat (cS σ)), (sSaid (cS σ)), (sWhen (cS σ))), (cNeeded σ), (cTruth σ)), rfl, hv, P_at ht hP⟩, hS.F ht⟩) hS.2.2 dX0_flipKnown_30
    · have hv := hv.2 c12
      refine lv_iconst (v := 0) hx hb dX0_flipKnown_15 (by decide) ?_
      exact W.zret (v := 0) hx hb hr rfl (fun t ht hW => ⟨⟨0, σ, rfl, hv, P_at ht hP⟩, hS.F ht⟩) hS.2.2 dX0_flipKnown_16

set_option maxHeartbeats 4000000 in
set_option maxRecDepth 100000 in
theorem m_X1_add (l : Launch)  (g : CX) (ad : Nat → Nat) (o : Nat) (σ : KZ) (p0 : Int32) (Post : KZ → Prop) (hv : vc_X1_add σ p0 Post) : Met l yX1_add wsX1_add { frames := 0, cells := 0, slots := 0, locals := 0 } (va_Pc [.ref (ad o), .int p0] (RW g (AD ad o 2) (wZ g ad o σ))) (va_Qv (fun (u : KZ) => Post u) (fun u t => va_P (gD g) vwCl (wZ g ad o u) t.heap) (AD ad o 2)) 0 0 (AD ad o 2) := by
  unfold vc_X1_add at hv
  refine Met.ofW (cc := cX1_add) (maxL := 2) (ret := none) (by decide) rfl ?_
  intro p e s m args below meth c s₁ B hml hv0
  obtain ⟨rfl, hP, hK, hE, hD⟩ := hv0
  have hx := B.exec
  have hb := B.bytes
  have hr := B.returns
  have hts := atoms_spec (ws := wsX1_add) B.pre
  have hown : s.vm.findClass RX1 = some m.cls := findClass_of_methodNamed B.named
  have hlocks := B.notSynchronized
  have hi1 : ∀ w ∈ wsX10, w ∈ wsX1_add := by decide +kernel
  have k0 := hts (.fieldLink RX1 15 "JuryHearsAnswers$Script" "length" "I") (by decide +kernel)
  have k1 := hts (.fieldLink RX1 9 "JuryHearsAnswers$Script" "text" "[C") (by decide +kernel)
  have hS : va_S (AD ad o 2) s.heap s.heap [] := va_S.rf
  have hP : va_P (gD g) vwCl (wZ g ad o σ) s.heap := hP
  have hl := lv_entry ([.ref (ad o), .int p0]) (n := 2) (Nat.le_of_ble_eq_true rfl)
  rw [lg_entry_eq]
  generalize (lg_sl ([.ref (ad o), .int p0]) ++ List.replicate (2 - (lg_sl ([.ref (ad o), .int p0])).length) Slot.unset).toArray = ls at hl ⊢
  have hl : lv_has ls 2 [(0, .ref (ad o)), (1, .int p0)] := hl
  obtain ⟨H, hH⟩ : ∃ z, z = s.heap := ⟨_, rfl⟩
  obtain ⟨locs, hL⟩ : ∃ z : List Loc, z = [] := ⟨_, rfl⟩
  rw [← hL] at hS ⊢
  have hS : va_S (AD ad o 2) s.heap H locs := by rw [hH]; exact hS
  rw [← hH] at hP ⊢
  clear hH hL
  refine lv_aload_n hx hb dX1_add_0 rfl (lv_at hl 0 rfl) ?_
  refine va_get (D := gD g) (ci := 1) (v := .int (zLen σ)) (C := RX1) (T := TX1) (N := 2) hx hb hts hi1 hown hK hP 0 rfl rfl 0 (by decide) k0 (fun _ h9 => h9) rfl dX1_add_1 ?_
  refine lv_bipush (v := 96) hx hb dX1_add_4 (by decide) ?_
  refine lv_icmp_ge (tgt := 29) hx hb dX1_add_6 (by decide) (fun c6 => ?_) (fun c6 => ?_)
  · have hv := hv.1 c6
    exact W.vret hx hb hr (fun t ht hW => ⟨⟨σ, rfl, hv, P_at ht hP⟩, hS.F ht⟩) hS.2.2 dX1_add_29
  · have hv := hv.2 c6
    refine lv_aload_n hx hb dX1_add_9 rfl (lv_at hl 0 rfl) ?_
    refine va_get (D := gD g) (ci := 1) (v := .ref (ad (o + 1))) (C := RX1) (T := TX1) (N := 2) hx hb hts hi1 hown hK hP 0 rfl rfl 1 (by decide) k1 (fun _ h9 => h9) rfl dX1_add_10 ?_
    refine lv_aload_n hx hb dX1_add_13 rfl (lv_at hl 0 rfl) ?_
    refine va_get (D := gD g) (ci := 1) (v := .int (zLen σ)) (C := RX1) (T := TX1) (N := 2) hx hb hts hi1 hown hK hP 0 rfl rfl 0 (by decide) k0 (fun _ h9 => h9) rfl dX1_add_14 ?_
    refine lv_iload_n hx hb dX1_add_17 rfl (lv_at hl 1 rfl) ?_
    have h9 := hv.1
    have hv := hv.2
    refine va_cast (f := (zText σ)) (n := 96) hx hb hK hP hD hS 1 2 rfl rfl h9 dX1_add_18 (fun H locs hP hD hS => ?_)
    have hP : va_P (gD g) vwCl (wZ g ad o ((zLen σ), (upd (zText σ) ((zLen σ)).toNatClampNeg (vp_nar .char p0)))) H := hP
    have hD : va_D (AD ad o 2) (wZ g ad o ((zLen σ), (upd (zText σ) ((zLen σ)).toNatClampNeg (vp_nar .char p0)))) := hD
    refine lv_aload_n hx hb dX1_add_19 rfl (lv_at hl 0 rfl) ?_
    refine lv_dup hx hb dX1_add_20 rfl ?_
    refine va_get (D := gD g) (ci := 1) (v := .int (zLen σ)) (C := RX1) (T := TX1) (N := 2) hx hb hts hi1 hown hK hP 0 rfl rfl 0 (by decide) k0 (fun _ h9 => h9) rfl dX1_add_21 ?_
    refine lv_iconst (v := 1) hx hb dX1_add_24 (by decide) ?_
    refine lv_iadd hx hb dX1_add_25 ?_
    refine va_put (D := gD g) (ci := 1) (v := .int ((zLen σ) + 1)) (ty := .int) (C := RX1) (T := TX1) (N := 2) hx hb hts hi1 tyX1 tyX1_ok nmX1 hown hK hP hD hS 0 rfl rfl 0 (by decide) k0 (fun _ h9 => h9) rfl (by decide +kernel) rfl rfl (Nat.le_of_ble_eq_true rfl) dX1_add_26 (fun H locs hP hD hS => ?_)
    have hP : va_P (gD g) vwCl (wZ g ad o (((zLen σ) + 1), (upd (zText σ) ((zLen σ)).toNatClampNeg (vp_nar .char p0)))) H := hP
    have hD : va_D (AD ad o 2) (wZ g ad o (((zLen σ) + 1), (upd (zText σ) ((zLen σ)).toNatClampNeg (vp_nar .char p0)))) := hD
    exact W.vret hx hb hr (fun t ht hW => ⟨⟨(((zLen σ) + 1), (upd (zText σ) ((zLen σ)).toNatClampNeg (vp_nar .char p0))), rfl, hv, P_at ht hP⟩, hS.F ht⟩) hS.2.2 dX1_add_29

set_option maxHeartbeats 4000000 in
set_option maxRecDepth 100000 in
theorem m_J13_bitCount_95d88 (l : Launch)  (g : CX) (p0 : Int64) (Post : Int32 → Prop) (hv : vc_J13_bitCount_95d88 p0 Post) : Met l yJ13_bitCount_95d88 wsJ13_bitCount_95d88 { frames := 0, cells := 0, slots := 0, locals := 0 } (va_Pc [.long p0] (RO g [])) (va_Qi (fun r (_ : Unit) => Post r) (fun _ _ => True) A0) 0 0 A0 := by
  unfold vc_J13_bitCount_95d88 at hv
  refine Met.ofW (cc := cJ13_bitCount_95d88) (maxL := 2) (ret := (some .int)) (by decide) rfl ?_
  intro p e s m args below meth c s₁ B hml hv0
  obtain ⟨rfl, hP, hK, hE⟩ := hv0
  have hx := B.exec
  have hb := B.bytes
  have hr := B.returns
  have hts := atoms_spec (ws := wsJ13_bitCount_95d88) B.pre
  have hown : s.vm.findClass RJ13 = some m.cls := findClass_of_methodNamed B.named
  have hlocks := B.notSynchronized
  have k0 := hts (.constantLong RJ13 314 6148914691236517205) (by decide +kernel)
  have k1 := hts (.constantLong RJ13 316 3689348814741910323) (by decide +kernel)
  have k2 := hts (.constantLong RJ13 318 1085102592571150095) (by decide +kernel)
  have hS : va_S A0 s.heap s.heap [] := va_S.rf
  have hP : va_P (gD g) vwCl ([]) s.heap := hP
  have hl := lv_entry ([.long p0]) (n := 2) (Nat.le_of_ble_eq_true rfl)
  rw [lg_entry_eq]
  generalize (lg_sl ([.long p0]) ++ List.replicate (2 - (lg_sl ([.long p0])).length) Slot.unset).toArray = ls at hl ⊢
  have hl : lv_has ls 2 [(0, .long p0)] := hl
  obtain ⟨H, hH⟩ : ∃ z, z = s.heap := ⟨_, rfl⟩
  obtain ⟨locs, hL⟩ : ∃ z : List Loc, z = [] := ⟨_, rfl⟩
  rw [← hL] at hS ⊢
  have hS : va_S A0 s.heap H locs := by rw [hH]; exact hS
  rw [← hH] at hP ⊢
  clear hH hL
  refine lv_lload_n hx hb dJ13_bitCount_95d88_0 rfl (lv_at hl 0 rfl) ?_
  refine lv_lload_n hx hb dJ13_bitCount_95d88_1 rfl (lv_at hl 0 rfl) ?_
  refine lv_iconst (v := 1) hx hb dJ13_bitCount_95d88_2 (by decide) ?_
  refine lv_lushr (v := (lushr p0 1)) hx hb dJ13_bitCount_95d88_3 rfl ?_
  refine lv_ldc2 hx hb hown k0 dJ13_bitCount_95d88_4 ?_
  refine lv_land hx hb dJ13_bitCount_95d88_7 ?_
  refine lv_lsub hx hb dJ13_bitCount_95d88_8 ?_
  refine lv_topl (fun z9 ez9 => ?_)
  have hv := hv z9 ez9
  refine lv_lstore_n (lv' := [(0, .long z9)]) hx hb dJ13_bitCount_95d88_9 rfl hl (by decide) rfl (fun ls hl => ?_)
  refine lv_lload_n hx hb dJ13_bitCount_95d88_10 rfl (lv_at hl 0 rfl) ?_
  refine lv_ldc2 hx hb hown k1 dJ13_bitCount_95d88_11 ?_
  refine lv_land hx hb dJ13_bitCount_95d88_14 ?_
  refine lv_lload_n hx hb dJ13_bitCount_95d88_15 rfl (lv_at hl 0 rfl) ?_
  refine lv_iconst (v := 2) hx hb dJ13_bitCount_95d88_16 (by decide) ?_
  refine lv_lushr (v := (lushr z9 2)) hx hb dJ13_bitCount_95d88_17 rfl ?_
  refine lv_ldc2 hx hb hown k1 dJ13_bitCount_95d88_18 ?_
  refine lv_land hx hb dJ13_bitCount_95d88_21 ?_
  refine lv_ladd hx hb dJ13_bitCount_95d88_22 ?_
  refine lv_topl (fun z23 ez23 => ?_)
  have hv := hv z23 ez23
  refine lv_lstore_n (lv' := [(0, .long z23)]) hx hb dJ13_bitCount_95d88_23 rfl hl (by decide) rfl (fun ls hl => ?_)
  refine lv_lload_n hx hb dJ13_bitCount_95d88_24 rfl (lv_at hl 0 rfl) ?_
  refine lv_lload_n hx hb dJ13_bitCount_95d88_25 rfl (lv_at hl 0 rfl) ?_
  refine lv_iconst (v := 4) hx hb dJ13_bitCount_95d88_26 (by decide) ?_
  refine lv_lushr (v := (lushr z23 4)) hx hb dJ13_bitCount_95d88_27 rfl ?_
  refine lv_ladd hx hb dJ13_bitCount_95d88_28 ?_
  refine lv_ldc2 hx hb hown k2 dJ13_bitCount_95d88_29 ?_
  refine lv_land hx hb dJ13_bitCount_95d88_32 ?_
  refine lv_topl (fun z33 ez33 => ?_)
  have hv := hv z33 ez33
  refine lv_lstore_n (lv' := [(0, .long z33)]) hx hb dJ13_bitCount_95d88_33 rfl hl (by decide) rfl (fun ls hl => ?_)
  refine lv_lload_n hx hb dJ13_bitCount_95d88_34 rfl (lv_at hl 0 rfl) ?_
  refine lv_lload_n hx hb dJ13_bitCount_95d88_35 rfl (lv_at hl 0 rfl) ?_
  refine lv_bipush (v := 8) hx hb dJ13_bitCount_95d88_36 (by decide) ?_
  refine lv_lushr (v := (lushr z33 8)) hx hb dJ13_bitCount_95d88_38 rfl ?_
  refine lv_ladd hx hb dJ13_bitCount_95d88_39 ?_
  refine lv_topl (fun z40 ez40 => ?_)
  have hv := hv z40 ez40
  refine lv_lstore_n (lv' := [(0, .long z40)]) hx hb dJ13_bitCount_95d88_40 rfl hl (by decide) rfl (fun ls hl => ?_)
  refine lv_lload_n hx hb dJ13_bitCount_95d88_41 rfl (lv_at hl 0 rfl) ?_
  refine lv_lload_n hx hb dJ13_bitCount_95d88_42 rfl (lv_at hl 0 rfl) ?_
  refine lv_bipush (v := 16) hx hb dJ13_bitCount_95d88_43 (by decide) ?_
  refine lv_lushr (v := (lushr z40 16)) hx hb dJ13_bitCount_95d88_45 rfl ?_
  refine lv_ladd hx hb dJ13_bitCount_95d88_46 ?_
  refine lv_topl (fun z47 ez47 => ?_)
  have hv := hv z47 ez47
  refine lv_lstore_n (lv' := [(0, .long z47)]) hx hb dJ13_bitCount_95d88_47 rfl hl (by decide) rfl (fun ls hl => ?_)
  refine lv_lload_n hx hb dJ13_bitCount_95d88_48 rfl (lv_at hl 0 rfl) ?_
  refine lv_lload_n hx hb dJ13_bitCount_95d88_49 rfl (lv_at hl 0 rfl) ?_
  refine lv_bipush (v := 32) hx hb dJ13_bitCount_95d88_50 (by decide) ?_
  refine lv_lushr (v := (lushr z47 32)) hx hb dJ13_bitCount_95d88_52 rfl ?_
  refine lv_ladd hx hb dJ13_bitCount_95d88_53 ?_
  refine lv_topl (fun z54 ez54 => ?_)
  have hv := hv z54 ez54
  refine lv_lstore_n (lv' := [(0, .long z54)]) hx hb dJ13_bitCount_95d88_54 rfl hl (by decide) rfl (fun ls hl => ?_)
  refine lv_lload_n hx hb dJ13_bitCount_95d88_55 rfl (lv_at hl 0 rfl) ?_
  refine lv_l2i hx hb dJ13_bitCount_95d88_56 rfl ?_
  refine lv_bipush (v := 127) hx hb dJ13_bitCount_95d88_57 (by decide) ?_
  refine lv_iand hx hb dJ13_bitCount_95d88_59 ?_
  exact W.iret (v := ((z54).toInt32 &&& 127)) hx hb hr (fun t ht hW => ⟨⟨((z54).toInt32 &&& 127), (), rfl, hv, trivial⟩, hS.F ht⟩) hS.2.2 dJ13_bitCount_95d88_60

set_option maxHeartbeats 4000000 in
set_option maxRecDepth 100000 in
theorem m_X2_sizeOrLeast (l : Launch) (h_J13_bitCount_95d88 : C_J13_bitCount_95d88 l) (g : CX) (p0 : Int64) (p1 : Int32) (Post : Int32 → Prop) (hv : vc_X2_sizeOrLeast p0 p1 Post) : Met l yX2_sizeOrLeast wsX2_sizeOrLeast { frames := 1, cells := 0, slots := 0, locals := 21 } (va_Pc [.long p0, .int p1] (RO g [])) (va_Qi (fun r (_ : Unit) => Post r) (fun _ _ => True) A0) 0 0 A0 := by
  unfold vc_X2_sizeOrLeast at hv
  refine Met.ofW (cc := cX2_sizeOrLeast) (maxL := 3) (ret := (some .int)) (by decide) rfl ?_
  intro p e s m args below meth c s₁ B hml hv0
  obtain ⟨rfl, hP, hK, hE⟩ := hv0
  have hx := B.exec
  have hb := B.bytes
  have hr := B.returns
  have hts := atoms_spec (ws := wsX2_sizeOrLeast) B.pre
  have hown : s.vm.findClass RX2 = some m.cls := findClass_of_methodNamed B.named
  have hlocks := B.notSynchronized
  have hS : va_S A0 s.heap s.heap [] := va_S.rf
  have hP : va_P (gD g) vwCl ([]) s.heap := hP
  have hl := lv_entry ([.long p0, .int p1]) (n := 3) (Nat.le_of_ble_eq_true rfl)
  rw [lg_entry_eq]
  generalize (lg_sl ([.long p0, .int p1]) ++ List.replicate (3 - (lg_sl ([.long p0, .int p1])).length) Slot.unset).toArray = ls at hl ⊢
  have hl : lv_has ls 3 [(0, .long p0), (2, .int p1)] := hl
  obtain ⟨H, hH⟩ : ∃ z, z = s.heap := ⟨_, rfl⟩
  obtain ⟨locs, hL⟩ : ∃ z : List Loc, z = [] := ⟨_, rfl⟩
  rw [← hL] at hS ⊢
  have hS : va_S A0 s.heap H locs := by rw [hH]; exact hS
  rw [← hH] at hP ⊢
  clear hH hL
  refine lv_iload_n hx hb dX2_sizeOrLeast_0 rfl (lv_at hl 1 rfl) ?_
  refine lv_if_ne (tgt := 9) hx hb dX2_sizeOrLeast_1 (by decide) (fun c1 => ?_) (fun c1 => ?_)
  · have hv := hv.1 c1
    refine lv_lload_n hx hb dX2_sizeOrLeast_9 rfl (lv_at hl 0 rfl) ?_
    refine lv_lconst (v := 0) hx hb dX2_sizeOrLeast_10 (by decide) ?_
    refine W.lcmp hx hb dX2_sizeOrLeast_11 ?_
    refine lv_if_ne (tgt := 20) hx hb dX2_sizeOrLeast_12 (by decide) (fun c12 => ?_) (fun c12 => ?_)
    · have hv := hv.1 c12
      refine lv_lload_n hx hb dX2_sizeOrLeast_20 rfl (lv_at hl 0 rfl) ?_
      refine lv_lload_n hx hb dX2_sizeOrLeast_21 rfl (lv_at hl 0 rfl) ?_
      refine lv_lneg hx hb dX2_sizeOrLeast_22 ?_
      refine lv_land hx hb dX2_sizeOrLeast_23 ?_
      refine lv_lconst (v := 1) hx hb dX2_sizeOrLeast_24 (by decide) ?_
      refine lv_lsub hx hb dX2_sizeOrLeast_25 ?_
      have hPc : va_P (gD g) vwCl [] H := fun k q h => by simp at h
      refine ro_int (va_runS (As := [.long ((p0 &&& (- p0)) - 1)]) (rest := []) ⟨hx, hb, hml, hown, hts⟩ (h_J13_bitCount_95d88 g ((p0 &&& (- p0)) - 1)) (va_cwS 1 hts gX2_sizeOrLeast_J13_bitCount_95d88 rfl rfl rfl (by decide +kernel) ⟨Nat.le_of_ble_eq_true rfl, Nat.le_of_ble_eq_true rfl⟩) ⟨RO_blind, fun U hU hW => ⟨rfl, by rw [hU]; exact hPc, va_K.moved hW.alike hK, hE.call hW hU hS (fun _ h => h.elim)⟩⟩ rfl rfl hl.1 rfl (lv_room (Nat.le_of_ble_eq_true rfl)) dX2_sizeOrLeast_26 ⟨Nat.le_of_ble_eq_true rfl, Nat.le_of_ble_eq_true rfl⟩) hS hP (fun r H locs hw hP hS => ?_)
      subst r
      exact W.iret (v := (popc ((p0 &&& (- p0)) - 1))) hx hb hr (fun t ht hW => ⟨⟨(popc ((p0 &&& (- p0)) - 1)), (), rfl, hv, trivial⟩, hS.F ht⟩) hS.2.2 dX2_sizeOrLeast_29
    · have hv := hv.2 c12
      refine lv_bipush (v := (-9)) hx hb dX2_sizeOrLeast_15 (by decide) ?_
      refine lv_goto (tgt := 29) hx hb dX2_sizeOrLeast_17 (by decide) ?_
      exact W.iret (v := (-9)) hx hb hr (fun t ht hW => ⟨⟨(-9), (), rfl, hv, trivial⟩, hS.F ht⟩) hS.2.2 dX2_sizeOrLeast_29
  · have hv := hv.2 c1
    refine lv_lload_n hx hb dX2_sizeOrLeast_4 rfl (lv_at hl 0 rfl) ?_
    have hPc : va_P (gD g) vwCl [] H := fun k q h => by simp at h
    refine ro_int (va_runS (As := [.long p0]) (rest := []) ⟨hx, hb, hml, hown, hts⟩ (h_J13_bitCount_95d88 g p0) (va_cwS 1 hts gX2_sizeOrLeast_J13_bitCount_95d88 rfl rfl rfl (by decide +kernel) ⟨Nat.le_of_ble_eq_true rfl, Nat.le_of_ble_eq_true rfl⟩) ⟨RO_blind, fun U hU hW => ⟨rfl, by rw [hU]; exact hPc, va_K.moved hW.alike hK, hE.call hW hU hS (fun _ h => h.elim)⟩⟩ rfl rfl hl.1 rfl (lv_room (Nat.le_of_ble_eq_true rfl)) dX2_sizeOrLeast_5 ⟨Nat.le_of_ble_eq_true rfl, Nat.le_of_ble_eq_true rfl⟩) hS hP (fun r H locs hw hP hS => ?_)
    subst r
    exact W.iret (v := (popc p0)) hx hb hr (fun t ht hW => ⟨⟨(popc p0), (), rfl, hv, trivial⟩, hS.F ht⟩) hS.2.2 dX2_sizeOrLeast_8

set_option maxHeartbeats 4000000 in
set_option maxRecDepth 100000 in
theorem m_X2_commonDivisor (l : Launch)  (g : CX) (p0 : Int32) (p1 : Int32) (Post : Int32 → Prop) (hv : vc_X2_commonDivisor p0 p1 Post) : Met l yX2_commonDivisor wsX2_commonDivisor { frames := 0, cells := 0, slots := 0, locals := 0 } (va_Pc [.int p0, .int p1] (RO g [])) (va_Qi (fun r (_ : Unit) => Post r) (fun _ _ => True) A0) 0 0 A0 := by
  unfold vc_X2_commonDivisor at hv
  refine Met.ofW (cc := cX2_commonDivisor) (maxL := 6) (ret := (some .int)) (by decide) rfl ?_
  intro p e s m args below meth c s₁ B hml hv0
  obtain ⟨rfl, hP, hK, hE⟩ := hv0
  have hx := B.exec
  have hb := B.bytes
  have hr := B.returns
  have hts := atoms_spec (ws := wsX2_commonDivisor) B.pre
  have hown : s.vm.findClass RX2 = some m.cls := findClass_of_methodNamed B.named
  have hlocks := B.notSynchronized
  have hS : va_S A0 s.heap s.heap [] := va_S.rf
  have hP : va_P (gD g) vwCl ([]) s.heap := hP
  have hl := lv_entry ([.int p0, .int p1]) (n := 6) (Nat.le_of_ble_eq_true rfl)
  rw [lg_entry_eq]
  generalize (lg_sl ([.int p0, .int p1]) ++ List.replicate (6 - (lg_sl ([.int p0, .int p1])).length) Slot.unset).toArray = ls at hl ⊢
  have hl : lv_has ls 6 [(0, .int p0), (1, .int p1)] := hl
  have hv := hv (fun (x2 : Int32) (x3 : Int32) (x4 : Int32) => ∀ (H : Heap) (locs : List Loc) (ls : Array Slot), va_P (gD g) vwCl ([]) H → va_S A0 s.heap H locs → lv_has ls 6 [(2, .int x2), (3, .int x3), (4, .int x4)] → W p l e { frames := 0, cells := 0, slots := 0, locals := 0 } s m ([.int p0, .int p1] : List Value).toArray below meth c H locs 0 0 (MQ below (va_Qi (fun r (_ : Unit) => Post r) (fun _ _ => True) A0) ([.int p0, .int p1] : List Value).toArray s 0 0 A0) (F0 m 7 ls []))
  have hv := hv (by
    intro x2 x3 x4 hv H locs ls hP hS hl
    refine lv_iload hx hb dX2_commonDivisor_7 (lv_at hl 2 rfl) ?_
    refine lv_bipush (v := 100) hx hb dX2_commonDivisor_9 (by decide) ?_
    refine lv_icmp_ge (tgt := 34) hx hb dX2_commonDivisor_11 (by decide) (fun c11 => ?_) (fun c11 => ?_)
    · have hv := hv.1 c11
      refine lv_iload_n hx hb dX2_commonDivisor_34 rfl (lv_at hl 0 rfl) ?_
      refine lv_if_le (tgt := 42) hx hb dX2_commonDivisor_35 (by decide) (fun c35 => ?_) (fun c35 => ?_)
      · have hv := hv.1 c35
        refine lv_iconst (v := 1) hx hb dX2_commonDivisor_42 (by decide) ?_
        exact W.iret (v := 1) hx hb hr (fun t ht hW => ⟨⟨1, (), rfl, hv, trivial⟩, hS.F ht⟩) hS.2.2 dX2_commonDivisor_43
      · have hv := hv.2 c35
        refine lv_iload_n hx hb dX2_commonDivisor_38 rfl (lv_at hl 0 rfl) ?_
        refine lv_goto (tgt := 43) hx hb dX2_commonDivisor_39 (by decide) ?_
        exact W.iret (v := x2) hx hb hr (fun t ht hW => ⟨⟨x2, (), rfl, hv, trivial⟩, hS.F ht⟩) hS.2.2 dX2_commonDivisor_43
    · have hv := hv.2 c11
      refine lv_iload_n hx hb dX2_commonDivisor_14 rfl (lv_at hl 1 rfl) ?_
      refine lv_if_le (tgt := 34) hx hb dX2_commonDivisor_15 (by decide) (fun c15 => ?_) (fun c15 => ?_)
      · have hv := hv.1 c15
        refine lv_iload_n hx hb dX2_commonDivisor_34 rfl (lv_at hl 0 rfl) ?_
        refine lv_if_le (tgt := 42) hx hb dX2_commonDivisor_35 (by decide) (fun c35 => ?_) (fun c35 => ?_)
        · have hv := hv.1 c35
          refine lv_iconst (v := 1) hx hb dX2_commonDivisor_42 (by decide) ?_
          exact W.iret (v := 1) hx hb hr (fun t ht hW => ⟨⟨1, (), rfl, hv, trivial⟩, hS.F ht⟩) hS.2.2 dX2_commonDivisor_43
        · have hv := hv.2 c35
          refine lv_iload_n hx hb dX2_commonDivisor_38 rfl (lv_at hl 0 rfl) ?_
          refine lv_goto (tgt := 43) hx hb dX2_commonDivisor_39 (by decide) ?_
          exact W.iret (v := x2) hx hb hr (fun t ht hW => ⟨⟨x2, (), rfl, hv, trivial⟩, hS.F ht⟩) hS.2.2 dX2_commonDivisor_43
      · have hv := hv.2 c15
        refine lv_iload_n hx hb dX2_commonDivisor_18 rfl (lv_at hl 0 rfl) ?_
        refine lv_iload_n hx hb dX2_commonDivisor_19 rfl (lv_at hl 1 rfl) ?_
        have h0 := hv.1
        have hv := hv.2
        refine lv_irem hx hb dX2_commonDivisor_20 h0 ?_
        refine lv_istore (lv' := [(5, .int (x2 - x2 / x3 * x3)), (2, .int x2), (3, .int x3), (4, .int x4)]) hx hb dX2_commonDivisor_21 hl (by decide) rfl (fun ls hl => ?_)
        refine lv_iload_n hx hb dX2_commonDivisor_23 rfl (lv_at hl 2 rfl) ?_
        refine lv_istore_n (lv' := [(2, .int x3), (5, .int (x2 - x2 / x3 * x3)), (3, .int x3), (4, .int x4)]) hx hb dX2_commonDivisor_24 rfl hl (by decide) rfl (fun ls hl => ?_)
        refine lv_iload hx hb dX2_commonDivisor_25 (lv_at hl 1 rfl) ?_
        refine lv_istore_n (lv' := [(3, .int (x2 - x2 / x3 * x3)), (2, .int x3), (5, .int (x2 - x2 / x3 * x3)), (4, .int x4)]) hx hb dX2_commonDivisor_27 rfl hl (by decide) rfl (fun ls hl => ?_)
        refine lv_iinc (v := (x4 + 1)) (lv' := [(4, .int (x4 + 1)), (3, .int (x2 - x2 / x3 * x3)), (2, .int x3), (5, .int (x2 - x2 / x3 * x3))]) hx hb dX2_commonDivisor_28 hl (k := 3) rfl (by first | rfl | exact congrArg _ (by decide)) (by decide) rfl (fun ls hl => ?_)
        refine lv_goto (tgt := 7) hx hb dX2_commonDivisor_31 (by decide) ?_
        exact hv H locs ls hP hS (lv_sub hl [2, 1, 0] rfl))
  obtain ⟨H, hH⟩ : ∃ z, z = s.heap := ⟨_, rfl⟩
  obtain ⟨locs, hL⟩ : ∃ z : List Loc, z = [] := ⟨_, rfl⟩
  rw [← hL] at hS ⊢
  have hS : va_S A0 s.heap H locs := by rw [hH]; exact hS
  rw [← hH] at hP ⊢
  clear hH hL
  refine lv_iload_n hx hb dX2_commonDivisor_0 rfl (lv_at hl 0 rfl) ?_
  refine lv_istore_n (lv' := [(2, .int p0), (0, .int p0), (1, .int p1)]) hx hb dX2_commonDivisor_1 rfl hl (by decide) rfl (fun ls hl => ?_)
  refine lv_iload_n hx hb dX2_commonDivisor_2 rfl (lv_at hl 2 rfl) ?_
  refine lv_istore_n (lv' := [(3, .int p1), (2, .int p0), (0, .int p0), (1, .int p1)]) hx hb dX2_commonDivisor_3 rfl hl (by decide) rfl (fun ls hl => ?_)
  refine lv_iconst (v := 0) hx hb dX2_commonDivisor_4 (by decide) ?_
  refine lv_istore (lv' := [(4, .int 0), (3, .int p1), (2, .int p0), (0, .int p0), (1, .int p1)]) hx hb dX2_commonDivisor_5 hl (by decide) rfl (fun ls hl => ?_)
  exact hv H locs ls hP hS (lv_sub hl [2, 1, 0] rfl)

set_option maxHeartbeats 4000000 in
set_option maxRecDepth 100000 in
theorem m_X2_inLeastTerms (l : Launch) (h_X2_commonDivisor : C_X2_commonDivisor l) (g : CX) (p0 : Int32) (p1 : Int32) (p2 : Int32) (Post : Int64 → Prop) (hv : vc_X2_inLeastTerms p0 p1 p2 Post) : Met l yX2_inLeastTerms wsX2_inLeastTerms { frames := 1, cells := 0, slots := 0, locals := 25 } (va_Pc [.int p0, .int p1, .int p2] (RO g [])) (va_Ql (fun r (_ : Unit) => Post r) (fun _ _ => True) A0) 0 0 A0 := by
  unfold vc_X2_inLeastTerms at hv
  refine Met.ofW (cc := cX2_inLeastTerms) (maxL := 4) (ret := (some .long)) (by decide) rfl ?_
  intro p e s m args below meth c s₁ B hml hv0
  obtain ⟨rfl, hP, hK, hE⟩ := hv0
  have hx := B.exec
  have hb := B.bytes
  have hr := B.returns
  have hts := atoms_spec (ws := wsX2_inLeastTerms) B.pre
  have hown : s.vm.findClass RX2 = some m.cls := findClass_of_methodNamed B.named
  have hlocks := B.notSynchronized
  have hS : va_S A0 s.heap s.heap [] := va_S.rf
  have hP : va_P (gD g) vwCl ([]) s.heap := hP
  have hl := lv_entry ([.int p0, .int p1, .int p2]) (n := 4) (Nat.le_of_ble_eq_true rfl)
  rw [lg_entry_eq]
  generalize (lg_sl ([.int p0, .int p1, .int p2]) ++ List.replicate (4 - (lg_sl ([.int p0, .int p1, .int p2])).length) Slot.unset).toArray = ls at hl ⊢
  have hl : lv_has ls 4 [(0, .int p0), (1, .int p1), (2, .int p2)] := hl
  obtain ⟨H, hH⟩ : ∃ z, z = s.heap := ⟨_, rfl⟩
  obtain ⟨locs, hL⟩ : ∃ z : List Loc, z = [] := ⟨_, rfl⟩
  rw [← hL] at hS ⊢
  have hS : va_S A0 s.heap H locs := by rw [hH]; exact hS
  rw [← hH] at hP ⊢
  clear hH hL
  refine lv_iload_n hx hb dX2_inLeastTerms_0 rfl (lv_at hl 0 rfl) ?_
  refine lv_if_le (tgt := 8) hx hb dX2_inLeastTerms_1 (by decide) (fun c1 => ?_) (fun c1 => ?_)
  · have hv := hv.1 c1
    refine lv_iload_n hx hb dX2_inLeastTerms_8 rfl (lv_at hl 2 rfl) ?_
    refine lv_if_ne (tgt := 16) hx hb dX2_inLeastTerms_9 (by decide) (fun c9 => ?_) (fun c9 => ?_)
    · have hv := hv.1 c9
      refine lv_lconst (v := 1) hx hb dX2_inLeastTerms_16 (by decide) ?_
      exact W.lret (v := 1) hx hb hr (fun t ht hW => ⟨⟨1, (), rfl, hv, trivial⟩, hS.F ht⟩) hS.2.2 dX2_inLeastTerms_17
    · have hv := hv.2 c9
      refine lv_lconst (v := 0) hx hb dX2_inLeastTerms_12 (by decide) ?_
      refine lv_goto (tgt := 17) hx hb dX2_inLeastTerms_13 (by decide) ?_
      exact W.lret (v := 0) hx hb hr (fun t ht hW => ⟨⟨0, (), rfl, hv, trivial⟩, hS.F ht⟩) hS.2.2 dX2_inLeastTerms_17
  · have hv := hv.2 c1
    refine lv_iload_n hx hb dX2_inLeastTerms_4 rfl (lv_at hl 1 rfl) ?_
    refine lv_if_gt (tgt := 18) hx hb dX2_inLeastTerms_5 (by decide) (fun c5 => ?_) (fun c5 => ?_)
    · have hv := hv.1 c5
      refine lv_iload_n hx hb dX2_inLeastTerms_18 rfl (lv_at hl 0 rfl) ?_
      refine lv_iload_n hx hb dX2_inLeastTerms_19 rfl (lv_at hl 1 rfl) ?_
      have h8 := hv.1
      have hv := hv.2
      have hPc : va_P (gD g) vwCl [] H := fun k q h => by simp at h
      refine ro_int (va_runS (As := [.int p0, .int p1]) (rest := []) ⟨hx, hb, hml, hown, hts⟩ (h_X2_commonDivisor g p0 p1 h8) (va_cwS 2 hts gX2_inLeastTerms_X2_commonDivisor rfl rfl rfl (by decide +kernel) ⟨Nat.le_of_ble_eq_true rfl, Nat.le_of_ble_eq_true rfl⟩) ⟨RO_blind, fun U hU hW => ⟨rfl, by rw [hU]; exact hPc, va_K.moved hW.alike hK, hE.call hW hU hS (fun _ h => h.elim)⟩⟩ rfl rfl hl.1 rfl (lv_room (Nat.le_of_ble_eq_true rfl)) dX2_inLeastTerms_20 ⟨Nat.le_of_ble_eq_true rfl, Nat.le_of_ble_eq_true rfl⟩) hS hP (fun r H locs hw hP hS => ?_)
      subst r
      refine lv_istore_n (lv' := [(3, .int (gcdI p0 p1)), (0, .int p0), (1, .int p1), (2, .int p2)]) hx hb dX2_inLeastTerms_23 rfl hl (by decide) rfl (fun ls hl => ?_)
      refine lv_iload_n hx hb dX2_inLeastTerms_24 rfl (lv_at hl 3 rfl) ?_
      refine lv_if_ne (tgt := 32) hx hb dX2_inLeastTerms_25 (by decide) (fun c25 => ?_) (fun c25 => ?_)
      · have hv := hv.1 c25
        refine lv_iload_n hx hb dX2_inLeastTerms_32 rfl (lv_at hl 2 rfl) ?_
        refine lv_iload_n hx hb dX2_inLeastTerms_33 rfl (lv_at hl 0 rfl) ?_
        have h0 := hv.1
        have hv := hv.2
        refine lv_idiv hx hb dX2_inLeastTerms_34 h0 ?_
        refine lv_i2l hx hb dX2_inLeastTerms_35 rfl ?_
        exact W.lret (v := ((p1 / (gcdI p0 p1))).toInt64) hx hb hr (fun t ht hW => ⟨⟨((p1 / (gcdI p0 p1))).toInt64, (), rfl, hv, trivial⟩, hS.F ht⟩) hS.2.2 dX2_inLeastTerms_36
      · have hv := hv.2 c25
        refine lv_iload_n hx hb dX2_inLeastTerms_28 rfl (lv_at hl 1 rfl) ?_
        refine lv_goto (tgt := 33) hx hb dX2_inLeastTerms_29 (by decide) ?_
        refine lv_iload_n hx hb dX2_inLeastTerms_33 rfl (lv_at hl 0 rfl) ?_
        have h0 := hv.1
        have hv := hv.2
        refine lv_idiv hx hb dX2_inLeastTerms_34 h0 ?_
        refine lv_i2l hx hb dX2_inLeastTerms_35 rfl ?_
        exact W.lret (v := ((p0 / (gcdI p0 p1))).toInt64) hx hb hr (fun t ht hW => ⟨⟨((p0 / (gcdI p0 p1))).toInt64, (), rfl, hv, trivial⟩, hS.F ht⟩) hS.2.2 dX2_inLeastTerms_36
    · have hv := hv.2 c5
      refine lv_iload_n hx hb dX2_inLeastTerms_8 rfl (lv_at hl 2 rfl) ?_
      refine lv_if_ne (tgt := 16) hx hb dX2_inLeastTerms_9 (by decide) (fun c9 => ?_) (fun c9 => ?_)
      · have hv := hv.1 c9
        refine lv_lconst (v := 1) hx hb dX2_inLeastTerms_16 (by decide) ?_
        exact W.lret (v := 1) hx hb hr (fun t ht hW => ⟨⟨1, (), rfl, hv, trivial⟩, hS.F ht⟩) hS.2.2 dX2_inLeastTerms_17
      · have hv := hv.2 c9
        refine lv_lconst (v := 0) hx hb dX2_inLeastTerms_12 (by decide) ?_
        refine lv_goto (tgt := 17) hx hb dX2_inLeastTerms_13 (by decide) ?_
        exact W.lret (v := 0) hx hb hr (fun t ht hW => ⟨⟨0, (), rfl, hv, trivial⟩, hS.F ht⟩) hS.2.2 dX2_inLeastTerms_17

set_option maxHeartbeats 4000000 in
set_option maxRecDepth 100000 in
theorem m_X2_drawOn (l : Launch)  (g : CX) (p0 : Int32) (Post : Int32 → Prop) (hv : vc_X2_drawOn p0 Post) : Met l yX2_drawOn wsX2_drawOn { frames := 0, cells := 0, slots := 0, locals := 0 } (va_Pc [.int p0] (RO g [])) (va_Qi (fun r (_ : Unit) => Post r) (fun _ _ => True) A0) 0 0 A0 := by
  unfold vc_X2_drawOn at hv
  refine Met.ofW (cc := cX2_drawOn) (maxL := 1) (ret := (some .int)) (by decide) rfl ?_
  intro p e s m args below meth c s₁ B hml hv0
  obtain ⟨rfl, hP, hK, hE⟩ := hv0
  have hx := B.exec
  have hb := B.bytes
  have hr := B.returns
  have hts := atoms_spec (ws := wsX2_drawOn) B.pre
  have hown : s.vm.findClass RX2 = some m.cls := findClass_of_methodNamed B.named
  have hlocks := B.notSynchronized
  have k0 := hts (.constant RX2 278 1664525) (by decide +kernel)
  have k1 := hts (.constant RX2 279 1013904223) (by decide +kernel)
  have hS : va_S A0 s.heap s.heap [] := va_S.rf
  have hP : va_P (gD g) vwCl ([]) s.heap := hP
  have hl := lv_entry ([.int p0]) (n := 1) (Nat.le_of_ble_eq_true rfl)
  rw [lg_entry_eq]
  generalize (lg_sl ([.int p0]) ++ List.replicate (1 - (lg_sl ([.int p0])).length) Slot.unset).toArray = ls at hl ⊢
  have hl : lv_has ls 1 [(0, .int p0)] := hl
  obtain ⟨H, hH⟩ : ∃ z, z = s.heap := ⟨_, rfl⟩
  obtain ⟨locs, hL⟩ : ∃ z : List Loc, z = [] := ⟨_, rfl⟩
  rw [← hL] at hS ⊢
  have hS : va_S A0 s.heap H locs := by rw [hH]; exact hS
  rw [← hH] at hP ⊢
  clear hH hL
  refine lv_iload_n hx hb dX2_drawOn_0 rfl (lv_at hl 0 rfl) ?_
  refine lv_ldcw hx hb hown k0 dX2_drawOn_1 ?_
  refine lv_imul hx hb dX2_drawOn_4 ?_
  refine lv_topi (fun z4 ez4 => ?_)
  have hv := hv z4 ez4
  refine lv_ldcw hx hb hown k1 dX2_drawOn_5 ?_
  refine lv_iadd hx hb dX2_drawOn_8 ?_
  refine lv_topi (fun z8 ez8 => ?_)
  have hv := hv z8 ez8
  exact W.iret (v := z8) hx hb hr (fun t ht hW => ⟨⟨z8, (), rfl, hv, trivial⟩, hS.F ht⟩) hS.2.2 dX2_drawOn_9

set_option maxHeartbeats 4000000 in
set_option maxRecDepth 100000 in
theorem m_X2_drawBelow (l : Launch)  (g : CX) (p0 : Int32) (p1 : Int32) (Post : Int32 → Prop) (hv : vc_X2_drawBelow p0 p1 Post) : Met l yX2_drawBelow wsX2_drawBelow { frames := 0, cells := 0, slots := 0, locals := 0 } (va_Pc [.int p0, .int p1] (RO g [])) (va_Qi (fun r (_ : Unit) => Post r) (fun _ _ => True) A0) 0 0 A0 := by
  unfold vc_X2_drawBelow at hv
  refine Met.ofW (cc := cX2_drawBelow) (maxL := 2) (ret := (some .int)) (by decide) rfl ?_
  intro p e s m args below meth c s₁ B hml hv0
  obtain ⟨rfl, hP, hK, hE⟩ := hv0
  have hx := B.exec
  have hb := B.bytes
  have hr := B.returns
  have hts := atoms_spec (ws := wsX2_drawBelow) B.pre
  have hown : s.vm.findClass RX2 = some m.cls := findClass_of_methodNamed B.named
  have hlocks := B.notSynchronized
  have k0 := hts (.constant RX2 280 2147483647) (by decide +kernel)
  have hS : va_S A0 s.heap s.heap [] := va_S.rf
  have hP : va_P (gD g) vwCl ([]) s.heap := hP
  have hl := lv_entry ([.int p0, .int p1]) (n := 2) (Nat.le_of_ble_eq_true rfl)
  rw [lg_entry_eq]
  generalize (lg_sl ([.int p0, .int p1]) ++ List.replicate (2 - (lg_sl ([.int p0, .int p1])).length) Slot.unset).toArray = ls at hl ⊢
  have hl : lv_has ls 2 [(0, .int p0), (1, .int p1)] := hl
  obtain ⟨H, hH⟩ : ∃ z, z = s.heap := ⟨_, rfl⟩
  obtain ⟨locs, hL⟩ : ∃ z : List Loc, z = [] := ⟨_, rfl⟩
  rw [← hL] at hS ⊢
  have hS : va_S A0 s.heap H locs := by rw [hH]; exact hS
  rw [← hH] at hP ⊢
  clear hH hL
  refine lv_iload_n hx hb dX2_drawBelow_0 rfl (lv_at hl 1 rfl) ?_
  refine lv_if_le (tgt := 18) hx hb dX2_drawBelow_1 (by decide) (fun c1 => ?_) (fun c1 => ?_)
  · have hv := hv.1 c1
    refine lv_iconst (v := 0) hx hb dX2_drawBelow_18 (by decide) ?_
    exact W.iret (v := 0) hx hb hr (fun t ht hW => ⟨⟨0, (), rfl, hv, trivial⟩, hS.F ht⟩) hS.2.2 dX2_drawBelow_19
  · have hv := hv.2 c1
    refine lv_iload_n hx hb dX2_drawBelow_4 rfl (lv_at hl 0 rfl) ?_
    refine lv_ldcw hx hb hown k0 dX2_drawBelow_5 ?_
    refine lv_iand hx hb dX2_drawBelow_8 ?_
    refine lv_topi (fun z8 ez8 => ?_)
    have hv := hv z8 ez8
    refine lv_sipush (v := 256) hx hb dX2_drawBelow_9 (by decide) ?_
    refine lv_idiv hx hb dX2_drawBelow_12 (by decide) ?_
    refine lv_iload_n hx hb dX2_drawBelow_13 rfl (lv_at hl 1 rfl) ?_
    have h0 := hv.1
    have hv := hv.2
    refine lv_irem hx hb dX2_drawBelow_14 h0 ?_
    refine lv_goto (tgt := 19) hx hb dX2_drawBelow_15 (by decide) ?_
    exact W.iret (v := ((z8 / 256) - (z8 / 256) / p1 * p1)) hx hb hr (fun t ht hW => ⟨⟨((z8 / 256) - (z8 / 256) / p1 * p1), (), rfl, hv, trivial⟩, hS.F ht⟩) hS.2.2 dX2_drawBelow_19

set_option maxHeartbeats 4000000 in
set_option maxRecDepth 100000 in
theorem m_X2_refused (l : Launch)  (g : CX) (ad : Nat → Nat) (σ : KX) (p0 : Int32) (Post : Int32 → KX → Prop) (hv : vc_X2_refused σ p0 Post) : Met l yX2_refused wsX2_refused { frames := 0, cells := 0, slots := 0, locals := 0 } (va_Pc [.ref (ad 0), .int p0] (RW g (AD ad 0 45) (wX g ad σ))) (va_Qi (fun (r : Int32) (u : KX) => Post r u) (fun u t => va_P (gD g) vwCl (wX g ad u) t.heap) (AD ad 0 45)) 0 0 (AD ad 0 45) := by
  unfold vc_X2_refused at hv
  refine Met.ofW (cc := cX2_refused) (maxL := 2) (ret := (some .int)) (by decide) rfl ?_
  intro p e s m args below meth c s₁ B hml hv0
  obtain ⟨rfl, hP, hK, hE, hD⟩ := hv0
  have hx := B.exec
  have hb := B.bytes
  have hr := B.returns
  have hts := atoms_spec (ws := wsX2_refused) B.pre
  have hown : s.vm.findClass RX2 = some m.cls := findClass_of_methodNamed B.named
  have hlocks := B.notSynchronized
  have hi2 : ∀ w ∈ wsX20, w ∈ wsX2_refused := by decide +kernel
  have k0 := hts (.fieldLink RX2 33 "JuryHearsAnswers" "refusals" "[I") (by decide +kernel)
  have hS : va_S (AD ad 0 45) s.heap s.heap [] := va_S.rf
  have hP : va_P (gD g) vwCl (wX g ad σ) s.heap := hP
  have hl := lv_entry ([.ref (ad 0), .int p0]) (n := 2) (Nat.le_of_ble_eq_true rfl)
  rw [lg_entry_eq]
  generalize (lg_sl ([.ref (ad 0), .int p0]) ++ List.replicate (2 - (lg_sl ([.ref (ad 0), .int p0])).length) Slot.unset).toArray = ls at hl ⊢
  have hl : lv_has ls 2 [(0, .ref (ad 0)), (1, .int p0)] := hl
  obtain ⟨H, hH⟩ : ∃ z, z = s.heap := ⟨_, rfl⟩
  obtain ⟨locs, hL⟩ : ∃ z : List Loc, z = [] := ⟨_, rfl⟩
  rw [← hL] at hS ⊢
  have hS : va_S (AD ad 0 45) s.heap H locs := by rw [hH]; exact hS
  rw [← hH] at hP ⊢
  clear hH hL
  refine lv_iload_n hx hb dX2_refused_0 rfl (lv_at hl 1 rfl) ?_
  refine lv_if_ge (tgt := 21) hx hb dX2_refused_1 (by decide) (fun c1 => ?_) (fun c1 => ?_)
  · have hv := hv.1 c1
    refine lv_iload_n hx hb dX2_refused_21 rfl (lv_at hl 1 rfl) ?_
    exact W.iret (v := p0) hx hb hr (fun t ht hW => ⟨⟨p0, σ, rfl, hv, P_at ht hP⟩, hS.F ht⟩) hS.2.2 dX2_refused_22
  · have hv := hv.2 c1
    refine lv_iload_n hx hb dX2_refused_4 rfl (lv_at hl 1 rfl) ?_
    refine lv_bipush (v := (-6)) hx hb dX2_refused_5 (by decide) ?_
    refine lv_icmp_lt (tgt := 21) hx hb dX2_refused_7 (by decide) (fun c7 => ?_) (fun c7 => ?_)
    · have hv := hv.1 c7
      refine lv_iload_n hx hb dX2_refused_21 rfl (lv_at hl 1 rfl) ?_
      exact W.iret (v := p0) hx hb hr (fun t ht hW => ⟨⟨p0, σ, rfl, hv, P_at ht hP⟩, hS.F ht⟩) hS.2.2 dX2_refused_22
    · have hv := hv.2 c7
      refine lv_aload_n hx hb dX2_refused_10 rfl (lv_at hl 0 rfl) ?_
      refine va_get (D := gD g) (ci := 2) (v := .ref (ad 2)) (C := RX2) (T := TX2) (N := 9) hx hb hts hi2 hown hK hP 0 rfl rfl 5 (by decide) k0 (fun _ h9 => h9) rfl dX2_refused_11 ?_
      refine lv_iload_n hx hb dX2_refused_14 rfl (lv_at hl 1 rfl) ?_
      refine lv_ineg hx hb dX2_refused_15 ?_
      refine lv_dup2_11 hx hb dX2_refused_16 rfl rfl ?_
      have h9 := hv.1
      have hv := hv.2
      refine va_iald (f := (xRefus σ)) (n := 7) hx hb hK hP 2 0 rfl rfl h9 dX2_refused_17 ?_
      refine lv_iconst (v := 1) hx hb dX2_refused_18 (by decide) ?_
      refine lv_iadd hx hb dX2_refused_19 ?_
      have h9 := hv.1
      have hv := hv.2
      refine va_iast (f := (xRefus σ)) (n := 7) hx hb hK hP hD hS 2 0 rfl rfl h9 dX2_refused_20 (fun H locs hP hD hS => ?_)
      have hP : va_P (gD g) vwCl (wX g ad ((xNow σ), (xTaken σ), (xTrial σ), (xScr σ), (xRow σ), (upd (xRefus σ) ((- p0)).toNatClampNeg (((xRefus σ) ((- p0)).toNatClampNeg) + 1)), (xKept σ), (xRowLen σ), (xIsTaken σ))) H := hP
      have hD : va_D (AD ad 0 45) (wX g ad ((xNow σ), (xTaken σ), (xTrial σ), (xScr σ), (xRow σ), (upd (xRefus σ) ((- p0)).toNatClampNeg (((xRefus σ) ((- p0)).toNatClampNeg) + 1)), (xKept σ), (xRowLen σ), (xIsTaken σ))) := hD
      refine lv_iload_n hx hb dX2_refused_21 rfl (lv_at hl 1 rfl) ?_
      exact W.iret (v := p0) hx hb hr (fun t ht hW => ⟨⟨p0, ((xNow σ), (xTaken σ), (xTrial σ), (xScr σ), (xRow σ), (upd (xRefus σ) ((- p0)).toNatClampNeg (((xRefus σ) ((- p0)).toNatClampNeg) + 1)), (xKept σ), (xRowLen σ), (xIsTaken σ)), rfl, hv, P_at ht hP⟩, hS.F ht⟩) hS.2.2 dX2_refused_22

set_option maxHeartbeats 4000000 in
set_option maxRecDepth 100000 in
theorem m_X2_longRefused (l : Launch) (h_X2_refused : C_X2_refused l) (g : CX) (ad : Nat → Nat) (σ : KX) (p0 : Int32) (Post : Int64 → KX → Prop) (hv : vc_X2_longRefused σ p0 Post) : Met l yX2_longRefused wsX2_longRefused { frames := 1, cells := 0, slots := 0, locals := 21 } (va_Pc [.ref (ad 0), .int p0] (RW g (AD ad 0 45) (wX g ad σ))) (va_Ql (fun (r : Int64) (u : KX) => Post r u) (fun u t => va_P (gD g) vwCl (wX g ad u) t.heap) (AD ad 0 45)) 0 0 (AD ad 0 45) := by
  unfold vc_X2_longRefused at hv
  refine Met.ofW (cc := cX2_longRefused) (maxL := 2) (ret := (some .long)) (by decide) rfl ?_
  intro p e s m args below meth c s₁ B hml hv0
  obtain ⟨rfl, hP, hK, hE, hD⟩ := hv0
  have hx := B.exec
  have hb := B.bytes
  have hr := B.returns
  have hts := atoms_spec (ws := wsX2_longRefused) B.pre
  have hown : s.vm.findClass RX2 = some m.cls := findClass_of_methodNamed B.named
  have hlocks := B.notSynchronized
  have k0 := hts (.constantLong RX2 228 4000000000000000000) (by decide +kernel)
  have hS : va_S (AD ad 0 45) s.heap s.heap [] := va_S.rf
  have hP : va_P (gD g) vwCl (wX g ad σ) s.heap := hP
  have hl := lv_entry ([.ref (ad 0), .int p0]) (n := 2) (Nat.le_of_ble_eq_true rfl)
  rw [lg_entry_eq]
  generalize (lg_sl ([.ref (ad 0), .int p0]) ++ List.replicate (2 - (lg_sl ([.ref (ad 0), .int p0])).length) Slot.unset).toArray = ls at hl ⊢
  have hl : lv_has ls 2 [(0, .ref (ad 0)), (1, .int p0)] := hl
  obtain ⟨H, hH⟩ : ∃ z, z = s.heap := ⟨_, rfl⟩
  obtain ⟨locs, hL⟩ : ∃ z : List Loc, z = [] := ⟨_, rfl⟩
  rw [← hL] at hS ⊢
  have hS : va_S (AD ad 0 45) s.heap H locs := by rw [hH]; exact hS
  rw [← hH] at hP ⊢
  clear hH hL
  refine lv_ldc2 hx hb hown k0 dX2_longRefused_0 ?_
  refine lv_aload_n hx hb dX2_longRefused_3 rfl (lv_at hl 0 rfl) ?_
  refine lv_iload_n hx hb dX2_longRefused_4 rfl (lv_at hl 1 rfl) ?_
  have h8 := hv.1
  have hv := hv.2
  have hPc := hP
  have hDc := hD
  refine rw_int (va_runV (As := [.int p0]) (rest := [.long 4000000000000000000]) ⟨hx, hb, hml, hown, hts⟩ (h_X2_refused g ad σ p0 h8) (cwV 1 hts gX2_longRefused_X2_refused rfl rfl rfl (by decide +kernel) ⟨Nat.le_of_ble_eq_true rfl, Nat.le_of_ble_eq_true rfl⟩) ⟨RW_blind, va_recv hK hP (ci := 2) (q0 := 0) rfl rfl, fun U hU hW => ⟨rfl, by rw [hU]; exact hPc, va_K.moved hW.alike hK, hE.call hW hU hS (fun _ h => h), hDc⟩⟩ rfl rfl hl.1 rfl (lv_room (Nat.le_of_ble_eq_true rfl)) dX2_longRefused_5 ⟨Nat.le_of_ble_eq_true rfl, Nat.le_of_ble_eq_true rfl⟩) hS (fun _ h => h) (fun r u H1 locs hw hP1 hk hS => ?_)
  obtain ⟨hw1, hw⟩ := hw; subst r; subst u
  have hP := hP1
  generalize H1 = H at hP hS ⊢
  have hP : va_P (gD g) vwCl (wX g ad ((xNow σ), (xTaken σ), (xTrial σ), (xScr σ), (xRow σ), (refuX (xRefus σ) p0), (xKept σ), (xRowLen σ), (xIsTaken σ))) H := hP
  have hD : va_D (AD ad 0 45) (wX g ad ((xNow σ), (xTaken σ), (xTrial σ), (xScr σ), (xRow σ), (refuX (xRefus σ) p0), (xKept σ), (xRowLen σ), (xIsTaken σ))) := hD.addr (by rfl)
  refine lv_i2l hx hb dX2_longRefused_8 rfl ?_
  refine lv_lsub hx hb dX2_longRefused_9 ?_
  exact W.lret (v := (4000000000000000000 - ((p0)).toInt64)) hx hb hr (fun t ht hW => ⟨⟨(4000000000000000000 - ((p0)).toInt64), ((xNow σ), (xTaken σ), (xTrial σ), (xScr σ), (xRow σ), (refuX (xRefus σ) p0), (xKept σ), (xRowLen σ), (xIsTaken σ)), rfl, hv, P_at ht hP⟩, hS.F ht⟩) hS.2.2 dX2_longRefused_10

set_option maxHeartbeats 4000000 in
set_option maxRecDepth 100000 in
theorem m_X2_worstLeft (l : Launch) (h_J13_bitCount_95d88 : C_J13_bitCount_95d88 l) (h_X0_saying : C_X0_saying l) (g : CX) (ad : Nat → Nat) (σ : KX) (p0 : Int64) (p1 : Int32) (p2 : Int32) (Post : Int32 → Prop) (hv : vc_X2_worstLeft σ p0 p1 p2 Post) : Met l yX2_worstLeft wsX2_worstLeft { frames := 3, cells := 0, slots := 0, locals := 70 } (va_Pc [.ref (ad 0), .long p0, .int p1, .int p2] (RO g (wX g ad σ))) (va_Qi (fun r (_ : Unit) => Post r) (fun _ _ => True) A0) 0 0 A0 := by
  unfold vc_X2_worstLeft at hv
  refine Met.ofW (cc := cX2_worstLeft) (maxL := 9) (ret := (some .int)) (by decide) rfl ?_
  intro p e s m args below meth c s₁ B hml hv0
  obtain ⟨rfl, hP, hK, hE⟩ := hv0
  have hx := B.exec
  have hb := B.bytes
  have hr := B.returns
  have hts := atoms_spec (ws := wsX2_worstLeft) B.pre
  have hown : s.vm.findClass RX2 = some m.cls := findClass_of_methodNamed B.named
  have hlocks := B.notSynchronized
  have hi0 : ∀ w ∈ wsX00, w ∈ wsX2_worstLeft := by decide +kernel
  have hi2 : ∀ w ∈ wsX20, w ∈ wsX2_worstLeft := by decide +kernel
  have k0 := hts (.fieldLink RX2 10 "JuryHearsAnswers" "now" "LJuryHearsAnswers$Court;") (by decide +kernel)
  have k1 := hts (.fieldLink RX2 90 "JuryHearsAnswers$Court" "asked" "I") (by decide +kernel)
  have k2 := hts (.methodLink RX2 254 Lib.Math.max.name) (by decide +kernel)
  have k3 := hts (.static Lib.Math.max.name) (by decide +kernel)
  have k4 := hts (.initialized "java/lang/Math") (by decide +kernel)
  have k5 := hts (.code Lib.Math.max.name Lib.Math.max.code 2 (some .int)) (by decide +kernel)
  have hS : va_S A0 s.heap s.heap [] := va_S.rf
  have hP : va_P (gD g) vwCl (wX g ad σ) s.heap := hP
  have hl := lv_entry ([.ref (ad 0), .long p0, .int p1, .int p2]) (n := 9) (Nat.le_of_ble_eq_true rfl)
  rw [lg_entry_eq]
  generalize (lg_sl ([.ref (ad 0), .long p0, .int p1, .int p2]) ++ List.replicate (9 - (lg_sl ([.ref (ad 0), .long p0, .int p1, .int p2])).length) Slot.unset).toArray = ls at hl ⊢
  have hl : lv_has ls 9 [(0, .ref (ad 0)), (1, .long p0), (3, .int p1), (4, .int p2)] := hl
  have hv := hv (fun (x5 : Int32) (x6 : Int32) => ∀ (H : Heap) (locs : List Loc) (ls : Array Slot), va_P (gD g) vwCl (wX g ad σ) H → va_S A0 s.heap H locs → lv_has ls 9 [(0, .ref (ad 0)), (1, .long p0), (3, .int p1), (4, .int p2), (5, .int x5), (6, .int x6)] → W p l e { frames := 3, cells := 0, slots := 0, locals := 70 } s m ([.ref (ad 0), .long p0, .int p1, .int p2] : List Value).toArray below meth c H locs 0 0 (MQ below (va_Qi (fun r (_ : Unit) => Post r) (fun _ _ => True) A0) ([.ref (ad 0), .long p0, .int p1, .int p2] : List Value).toArray s 0 0 A0) (F0 m 6 ls []))
  have hv := hv (by
    intro x5 x6 hv H locs ls hP hS hl
    refine lv_iload hx hb dX2_worstLeft_6 (lv_at hl 5 rfl) ?_
    refine lv_iconst (v := 3) hx hb dX2_worstLeft_8 (by decide) ?_
    refine lv_icmp_ge (tgt := 55) hx hb dX2_worstLeft_9 (by decide) (fun c9 => ?_) (fun c9 => ?_)
    · have hv := hv.1 c9
      refine lv_iload hx hb dX2_worstLeft_55 (lv_at hl 4 rfl) ?_
      exact W.iret (v := x5) hx hb hr (fun t ht hW => ⟨⟨x5, (), rfl, hv, trivial⟩, hS.F ht⟩) hS.2.2 dX2_worstLeft_57
    · have hv := hv.2 c9
      refine lv_aload_n hx hb dX2_worstLeft_12 rfl (lv_at hl 0 rfl) ?_
      refine va_get (D := gD g) (ci := 2) (v := .ref (ad 4)) (C := RX2) (T := TX2) (N := 9) hx hb hts hi2 hown hK hP 0 rfl rfl 0 (by decide) k0 (fun _ h9 => h9) rfl dX2_worstLeft_13 ?_
      refine lv_iload_n hx hb dX2_worstLeft_16 rfl (lv_at hl 2 rfl) ?_
      refine lv_iload hx hb dX2_worstLeft_17 (lv_at hl 3 rfl) ?_
      refine lv_aload_n hx hb dX2_worstLeft_19 rfl (lv_at hl 0 rfl) ?_
      refine va_get (D := gD g) (ci := 2) (v := .ref (ad 4)) (C := RX2) (T := TX2) (N := 9) hx hb hts hi2 hown hK hP 0 rfl rfl 0 (by decide) k0 (fun _ h9 => h9) rfl dX2_worstLeft_20 ?_
      refine va_get (D := gD g) (ci := 0) (v := .int (sAsked (cS (xNow σ)))) (C := RX0) (T := TX0) (N := 17) hx hb hts hi0 hown hK hP 4 rfl rfl 1 (by decide) k1 (fun _ h9 => h9) rfl dX2_worstLeft_23 ?_
      refine lv_iconst (v := 1) hx hb dX2_worstLeft_26 (by decide) ?_
      refine lv_iadd hx hb dX2_worstLeft_27 ?_
      refine lv_iload hx hb dX2_worstLeft_28 (lv_at hl 5 rfl) ?_
      have h8 := hv.1
      have hv := hv.2
      have hPc : va_P (gD g) vwCl (wC g ad 4 (xNow σ)) H := hP.sub [4, 5, 6, 7, 8, 9, 10, 11, 12, 13, 14, 15, 16] rfl
      refine ro_long (va_runV (As := [.int p1, .int p2, .int ((sAsked (cS (xNow σ))) + 1), .int x6]) (rest := []) ⟨hx, hb, hml, hown, hts⟩ (h_X0_saying g ad 4 (xNow σ) p1 p2 ((sAsked (cS (xNow σ))) + 1) x6 h8) (cwV 4 hts gX2_worstLeft_X0_saying rfl rfl rfl (by decide +kernel) ⟨Nat.le_of_ble_eq_true rfl, Nat.le_of_ble_eq_true rfl⟩) ⟨RO_blind, va_recv hK hP (ci := 0) (q0 := 4) rfl rfl, fun U hU hW => ⟨rfl, by rw [hU]; exact hPc, va_K.moved hW.alike hK, hE.call hW hU hS (fun _ h => h.elim)⟩⟩ rfl rfl hl.1 rfl (lv_room (Nat.le_of_ble_eq_true rfl)) dX2_worstLeft_30 ⟨Nat.le_of_ble_eq_true rfl, Nat.le_of_ble_eq_true rfl⟩) hS hP (fun r H locs hw hP hS => ?_)
      subst r
      refine lv_lstore (lv' := [(7, .long (sayingL (xNow σ) p1 p2 ((sAsked (cS (xNow σ))) + 1) x6)), (0, .ref (ad 0)), (1, .long p0), (3, .int p1), (4, .int p2), (5, .int x5), (6, .int x6)]) hx hb dX2_worstLeft_33 hl (by decide) rfl (fun ls hl => ?_)
      refine lv_iload hx hb dX2_worstLeft_35 (lv_at hl 5 rfl) ?_
      refine lv_lload_n hx hb dX2_worstLeft_37 rfl (lv_at hl 2 rfl) ?_
      refine lv_lload hx hb dX2_worstLeft_38 (lv_at hl 0 rfl) ?_
      refine lv_land hx hb dX2_worstLeft_40 ?_
      have hPc : va_P (gD g) vwCl [] H := fun k q h => by simp at h
      refine ro_int (va_runS (As := [.long (p0 &&& (sayingL (xNow σ) p1 p2 ((sAsked (cS (xNow σ))) + 1) x6))]) (rest := [.int x5]) ⟨hx, hb, hml, hown, hts⟩ (h_J13_bitCount_95d88 g (p0 &&& (sayingL (xNow σ) p1 p2 ((sAsked (cS (xNow σ))) + 1) x6))) (va_cwS 1 hts gX2_worstLeft_J13_bitCount_95d88 rfl rfl rfl (by decide +kernel) ⟨Nat.le_of_ble_eq_true rfl, Nat.le_of_ble_eq_true rfl⟩) ⟨RO_blind, fun U hU hW => ⟨rfl, by rw [hU]; exact hPc, va_K.moved hW.alike hK, hE.call hW hU hS (fun _ h => h.elim)⟩⟩ rfl rfl hl.1 rfl (lv_room (Nat.le_of_ble_eq_true rfl)) dX2_worstLeft_41 ⟨Nat.le_of_ble_eq_true rfl, Nat.le_of_ble_eq_true rfl⟩) hS hP (fun r H locs hw hP hS => ?_)
      subst r
      refine va_mmax hx hb (hml.trans hl.1.symm) hown k2 k3 k4 k5 (Nat.le_of_ble_eq_true rfl) (Nat.le_of_ble_eq_true rfl) (Nat.le_refl _) (Nat.le_refl _) dX2_worstLeft_44 ?_
      refine lv_istore (lv' := [(5, .int (jmax x5 (popc (p0 &&& (sayingL (xNow σ) p1 p2 ((sAsked (cS (xNow σ))) + 1) x6))))), (7, .long (sayingL (xNow σ) p1 p2 ((sAsked (cS (xNow σ))) + 1) x6)), (0, .ref (ad 0)), (1, .long p0), (3, .int p1), (4, .int p2), (6, .int x6)]) hx hb dX2_worstLeft_47 hl (by decide) rfl (fun ls hl => ?_)
      refine lv_iinc (v := (x6 + 1)) (lv' := [(6, .int (x6 + 1)), (5, .int (jmax x5 (popc (p0 &&& (sayingL (xNow σ) p1 p2 ((sAsked (cS (xNow σ))) + 1) x6))))), (7, .long (sayingL (xNow σ) p1 p2 ((sAsked (cS (xNow σ))) + 1) x6)), (0, .ref (ad 0)), (1, .long p0), (3, .int p1), (4, .int p2)]) hx hb dX2_worstLeft_49 hl (k := 6) rfl (by first | rfl | exact congrArg _ (by decide)) (by decide) rfl (fun ls hl => ?_)
      refine lv_goto (tgt := 6) hx hb dX2_worstLeft_52 (by decide) ?_
      exact hv H locs ls hP hS (lv_sub hl [3, 4, 5, 6, 1, 0] rfl))
  obtain ⟨H, hH⟩ : ∃ z, z = s.heap := ⟨_, rfl⟩
  obtain ⟨locs, hL⟩ : ∃ z : List Loc, z = [] := ⟨_, rfl⟩
  rw [← hL] at hS ⊢
  have hS : va_S A0 s.heap H locs := by rw [hH]; exact hS
  rw [← hH] at hP ⊢
  clear hH hL
  refine lv_iconst (v := 0) hx hb dX2_worstLeft_0 (by decide) ?_
  refine lv_istore (lv' := [(5, .int 0), (0, .ref (ad 0)), (1, .long p0), (3, .int p1), (4, .int p2)]) hx hb dX2_worstLeft_1 hl (by decide) rfl (fun ls hl => ?_)
  refine lv_iconst (v := 0) hx hb dX2_worstLeft_3 (by decide) ?_
  refine lv_istore (lv' := [(6, .int 0), (5, .int 0), (0, .ref (ad 0)), (1, .long p0), (3, .int p1), (4, .int p2)]) hx hb dX2_worstLeft_4 hl (by decide) rfl (fun ls hl => ?_)
  exact hv H locs ls hP hS (lv_sub hl [2, 3, 4, 5, 1, 0] rfl)

set_option maxHeartbeats 4000000 in
set_option maxRecDepth 100000 in
theorem m_X2_bestAsking (l : Launch) (h_X0_fitting : C_X0_fitting l) (h_X2_worstLeft : C_X2_worstLeft l) (g : CX) (ad : Nat → Nat) (σ : KX) (p0 : Int32) (Post : Int32 → Prop) (hv : vc_X2_bestAsking σ p0 Post) : Met l yX2_bestAsking wsX2_bestAsking { frames := 5, cells := 0, slots := 0, locals := 114 } (va_Pc [.ref (ad 0), .int p0] (RO g (wX g ad σ))) (va_Qi (fun r (_ : Unit) => Post r) (fun _ _ => True) A0) 0 0 A0 := by
  unfold vc_X2_bestAsking at hv
  refine Met.ofW (cc := cX2_bestAsking) (maxL := 9) (ret := (some .int)) (by decide) rfl ?_
  intro p e s m args below meth c s₁ B hml hv0
  obtain ⟨rfl, hP, hK, hE⟩ := hv0
  have hx := B.exec
  have hb := B.bytes
  have hr := B.returns
  have hts := atoms_spec (ws := wsX2_bestAsking) B.pre
  have hown : s.vm.findClass RX2 = some m.cls := findClass_of_methodNamed B.named
  have hlocks := B.notSynchronized
  have hi0 : ∀ w ∈ wsX00, w ∈ wsX2_bestAsking := by decide +kernel
  have hi2 : ∀ w ∈ wsX20, w ∈ wsX2_bestAsking := by decide +kernel
  have k0 := hts (.fieldLink RX2 10 "JuryHearsAnswers" "now" "LJuryHearsAnswers$Court;") (by decide +kernel)
  have k1 := hts (.fieldLink RX2 152 "JuryHearsAnswers$Court" "witnesses" "I") (by decide +kernel)
  have k2 := hts (.fieldLink RX2 179 "JuryHearsAnswers$Court" "questions" "I") (by decide +kernel)
  have hS : va_S A0 s.heap s.heap [] := va_S.rf
  have hP : va_P (gD g) vwCl (wX g ad σ) s.heap := hP
  have hl := lv_entry ([.ref (ad 0), .int p0]) (n := 9) (Nat.le_of_ble_eq_true rfl)
  rw [lg_entry_eq]
  generalize (lg_sl ([.ref (ad 0), .int p0]) ++ List.replicate (9 - (lg_sl ([.ref (ad 0), .int p0])).length) Slot.unset).toArray = ls at hl ⊢
  have hl : lv_has ls 9 [(0, .ref (ad 0)), (1, .int p0)] := hl
  have hv := hv (fun (x2 : Int64) (x4 : Int32) (x5 : Int32) (x6 : Int32) => ∀ (H : Heap) (locs : List Loc) (ls : Array Slot), va_P (gD g) vwCl (wX g ad σ) H → va_S A0 s.heap H locs → lv_has ls 9 [(0, .ref (ad 0)), (1, .int p0), (2, .long x2), (4, .int x4), (5, .int x5), (6, .int x6)] → W p l e { frames := 5, cells := 0, slots := 0, locals := 114 } s m ([.ref (ad 0), .int p0] : List Value).toArray below meth c H locs 0 0 (MQ below (va_Qi (fun r (_ : Unit) => Post r) (fun _ _ => True) A0) ([.ref (ad 0), .int p0] : List Value).toArray s 0 0 A0) (F0 m 19 ls []))
  have hv := hv (fun (x2 : Int64) (x4 : Int32) (x5 : Int32) (x6 : Int32) (x7 : Int32) => ∀ (H : Heap) (locs : List Loc) (ls : Array Slot), va_P (gD g) vwCl (wX g ad σ) H → va_S A0 s.heap H locs → lv_has ls 9 [(0, .ref (ad 0)), (1, .int p0), (2, .long x2), (4, .int x4), (5, .int x5), (6, .int x6), (7, .int x7)] → W p l e { frames := 5, cells := 0, slots := 0, locals := 114 } s m ([.ref (ad 0), .int p0] : List Value).toArray below meth c H locs 0 0 (MQ below (va_Qi (fun r (_ : Unit) => Post r) (fun _ _ => True) A0) ([.ref (ad 0), .int p0] : List Value).toArray s 0 0 A0) (F0 m 34 ls []))
  have hv := hv (by
    intro x2 x4 x5 x6 hv H locs ls hP hS hl
    refine lv_iload hx hb dX2_bestAsking_19 (lv_at hl 5 rfl) ?_
    refine lv_aload_n hx hb dX2_bestAsking_21 rfl (lv_at hl 0 rfl) ?_
    refine va_get (D := gD g) (ci := 2) (v := .ref (ad 4)) (C := RX2) (T := TX2) (N := 9) hx hb hts hi2 hown hK hP 0 rfl rfl 0 (by decide) k0 (fun _ h9 => h9) rfl dX2_bestAsking_22 ?_
    refine va_get (D := gD g) (ci := 0) (v := .int (sNw (cS (xNow σ)))) (C := RX0) (T := TX0) (N := 17) hx hb hts hi0 hown hK hP 4 rfl rfl 3 (by decide) k1 (fun _ h9 => h9) rfl dX2_bestAsking_25 ?_
    refine lv_icmp_ge (tgt := 97) hx hb dX2_bestAsking_28 (by decide) (fun c28 => ?_) (fun c28 => ?_)
    · have hv := hv.1 c28
      refine lv_iload_n hx hb dX2_bestAsking_97 rfl (lv_at hl 1 rfl) ?_
      refine lv_if_ne (tgt := 106) hx hb dX2_bestAsking_98 (by decide) (fun c98 => ?_) (fun c98 => ?_)
      · have hv := hv.1 c98
        refine lv_iload hx hb dX2_bestAsking_106 (lv_at hl 4 rfl) ?_
        exact W.iret (v := x5) hx hb hr (fun t ht hW => ⟨⟨x5, (), rfl, hv, trivial⟩, hS.F ht⟩) hS.2.2 dX2_bestAsking_108
      · have hv := hv.2 c98
        refine lv_iload hx hb dX2_bestAsking_101 (lv_at hl 3 rfl) ?_
        refine lv_goto (tgt := 108) hx hb dX2_bestAsking_103 (by decide) ?_
        exact W.iret (v := x4) hx hb hr (fun t ht hW => ⟨⟨x4, (), rfl, hv, trivial⟩, hS.F ht⟩) hS.2.2 dX2_bestAsking_108
    · have hv := hv.2 c28
      refine lv_iconst (v := 0) hx hb dX2_bestAsking_31 (by decide) ?_
      refine lv_istore (lv' := [(7, .int 0), (0, .ref (ad 0)), (1, .int p0), (2, .long x2), (4, .int x4), (5, .int x5), (6, .int x6)]) hx hb dX2_bestAsking_32 hl (by decide) rfl (fun ls hl => ?_)
      exact hv H locs ls hP hS (lv_sub hl [1, 2, 3, 4, 5, 6, 0] rfl))
  have hv := hv (by
    intro x2 x4 x5 x6 x7 hv H locs ls hP hS hl
    refine lv_iload hx hb dX2_bestAsking_34 (lv_at hl 6 rfl) ?_
    refine lv_aload_n hx hb dX2_bestAsking_36 rfl (lv_at hl 0 rfl) ?_
    refine va_get (D := gD g) (ci := 2) (v := .ref (ad 4)) (C := RX2) (T := TX2) (N := 9) hx hb hts hi2 hown hK hP 0 rfl rfl 0 (by decide) k0 (fun _ h9 => h9) rfl dX2_bestAsking_37 ?_
    refine va_get (D := gD g) (ci := 0) (v := .int (sNq (cS (xNow σ)))) (C := RX0) (T := TX0) (N := 17) hx hb hts hi0 hown hK hP 4 rfl rfl 2 (by decide) k2 (fun _ h9 => h9) rfl dX2_bestAsking_40 ?_
    refine lv_icmp_ge (tgt := 91) hx hb dX2_bestAsking_43 (by decide) (fun c43 => ?_) (fun c43 => ?_)
    · have hv := hv.1 c43
      refine lv_iinc (v := (x6 + 1)) (lv' := [(6, .int (x6 + 1)), (0, .ref (ad 0)), (1, .int p0), (2, .long x2), (4, .int x4), (5, .int x5), (7, .int x7)]) hx hb dX2_bestAsking_91 hl (k := 5) rfl (by first | rfl | exact congrArg _ (by decide)) (by decide) rfl (fun ls hl => ?_)
      refine lv_goto (tgt := 19) hx hb dX2_bestAsking_94 (by decide) ?_
      exact hv H locs ls hP hS (lv_sub hl [1, 2, 3, 4, 5, 0] rfl)
    · have hv := hv.2 c43
      refine lv_aload_n hx hb dX2_bestAsking_46 rfl (lv_at hl 0 rfl) ?_
      refine lv_lload_n hx hb dX2_bestAsking_47 rfl (lv_at hl 2 rfl) ?_
      refine lv_iload hx hb dX2_bestAsking_48 (lv_at hl 5 rfl) ?_
      refine lv_iload hx hb dX2_bestAsking_50 (lv_at hl 6 rfl) ?_
      have h8 := hv.1
      have hv := hv.2
      have hPc := hP
      refine ro_int (va_runV (As := [.long x2, .int x6, .int x7]) (rest := []) ⟨hx, hb, hml, hown, hts⟩ (h_X2_worstLeft g ad σ x2 x6 x7 h8) (cwV 3 hts gX2_bestAsking_X2_worstLeft rfl rfl rfl (by decide +kernel) ⟨Nat.le_of_ble_eq_true rfl, Nat.le_of_ble_eq_true rfl⟩) ⟨RO_blind, va_recv hK hP (ci := 2) (q0 := 0) rfl rfl, fun U hU hW => ⟨rfl, by rw [hU]; exact hPc, va_K.moved hW.alike hK, hE.call hW hU hS (fun _ h => h.elim)⟩⟩ rfl rfl hl.1 rfl (lv_room (Nat.le_of_ble_eq_true rfl)) dX2_bestAsking_52 ⟨Nat.le_of_ble_eq_true rfl, Nat.le_of_ble_eq_true rfl⟩) hS hP (fun r H locs hw hP hS => ?_)
      subst r
      refine lv_istore (lv' := [(8, .int (worstX (xNow σ) x2 x6 x7)), (0, .ref (ad 0)), (1, .int p0), (2, .long x2), (4, .int x4), (5, .int x5), (6, .int x6), (7, .int x7)]) hx hb dX2_bestAsking_55 hl (by decide) rfl (fun ls hl => ?_)
      refine lv_iload hx hb dX2_bestAsking_57 (lv_at hl 4 rfl) ?_
      refine lv_bipush (v := (-9)) hx hb dX2_bestAsking_59 (by decide) ?_
      refine lv_icmp_eq (tgt := 71) hx hb dX2_bestAsking_61 (by decide) (fun c61 => ?_) (fun c61 => ?_)
      · have hv := hv.1 c61
        refine lv_bipush (v := 10) hx hb dX2_bestAsking_71 (by decide) ?_
        refine lv_iload hx hb dX2_bestAsking_73 (lv_at hl 6 rfl) ?_
        refine lv_imul hx hb dX2_bestAsking_75 ?_
        refine lv_iload hx hb dX2_bestAsking_76 (lv_at hl 7 rfl) ?_
        refine lv_iadd hx hb dX2_bestAsking_78 ?_
        refine lv_istore (lv' := [(4, .int ((10 * x6) + x7)), (8, .int (worstX (xNow σ) x2 x6 x7)), (0, .ref (ad 0)), (1, .int p0), (2, .long x2), (5, .int x5), (6, .int x6), (7, .int x7)]) hx hb dX2_bestAsking_79 hl (by decide) rfl (fun ls hl => ?_)
        refine lv_iload hx hb dX2_bestAsking_81 (lv_at hl 1 rfl) ?_
        refine lv_istore (lv' := [(5, .int (worstX (xNow σ) x2 x6 x7)), (4, .int ((10 * x6) + x7)), (8, .int (worstX (xNow σ) x2 x6 x7)), (0, .ref (ad 0)), (1, .int p0), (2, .long x2), (6, .int x6), (7, .int x7)]) hx hb dX2_bestAsking_83 hl (by decide) rfl (fun ls hl => ?_)
        refine lv_iinc (v := (x7 + 1)) (lv' := [(7, .int (x7 + 1)), (5, .int (worstX (xNow σ) x2 x6 x7)), (4, .int ((10 * x6) + x7)), (8, .int (worstX (xNow σ) x2 x6 x7)), (0, .ref (ad 0)), (1, .int p0), (2, .long x2), (6, .int x6)]) hx hb dX2_bestAsking_85 hl (k := 7) rfl (by first | rfl | exact congrArg _ (by decide)) (by decide) rfl (fun ls hl => ?_)
        refine lv_goto (tgt := 34) hx hb dX2_bestAsking_88 (by decide) ?_
        exact hv H locs ls hP hS (lv_sub hl [4, 5, 6, 2, 1, 7, 0] rfl)
      · have hv := hv.2 c61
        refine lv_iload hx hb dX2_bestAsking_64 (lv_at hl 0 rfl) ?_
        refine lv_iload hx hb dX2_bestAsking_66 (lv_at hl 5 rfl) ?_
        refine lv_icmp_ge (tgt := 85) hx hb dX2_bestAsking_68 (by decide) (fun c68 => ?_) (fun c68 => ?_)
        · have hv := hv.1 c68
          refine lv_iinc (v := (x7 + 1)) (lv' := [(7, .int (x7 + 1)), (8, .int (worstX (xNow σ) x2 x6 x7)), (0, .ref (ad 0)), (1, .int p0), (2, .long x2), (4, .int x4), (5, .int x5), (6, .int x6)]) hx hb dX2_bestAsking_85 hl (k := 7) rfl (by first | rfl | exact congrArg _ (by decide)) (by decide) rfl (fun ls hl => ?_)
          refine lv_goto (tgt := 34) hx hb dX2_bestAsking_88 (by decide) ?_
          exact hv H locs ls hP hS (lv_sub hl [2, 3, 4, 5, 6, 7, 0] rfl)
        · have hv := hv.2 c68
          refine lv_bipush (v := 10) hx hb dX2_bestAsking_71 (by decide) ?_
          refine lv_iload hx hb dX2_bestAsking_73 (lv_at hl 6 rfl) ?_
          refine lv_imul hx hb dX2_bestAsking_75 ?_
          refine lv_iload hx hb dX2_bestAsking_76 (lv_at hl 7 rfl) ?_
          refine lv_iadd hx hb dX2_bestAsking_78 ?_
          refine lv_istore (lv' := [(4, .int ((10 * x6) + x7)), (8, .int (worstX (xNow σ) x2 x6 x7)), (0, .ref (ad 0)), (1, .int p0), (2, .long x2), (5, .int x5), (6, .int x6), (7, .int x7)]) hx hb dX2_bestAsking_79 hl (by decide) rfl (fun ls hl => ?_)
          refine lv_iload hx hb dX2_bestAsking_81 (lv_at hl 1 rfl) ?_
          refine lv_istore (lv' := [(5, .int (worstX (xNow σ) x2 x6 x7)), (4, .int ((10 * x6) + x7)), (8, .int (worstX (xNow σ) x2 x6 x7)), (0, .ref (ad 0)), (1, .int p0), (2, .long x2), (6, .int x6), (7, .int x7)]) hx hb dX2_bestAsking_83 hl (by decide) rfl (fun ls hl => ?_)
          refine lv_iinc (v := (x7 + 1)) (lv' := [(7, .int (x7 + 1)), (5, .int (worstX (xNow σ) x2 x6 x7)), (4, .int ((10 * x6) + x7)), (8, .int (worstX (xNow σ) x2 x6 x7)), (0, .ref (ad 0)), (1, .int p0), (2, .long x2), (6, .int x6)]) hx hb dX2_bestAsking_85 hl (k := 7) rfl (by first | rfl | exact congrArg _ (by decide)) (by decide) rfl (fun ls hl => ?_)
          refine lv_goto (tgt := 34) hx hb dX2_bestAsking_88 (by decide) ?_
          exact hv H locs ls hP hS (lv_sub hl [4, 5, 6, 2, 1, 7, 0] rfl))
  obtain ⟨H, hH⟩ : ∃ z, z = s.heap := ⟨_, rfl⟩
  obtain ⟨locs, hL⟩ : ∃ z : List Loc, z = [] := ⟨_, rfl⟩
  rw [← hL] at hS ⊢
  have hS : va_S A0 s.heap H locs := by rw [hH]; exact hS
  rw [← hH] at hP ⊢
  clear hH hL
  refine lv_aload_n hx hb dX2_bestAsking_0 rfl (lv_at hl 0 rfl) ?_
  refine va_get (D := gD g) (ci := 2) (v := .ref (ad 4)) (C := RX2) (T := TX2) (N := 9) hx hb hts hi2 hown hK hP 0 rfl rfl 0 (by decide) k0 (fun _ h9 => h9) rfl dX2_bestAsking_1 ?_
  have h8 := hv.1
  have hv := hv.2
  have hPc : va_P (gD g) vwCl (wC g ad 4 (xNow σ)) H := hP.sub [4, 5, 6, 7, 8, 9, 10, 11, 12, 13, 14, 15, 16] rfl
  refine ro_long (va_runV (As := []) (rest := []) ⟨hx, hb, hml, hown, hts⟩ (h_X0_fitting g ad 4 (xNow σ) h8) (cwV 0 hts gX2_bestAsking_X0_fitting rfl rfl rfl (by decide +kernel) ⟨Nat.le_of_ble_eq_true rfl, Nat.le_of_ble_eq_true rfl⟩) ⟨RO_blind, va_recv hK hP (ci := 0) (q0 := 4) rfl rfl, fun U hU hW => ⟨rfl, by rw [hU]; exact hPc, va_K.moved hW.alike hK, hE.call hW hU hS (fun _ h => h.elim)⟩⟩ rfl rfl hl.1 rfl (lv_room (Nat.le_of_ble_eq_true rfl)) dX2_bestAsking_4 ⟨Nat.le_of_ble_eq_true rfl, Nat.le_of_ble_eq_true rfl⟩) hS hP (fun r H locs hw hP hS => ?_)
  subst r
  refine lv_lstore_n (lv' := [(2, .long (fittingL (xNow σ))), (0, .ref (ad 0)), (1, .int p0)]) hx hb dX2_bestAsking_7 rfl hl (by decide) rfl (fun ls hl => ?_)
  refine lv_bipush (v := (-9)) hx hb dX2_bestAsking_8 (by decide) ?_
  refine lv_istore (lv' := [(4, .int (-9)), (2, .long (fittingL (xNow σ))), (0, .ref (ad 0)), (1, .int p0)]) hx hb dX2_bestAsking_10 hl (by decide) rfl (fun ls hl => ?_)
  refine lv_bipush (v := (-9)) hx hb dX2_bestAsking_12 (by decide) ?_
  refine lv_istore (lv' := [(5, .int (-9)), (4, .int (-9)), (2, .long (fittingL (xNow σ))), (0, .ref (ad 0)), (1, .int p0)]) hx hb dX2_bestAsking_14 hl (by decide) rfl (fun ls hl => ?_)
  refine lv_iconst (v := 0) hx hb dX2_bestAsking_16 (by decide) ?_
  refine lv_istore (lv' := [(6, .int 0), (5, .int (-9)), (4, .int (-9)), (2, .long (fittingL (xNow σ))), (0, .ref (ad 0)), (1, .int p0)]) hx hb dX2_bestAsking_17 hl (by decide) rfl (fun ls hl => ?_)
  exact hv H locs ls hP hS (lv_sub hl [4, 5, 3, 2, 1, 0] rfl)

set_option maxHeartbeats 4000000 in
set_option maxRecDepth 100000 in
theorem m_X2_fillKept (l : Launch) (h_X0_keeping : C_X0_keeping l) (g : CX) (ad : Nat → Nat) (σ : KX) (p0 : Int32) (Post : KX → Prop) (hv : vc_X2_fillKept σ p0 Post) : Met l yX2_fillKept wsX2_fillKept { frames := 4, cells := 0, slots := 0, locals := 93 } (va_Pc [.ref (ad 0), .int p0] (RW g (AD ad 0 45) (wX g ad σ))) (va_Qv (fun (u : KX) => Post u) (fun u t => va_P (gD g) vwCl (wX g ad u) t.heap) (AD ad 0 45)) 0 0 (AD ad 0 45) := by
  unfold vc_X2_fillKept at hv
  refine Met.ofW (cc := cX2_fillKept) (maxL := 4) (ret := none) (by decide) rfl ?_
  intro p e s m args below meth c s₁ B hml hv0
  obtain ⟨rfl, hP, hK, hE, hD⟩ := hv0
  have hx := B.exec
  have hb := B.bytes
  have hr := B.returns
  have hts := atoms_spec (ws := wsX2_fillKept) B.pre
  have hown : s.vm.findClass RX2 = some m.cls := findClass_of_methodNamed B.named
  have hlocks := B.notSynchronized
  have hi0 : ∀ w ∈ wsX00, w ∈ wsX2_fillKept := by decide +kernel
  have hi2 : ∀ w ∈ wsX20, w ∈ wsX2_fillKept := by decide +kernel
  have k0 := hts (.fieldLink RX2 10 "JuryHearsAnswers" "now" "LJuryHearsAnswers$Court;") (by decide +kernel)
  have k1 := hts (.fieldLink RX2 179 "JuryHearsAnswers$Court" "questions" "I") (by decide +kernel)
  have k2 := hts (.fieldLink RX2 36 "JuryHearsAnswers" "kept" "[J") (by decide +kernel)
  have k3 := hts (.fieldLink RX2 90 "JuryHearsAnswers$Court" "asked" "I") (by decide +kernel)
  have hS : va_S (AD ad 0 45) s.heap s.heap [] := va_S.rf
  have hP : va_P (gD g) vwCl (wX g ad σ) s.heap := hP
  have hl := lv_entry ([.ref (ad 0), .int p0]) (n := 4) (Nat.le_of_ble_eq_true rfl)
  rw [lg_entry_eq]
  generalize (lg_sl ([.ref (ad 0), .int p0]) ++ List.replicate (4 - (lg_sl ([.ref (ad 0), .int p0])).length) Slot.unset).toArray = ls at hl ⊢
  have hl : lv_has ls 4 [(0, .ref (ad 0)), (1, .int p0)] := hl
  have hv := hv (fun (x2 : Int32) (s_kept : FL) => ∀ (H : Heap) (locs : List Loc) (ls : Array Slot), va_P (gD g) vwCl (wX g ad ((xNow σ), (xTaken σ), (xTrial σ), (xScr σ), (xRow σ), (xRefus σ), s_kept, (xRowLen σ), (xIsTaken σ))) H → va_D (AD ad 0 45) (wX g ad ((xNow σ), (xTaken σ), (xTrial σ), (xScr σ), (xRow σ), (xRefus σ), s_kept, (xRowLen σ), (xIsTaken σ))) → va_S (AD ad 0 45) s.heap H locs → lv_has ls 4 [(0, .ref (ad 0)), (1, .int p0), (2, .int x2)] → W p l e { frames := 4, cells := 0, slots := 0, locals := 93 } s m ([.ref (ad 0), .int p0] : List Value).toArray below meth c H locs 0 0 (MQ below (va_Qv (fun (u : KX) => Post u) (fun u t => va_P (gD g) vwCl (wX g ad u) t.heap) (AD ad 0 45)) ([.ref (ad 0), .int p0] : List Value).toArray s 0 0 (AD ad 0 45)) (F0 m 2 ls []))
  have hv := hv (fun (x2 : Int32) (x3 : Int32) (s_kept : FL) => ∀ (H : Heap) (locs : List Loc) (ls : Array Slot), va_P (gD g) vwCl (wX g ad ((xNow σ), (xTaken σ), (xTrial σ), (xScr σ), (xRow σ), (xRefus σ), s_kept, (xRowLen σ), (xIsTaken σ))) H → va_D (AD ad 0 45) (wX g ad ((xNow σ), (xTaken σ), (xTrial σ), (xScr σ), (xRow σ), (xRefus σ), s_kept, (xRowLen σ), (xIsTaken σ))) → va_S (AD ad 0 45) s.heap H locs → lv_has ls 4 [(0, .ref (ad 0)), (1, .int p0), (2, .int x2), (3, .int x3)] → W p l e { frames := 4, cells := 0, slots := 0, locals := 93 } s m ([.ref (ad 0), .int p0] : List Value).toArray below meth c H locs 0 0 (MQ below (va_Qv (fun (u : KX) => Post u) (fun u t => va_P (gD g) vwCl (wX g ad u) t.heap) (AD ad 0 45)) ([.ref (ad 0), .int p0] : List Value).toArray s 0 0 (AD ad 0 45)) (F0 m 9 ls []))
  have hv := hv (by
    intro x2 s_kept hv H locs ls hP hD hS hl
    refine lv_iload_n hx hb dX2_fillKept_2 rfl (lv_at hl 2 rfl) ?_
    refine lv_iconst (v := 4) hx hb dX2_fillKept_3 (by decide) ?_
    refine lv_icmp_ge (tgt := 63) hx hb dX2_fillKept_4 (by decide) (fun c4 => ?_) (fun c4 => ?_)
    · have hv := hv.1 c4
      exact W.vret hx hb hr (fun t ht hW => ⟨⟨((xNow σ), (xTaken σ), (xTrial σ), (xScr σ), (xRow σ), (xRefus σ), s_kept, (xRowLen σ), (xIsTaken σ)), rfl, hv, P_at ht hP⟩, hS.F ht⟩) hS.2.2 dX2_fillKept_63
    · have hv := hv.2 c4
      refine lv_iconst (v := 0) hx hb dX2_fillKept_7 (by decide) ?_
      refine lv_istore_n (lv' := [(3, .int 0), (0, .ref (ad 0)), (1, .int p0), (2, .int x2)]) hx hb dX2_fillKept_8 rfl hl (by decide) rfl (fun ls hl => ?_)
      exact hv H locs ls hP hD hS (lv_sub hl [1, 2, 3, 0] rfl))
  have hv := hv (by
    intro x2 x3 s_kept hv H locs ls hP hD hS hl
    refine lv_iload_n hx hb dX2_fillKept_9 rfl (lv_at hl 3 rfl) ?_
    refine lv_aload_n hx hb dX2_fillKept_10 rfl (lv_at hl 0 rfl) ?_
    refine va_get (D := gD g) (ci := 2) (v := .ref (ad 4)) (C := RX2) (T := TX2) (N := 9) hx hb hts hi2 hown hK hP 0 rfl rfl 0 (by decide) k0 (fun _ h9 => h9) rfl dX2_fillKept_11 ?_
    refine va_get (D := gD g) (ci := 0) (v := .int (sNq (cS (xNow σ)))) (C := RX0) (T := TX0) (N := 17) hx hb hts hi0 hown hK hP 4 rfl rfl 2 (by decide) k1 (fun _ h9 => h9) rfl dX2_fillKept_14 ?_
    refine lv_icmp_ge (tgt := 57) hx hb dX2_fillKept_17 (by decide) (fun c17 => ?_) (fun c17 => ?_)
    · have hv := hv.1 c17
      refine lv_iinc (v := (x2 + 1)) (lv' := [(2, .int (x2 + 1)), (0, .ref (ad 0)), (1, .int p0), (3, .int x3)]) hx hb dX2_fillKept_57 hl (k := 2) rfl (by first | rfl | exact congrArg _ (by decide)) (by decide) rfl (fun ls hl => ?_)
      refine lv_goto (tgt := 2) hx hb dX2_fillKept_60 (by decide) ?_
      exact hv H locs ls hP hD hS (lv_sub hl [1, 2, 0] rfl)
    · have hv := hv.2 c17
      refine lv_aload_n hx hb dX2_fillKept_20 rfl (lv_at hl 0 rfl) ?_
      refine va_get (D := gD g) (ci := 2) (v := .ref (ad 3)) (C := RX2) (T := TX2) (N := 9) hx hb hts hi2 hown hK hP 0 rfl rfl 6 (by decide) k2 (fun _ h9 => h9) rfl dX2_fillKept_21 ?_
      refine lv_iload_n hx hb dX2_fillKept_24 rfl (lv_at hl 2 rfl) ?_
      refine lv_bipush (v := 8) hx hb dX2_fillKept_25 (by decide) ?_
      refine lv_imul hx hb dX2_fillKept_27 ?_
      refine lv_iload_n hx hb dX2_fillKept_28 rfl (lv_at hl 3 rfl) ?_
      refine lv_iadd hx hb dX2_fillKept_29 ?_
      refine lv_aload_n hx hb dX2_fillKept_30 rfl (lv_at hl 0 rfl) ?_
      refine va_get (D := gD g) (ci := 2) (v := .ref (ad 4)) (C := RX2) (T := TX2) (N := 9) hx hb hts hi2 hown hK hP 0 rfl rfl 0 (by decide) k0 (fun _ h9 => h9) rfl dX2_fillKept_31 ?_
      refine lv_iload_n hx hb dX2_fillKept_34 rfl (lv_at hl 1 rfl) ?_
      refine lv_iload_n hx hb dX2_fillKept_35 rfl (lv_at hl 3 rfl) ?_
      refine lv_aload_n hx hb dX2_fillKept_36 rfl (lv_at hl 0 rfl) ?_
      refine va_get (D := gD g) (ci := 2) (v := .ref (ad 4)) (C := RX2) (T := TX2) (N := 9) hx hb hts hi2 hown hK hP 0 rfl rfl 0 (by decide) k0 (fun _ h9 => h9) rfl dX2_fillKept_37 ?_
      refine va_get (D := gD g) (ci := 0) (v := .int (sAsked (cS (xNow σ)))) (C := RX0) (T := TX0) (N := 17) hx hb hts hi0 hown hK hP 4 rfl rfl 1 (by decide) k3 (fun _ h9 => h9) rfl dX2_fillKept_40 ?_
      refine lv_iconst (v := 1) hx hb dX2_fillKept_43 (by decide) ?_
      refine lv_iadd hx hb dX2_fillKept_44 ?_
      refine lv_iload_n hx hb dX2_fillKept_45 rfl (lv_at hl 2 rfl) ?_
      refine lv_iadd hx hb dX2_fillKept_46 ?_
      have h8 := hv.1
      have hv := hv.2
      have hPc : va_P (gD g) vwCl (wC g ad 4 (xNow σ)) H := hP.sub [4, 5, 6, 7, 8, 9, 10, 11, 12, 13, 14, 15, 16] rfl
      refine ro_long (va_runV (As := [.int p0, .int x3, .int (((sAsked (cS (xNow σ))) + 1) + x2)]) (rest := [.int ((x2 * 8) + x3), .ref (ad 3)]) ⟨hx, hb, hml, hown, hts⟩ (h_X0_keeping g ad 4 (xNow σ) p0 x3 (((sAsked (cS (xNow σ))) + 1) + x2) h8) (cwV 3 hts gX2_fillKept_X0_keeping rfl rfl rfl (by decide +kernel) ⟨Nat.le_of_ble_eq_true rfl, Nat.le_of_ble_eq_true rfl⟩) ⟨RO_blind, va_recv hK hP (ci := 0) (q0 := 4) rfl rfl, fun U hU hW => ⟨rfl, by rw [hU]; exact hPc, va_K.moved hW.alike hK, hE.call hW hU hS (fun _ h => h.elim)⟩⟩ rfl rfl hl.1 rfl (lv_room (Nat.le_of_ble_eq_true rfl)) dX2_fillKept_47 ⟨Nat.le_of_ble_eq_true rfl, Nat.le_of_ble_eq_true rfl⟩) hS hP (fun r H locs hw hP hS => ?_)
      subst r
      have h9 := hv.1
      have hv := hv.2
      refine va_last (f := s_kept) (n := 32) hx hb hK hP hD hS 3 1 rfl rfl h9 dX2_fillKept_50 (fun H locs hP hD hS => ?_)
      have hP : va_P (gD g) vwCl (wX g ad ((xNow σ), (xTaken σ), (xTrial σ), (xScr σ), (xRow σ), (xRefus σ), (vp_updL s_kept (((x2 * 8) + x3)).toNatClampNeg (keepingL (xNow σ) p0 x3 (((sAsked (cS (xNow σ))) + 1) + x2))), (xRowLen σ), (xIsTaken σ))) H := hP
      have hD : va_D (AD ad 0 45) (wX g ad ((xNow σ), (xTaken σ), (xTrial σ), (xScr σ), (xRow σ), (xRefus σ), (vp_updL s_kept (((x2 * 8) + x3)).toNatClampNeg (keepingL (xNow σ) p0 x3 (((sAsked (cS (xNow σ))) + 1) + x2))), (xRowLen σ), (xIsTaken σ))) := hD
      refine lv_iinc (v := (x3 + 1)) (lv' := [(3, .int (x3 + 1)), (0, .ref (ad 0)), (1, .int p0), (2, .int x2)]) hx hb dX2_fillKept_51 hl (k := 3) rfl (by first | rfl | exact congrArg _ (by decide)) (by decide) rfl (fun ls hl => ?_)
      refine lv_goto (tgt := 9) hx hb dX2_fillKept_54 (by decide) ?_
      exact hv H locs ls hP hD hS (lv_sub hl [1, 2, 3, 0] rfl))
  obtain ⟨H, hH⟩ : ∃ z, z = s.heap := ⟨_, rfl⟩
  obtain ⟨locs, hL⟩ : ∃ z : List Loc, z = [] := ⟨_, rfl⟩
  rw [← hL] at hS ⊢
  have hS : va_S (AD ad 0 45) s.heap H locs := by rw [hH]; exact hS
  rw [← hH] at hP ⊢
  clear hH hL
  refine lv_iconst (v := 0) hx hb dX2_fillKept_0 (by decide) ?_
  refine lv_istore_n (lv' := [(2, .int 0), (0, .ref (ad 0)), (1, .int p0)]) hx hb dX2_fillKept_1 rfl hl (by decide) rfl (fun ls hl => ?_)
  exact hv H locs ls hP hD hS (lv_sub hl [1, 2, 0] rfl)

set_option maxHeartbeats 4000000 in
set_option maxRecDepth 100000 in
theorem m_X2_waysSure_0 (l : Launch) (h_X2_isSure : C_X2_isSure l) (g : CX) (ad : Nat → Nat) (o : Nat) (σ : FL) (p1 : Int32) (p2 : Int64) (p3 : Int64) (p4 : Int32) (p5 : Int32) (Post : Int32 → Prop) (hv : vc_X2_waysSure_0 σ p1 p2 p3 p4 p5 Post) : Met l yX2_waysSure wsX2_waysSure { frames := 1, cells := 0, slots := 0, locals := 25 } (va_Pc [.ref (ad o), .int p1, .long p2, .long p3, .int p4, .int p5] (RO g (wL g ad o σ))) (va_Qi (fun r (_ : Unit) => Post r) (fun _ _ => True) A0) 0 0 A0 := by
  unfold vc_X2_waysSure_0 at hv
  refine Met.ofW (cc := cX2_waysSure) (maxL := 12) (ret := (some .int)) (by decide) rfl ?_
  intro p e s m args below meth c s₁ B hml hv0
  obtain ⟨rfl, hP, hK, hE⟩ := hv0
  have hx := B.exec
  have hb := B.bytes
  have hr := B.returns
  have hts := atoms_spec (ws := wsX2_waysSure) B.pre
  have hown : s.vm.findClass RX2 = some m.cls := findClass_of_methodNamed B.named
  have hlocks := B.notSynchronized
  have hS : va_S A0 s.heap s.heap [] := va_S.rf
  have hP : va_P (gD g) vwCl (wL g ad o σ) s.heap := hP
  have hl := lv_entry ([.ref (ad o), .int p1, .long p2, .long p3, .int p4, .int p5]) (n := 12) (Nat.le_of_ble_eq_true rfl)
  rw [lg_entry_eq]
  generalize (lg_sl ([.ref (ad o), .int p1, .long p2, .long p3, .int p4, .int p5]) ++ List.replicate (12 - (lg_sl ([.ref (ad o), .int p1, .long p2, .long p3, .int p4, .int p5])).length) Slot.unset).toArray = ls at hl ⊢
  have hl : lv_has ls 12 [(0, .ref (ad o)), (1, .int p1), (2, .long p2), (4, .long p3), (6, .int p4), (7, .int p5)] := hl
  have hv := hv (fun (x8 : Int32) (x9 : Int32) => ∀ (H : Heap) (locs : List Loc) (ls : Array Slot), va_P (gD g) vwCl (wL g ad o σ) H → va_S A0 s.heap H locs → lv_has ls 12 [(0, .ref (ad o)), (1, .int p1), (2, .long p2), (4, .long p3), (6, .int p4), (7, .int p5), (8, .int x8), (9, .int x9)] → W p l e { frames := 1, cells := 0, slots := 0, locals := 25 } s m ([.ref (ad o), .int p1, .long p2, .long p3, .int p4, .int p5] : List Value).toArray below meth c H locs 0 0 (MQ below (va_Qi (fun r (_ : Unit) => Post r) (fun _ _ => True) A0) ([.ref (ad o), .int p1, .long p2, .long p3, .int p4, .int p5] : List Value).toArray s 0 0 A0) (F0 m 34 ls []))
  have hv := hv (by
    intro x8 x9 hv H locs ls hP hS hl
    refine lv_iload hx hb dX2_waysSure_34 (lv_at hl 7 rfl) ?_
    refine lv_iload_n hx hb dX2_waysSure_36 rfl (lv_at hl 1 rfl) ?_
    refine lv_icmp_ge (tgt := 80) hx hb dX2_waysSure_37 (by decide) (fun c37 => ?_) (fun c37 => ?_)
    · have hv := hv.1 c37
      refine lv_iload hx hb dX2_waysSure_80 (lv_at hl 6 rfl) ?_
      exact W.iret (v := x8) hx hb hr (fun t ht hW => ⟨⟨x8, (), rfl, hv, trivial⟩, hS.F ht⟩) hS.2.2 dX2_waysSure_82
    · have hv := hv.2 c37
      refine lv_lload_n hx hb dX2_waysSure_40 rfl (lv_at hl 2 rfl) ?_
      refine lv_aload_n hx hb dX2_waysSure_41 rfl (lv_at hl 0 rfl) ?_
      refine lv_iload hx hb dX2_waysSure_42 (lv_at hl 4 rfl) ?_
      refine lv_bipush (v := 8) hx hb dX2_waysSure_44 (by decide) ?_
      refine lv_imul hx hb dX2_waysSure_46 ?_
      refine lv_iload hx hb dX2_waysSure_47 (lv_at hl 7 rfl) ?_
      refine lv_iadd hx hb dX2_waysSure_49 ?_
      have h9 := hv.1
      have hv := hv.2
      refine va_lald (f := σ) (n := 32) hx hb hK hP 0 1 rfl rfl h9 dX2_waysSure_50 ?_
      refine lv_land hx hb dX2_waysSure_51 ?_
      refine lv_lstore (lv' := [(10, .long (p2 &&& (σ (((p4 * 8) + x9)).toNatClampNeg))), (0, .ref (ad o)), (1, .int p1), (2, .long p2), (4, .long p3), (6, .int p4), (7, .int p5), (8, .int x8), (9, .int x9)]) hx hb dX2_waysSure_52 hl (by decide) rfl (fun ls hl => ?_)
      refine lv_iload hx hb dX2_waysSure_54 (lv_at hl 7 rfl) ?_
      refine lv_aload_n hx hb dX2_waysSure_56 rfl (lv_at hl 1 rfl) ?_
      refine lv_iload_n hx hb dX2_waysSure_57 rfl (lv_at hl 2 rfl) ?_
      refine lv_lload hx hb dX2_waysSure_58 (lv_at hl 0 rfl) ?_
      refine lv_lload hx hb dX2_waysSure_60 (lv_at hl 4 rfl) ?_
      refine lv_iload hx hb dX2_waysSure_62 (lv_at hl 5 rfl) ?_
      refine lv_iconst (v := 1) hx hb dX2_waysSure_64 (by decide) ?_
      refine lv_iadd hx hb dX2_waysSure_65 ?_
      refine lv_iload hx hb dX2_waysSure_66 (lv_at hl 6 rfl) ?_
      exact hv.elim)
  obtain ⟨H, hH⟩ : ∃ z, z = s.heap := ⟨_, rfl⟩
  obtain ⟨locs, hL⟩ : ∃ z : List Loc, z = [] := ⟨_, rfl⟩
  rw [← hL] at hS ⊢
  have hS : va_S A0 s.heap H locs := by rw [hH]; exact hS
  rw [← hH] at hP ⊢
  clear hH hL
  refine lv_iload hx hb dX2_waysSure_0 (lv_at hl 4 rfl) ?_
  refine lv_iload hx hb dX2_waysSure_2 (lv_at hl 5 rfl) ?_
  refine lv_icmp_ge (tgt := 13) hx hb dX2_waysSure_4 (by decide) (fun c4 => ?_) (fun c4 => ?_)
  · have hv := hv.1 c4
    refine lv_lload_n hx hb dX2_waysSure_13 rfl (lv_at hl 2 rfl) ?_
    refine lv_lload hx hb dX2_waysSure_14 (lv_at hl 3 rfl) ?_
    have hPc : va_P (gD g) vwCl [] H := fun k q h => by simp at h
    refine ro_int (va_runS (As := [.long p2, .long p3]) (rest := []) ⟨hx, hb, hml, hown, hts⟩ (h_X2_isSure g p2 p3) (va_cwS 2 hts gX2_waysSure_X2_isSure rfl rfl rfl (by decide +kernel) ⟨Nat.le_of_ble_eq_true rfl, Nat.le_of_ble_eq_true rfl⟩) ⟨RO_blind, fun U hU hW => ⟨rfl, by rw [hU]; exact hPc, va_K.moved hW.alike hK, hE.call hW hU hS (fun _ h => h.elim)⟩⟩ rfl rfl hl.1 rfl (lv_room (Nat.le_of_ble_eq_true rfl)) dX2_waysSure_16 ⟨Nat.le_of_ble_eq_true rfl, Nat.le_of_ble_eq_true rfl⟩) hS hP (fun r H locs hw hP hS => ?_)
    subst r
    refine lv_if_eq (tgt := 26) hx hb dX2_waysSure_19 (by decide) (fun c19 => ?_) (fun c19 => ?_)
    · have hv := hv.1 c19
      refine lv_iconst (v := 0) hx hb dX2_waysSure_26 (by decide) ?_
      exact W.iret (v := 0) hx hb hr (fun t ht hW => ⟨⟨0, (), rfl, hv, trivial⟩, hS.F ht⟩) hS.2.2 dX2_waysSure_27
    · have hv := hv.2 c19
      refine lv_iconst (v := 1) hx hb dX2_waysSure_22 (by decide) ?_
      refine lv_goto (tgt := 27) hx hb dX2_waysSure_23 (by decide) ?_
      exact W.iret (v := 1) hx hb hr (fun t ht hW => ⟨⟨1, (), rfl, hv, trivial⟩, hS.F ht⟩) hS.2.2 dX2_waysSure_27
  · have hv := hv.2 c4
    refine lv_iload hx hb dX2_waysSure_7 (lv_at hl 4 rfl) ?_
    refine lv_iconst (v := 4) hx hb dX2_waysSure_9 (by decide) ?_
    refine lv_icmp_lt (tgt := 28) hx hb dX2_waysSure_10 (by decide) (fun c10 => ?_) (fun c10 => ?_)
    · have hv := hv.1 c10
      refine lv_iconst (v := 0) hx hb dX2_waysSure_28 (by decide) ?_
      refine lv_istore (lv' := [(8, .int 0), (0, .ref (ad o)), (1, .int p1), (2, .long p2), (4, .long p3), (6, .int p4), (7, .int p5)]) hx hb dX2_waysSure_29 hl (by decide) rfl (fun ls hl => ?_)
      refine lv_iconst (v := 0) hx hb dX2_waysSure_31 (by decide) ?_
      refine lv_istore (lv' := [(9, .int 0), (8, .int 0), (0, .ref (ad o)), (1, .int p1), (2, .long p2), (4, .long p3), (6, .int p4), (7, .int p5)]) hx hb dX2_waysSure_32 hl (by decide) rfl (fun ls hl => ?_)
      exact hv H locs ls hP hS (lv_sub hl [2, 3, 4, 5, 6, 7, 1, 0] rfl)
    · have hv := hv.2 c10
      refine lv_lload_n hx hb dX2_waysSure_13 rfl (lv_at hl 2 rfl) ?_
      refine lv_lload hx hb dX2_waysSure_14 (lv_at hl 3 rfl) ?_
      have hPc : va_P (gD g) vwCl [] H := fun k q h => by simp at h
      refine ro_int (va_runS (As := [.long p2, .long p3]) (rest := []) ⟨hx, hb, hml, hown, hts⟩ (h_X2_isSure g p2 p3) (va_cwS 2 hts gX2_waysSure_X2_isSure rfl rfl rfl (by decide +kernel) ⟨Nat.le_of_ble_eq_true rfl, Nat.le_of_ble_eq_true rfl⟩) ⟨RO_blind, fun U hU hW => ⟨rfl, by rw [hU]; exact hPc, va_K.moved hW.alike hK, hE.call hW hU hS (fun _ h => h.elim)⟩⟩ rfl rfl hl.1 rfl (lv_room (Nat.le_of_ble_eq_true rfl)) dX2_waysSure_16 ⟨Nat.le_of_ble_eq_true rfl, Nat.le_of_ble_eq_true rfl⟩) hS hP (fun r H locs hw hP hS => ?_)
      subst r
      refine lv_if_eq (tgt := 26) hx hb dX2_waysSure_19 (by decide) (fun c19 => ?_) (fun c19 => ?_)
      · have hv := hv.1 c19
        refine lv_iconst (v := 0) hx hb dX2_waysSure_26 (by decide) ?_
        exact W.iret (v := 0) hx hb hr (fun t ht hW => ⟨⟨0, (), rfl, hv, trivial⟩, hS.F ht⟩) hS.2.2 dX2_waysSure_27
      · have hv := hv.2 c19
        refine lv_iconst (v := 1) hx hb dX2_waysSure_22 (by decide) ?_
        refine lv_goto (tgt := 27) hx hb dX2_waysSure_23 (by decide) ?_
        exact W.iret (v := 1) hx hb hr (fun t ht hW => ⟨⟨1, (), rfl, hv, trivial⟩, hS.F ht⟩) hS.2.2 dX2_waysSure_27

set_option maxHeartbeats 4000000 in
set_option maxRecDepth 100000 in
theorem m_X2_waysSure_1 (l : Launch) (h_X2_isSure : C_X2_isSure l) (h_X2_waysSure_0 : C_X2_waysSure_0 l) (g : CX) (ad : Nat → Nat) (o : Nat) (σ : FL) (p1 : Int32) (p2 : Int64) (p3 : Int64) (p4 : Int32) (p5 : Int32) (Post : Int32 → Prop) (hv : vc_X2_waysSure_1 σ p1 p2 p3 p4 p5 Post) : Met l yX2_waysSure wsX2_waysSure { frames := 2, cells := 0, slots := 0, locals := 56 } (va_Pc [.ref (ad o), .int p1, .long p2, .long p3, .int p4, .int p5] (RO g (wL g ad o σ))) (va_Qi (fun r (_ : Unit) => Post r) (fun _ _ => True) A0) 0 0 A0 := by
  unfold vc_X2_waysSure_1 at hv
  refine Met.ofW (cc := cX2_waysSure) (maxL := 12) (ret := (some .int)) (by decide) rfl ?_
  intro p e s m args below meth c s₁ B hml hv0
  obtain ⟨rfl, hP, hK, hE⟩ := hv0
  have hx := B.exec
  have hb := B.bytes
  have hr := B.returns
  have hts := atoms_spec (ws := wsX2_waysSure) B.pre
  have hown : s.vm.findClass RX2 = some m.cls := findClass_of_methodNamed B.named
  have hlocks := B.notSynchronized
  have hS : va_S A0 s.heap s.heap [] := va_S.rf
  have hP : va_P (gD g) vwCl (wL g ad o σ) s.heap := hP
  have hl := lv_entry ([.ref (ad o), .int p1, .long p2, .long p3, .int p4, .int p5]) (n := 12) (Nat.le_of_ble_eq_true rfl)
  rw [lg_entry_eq]
  generalize (lg_sl ([.ref (ad o), .int p1, .long p2, .long p3, .int p4, .int p5]) ++ List.replicate (12 - (lg_sl ([.ref (ad o), .int p1, .long p2, .long p3, .int p4, .int p5])).length) Slot.unset).toArray = ls at hl ⊢
  have hl : lv_has ls 12 [(0, .ref (ad o)), (1, .int p1), (2, .long p2), (4, .long p3), (6, .int p4), (7, .int p5)] := hl
  have hv := hv (fun (x8 : Int32) (x9 : Int32) => ∀ (H : Heap) (locs : List Loc) (ls : Array Slot), va_P (gD g) vwCl (wL g ad o σ) H → va_S A0 s.heap H locs → lv_has ls 12 [(0, .ref (ad o)), (1, .int p1), (2, .long p2), (4, .long p3), (6, .int p4), (7, .int p5), (8, .int x8), (9, .int x9)] → W p l e { frames := 2, cells := 0, slots := 0, locals := 56 } s m ([.ref (ad o), .int p1, .long p2, .long p3, .int p4, .int p5] : List Value).toArray below meth c H locs 0 0 (MQ below (va_Qi (fun r (_ : Unit) => Post r) (fun _ _ => True) A0) ([.ref (ad o), .int p1, .long p2, .long p3, .int p4, .int p5] : List Value).toArray s 0 0 A0) (F0 m 34 ls []))
  have hv := hv (by
    intro x8 x9 hv H locs ls hP hS hl
    refine lv_iload hx hb dX2_waysSure_34 (lv_at hl 7 rfl) ?_
    refine lv_iload_n hx hb dX2_waysSure_36 rfl (lv_at hl 1 rfl) ?_
    refine lv_icmp_ge (tgt := 80) hx hb dX2_waysSure_37 (by decide) (fun c37 => ?_) (fun c37 => ?_)
    · have hv := hv.1 c37
      refine lv_iload hx hb dX2_waysSure_80 (lv_at hl 6 rfl) ?_
      exact W.iret (v := x8) hx hb hr (fun t ht hW => ⟨⟨x8, (), rfl, hv, trivial⟩, hS.F ht⟩) hS.2.2 dX2_waysSure_82
    · have hv := hv.2 c37
      refine lv_lload_n hx hb dX2_waysSure_40 rfl (lv_at hl 2 rfl) ?_
      refine lv_aload_n hx hb dX2_waysSure_41 rfl (lv_at hl 0 rfl) ?_
      refine lv_iload hx hb dX2_waysSure_42 (lv_at hl 4 rfl) ?_
      refine lv_bipush (v := 8) hx hb dX2_waysSure_44 (by decide) ?_
      refine lv_imul hx hb dX2_waysSure_46 ?_
      refine lv_iload hx hb dX2_waysSure_47 (lv_at hl 7 rfl) ?_
      refine lv_iadd hx hb dX2_waysSure_49 ?_
      have h9 := hv.1
      have hv := hv.2
      refine va_lald (f := σ) (n := 32) hx hb hK hP 0 1 rfl rfl h9 dX2_waysSure_50 ?_
      refine lv_land hx hb dX2_waysSure_51 ?_
      refine lv_lstore (lv' := [(10, .long (p2 &&& (σ (((p4 * 8) + x9)).toNatClampNeg))), (0, .ref (ad o)), (1, .int p1), (2, .long p2), (4, .long p3), (6, .int p4), (7, .int p5), (8, .int x8), (9, .int x9)]) hx hb dX2_waysSure_52 hl (by decide) rfl (fun ls hl => ?_)
      refine lv_iload hx hb dX2_waysSure_54 (lv_at hl 7 rfl) ?_
      refine lv_aload_n hx hb dX2_waysSure_56 rfl (lv_at hl 1 rfl) ?_
      refine lv_iload_n hx hb dX2_waysSure_57 rfl (lv_at hl 2 rfl) ?_
      refine lv_lload hx hb dX2_waysSure_58 (lv_at hl 0 rfl) ?_
      refine lv_lload hx hb dX2_waysSure_60 (lv_at hl 4 rfl) ?_
      refine lv_iload hx hb dX2_waysSure_62 (lv_at hl 5 rfl) ?_
      refine lv_iconst (v := 1) hx hb dX2_waysSure_64 (by decide) ?_
      refine lv_iadd hx hb dX2_waysSure_65 ?_
      refine lv_iload hx hb dX2_waysSure_66 (lv_at hl 6 rfl) ?_
      have h8 := hv.1
      have hv := hv.2
      have hPc := hP
      refine ro_int (va_runS (As := [.ref (ad o), .int p1, .long (p2 &&& (σ (((p4 * 8) + x9)).toNatClampNeg)), .long p3, .int (p4 + 1), .int p5]) (rest := [.int x8]) ⟨hx, hb, hml, hown, hts⟩ (h_X2_waysSure_0 g ad o σ p1 (p2 &&& (σ (((p4 * 8) + x9)).toNatClampNeg)) p3 (p4 + 1) p5 h8) (va_cwS 6 hts gX2_waysSure_X2_waysSure rfl rfl rfl (by decide +kernel) ⟨Nat.le_of_ble_eq_true rfl, Nat.le_of_ble_eq_true rfl⟩) ⟨RO_blind, fun U hU hW => ⟨rfl, by rw [hU]; exact hPc, va_K.moved hW.alike hK, hE.call hW hU hS (fun _ h => h.elim)⟩⟩ rfl rfl hl.1 rfl (lv_room (Nat.le_of_ble_eq_true rfl)) dX2_waysSure_68 ⟨Nat.le_of_ble_eq_true rfl, Nat.le_of_ble_eq_true rfl⟩) hS hP (fun r H locs hw hP hS => ?_)
      subst r
      refine lv_iadd hx hb dX2_waysSure_71 ?_
      refine lv_istore (lv' := [(8, .int (x8 + (waysN σ p1.toNatClampNeg p3 (p5 - (p4 + 1)).toNatClampNeg (p4 + 1).toNatClampNeg (p2 &&& (σ (((p4 * 8) + x9)).toNatClampNeg))))), (10, .long (p2 &&& (σ (((p4 * 8) + x9)).toNatClampNeg))), (0, .ref (ad o)), (1, .int p1), (2, .long p2), (4, .long p3), (6, .int p4), (7, .int p5), (9, .int x9)]) hx hb dX2_waysSure_72 hl (by decide) rfl (fun ls hl => ?_)
      refine lv_iinc (v := (x9 + 1)) (lv' := [(9, .int (x9 + 1)), (8, .int (x8 + (waysN σ p1.toNatClampNeg p3 (p5 - (p4 + 1)).toNatClampNeg (p4 + 1).toNatClampNeg (p2 &&& (σ (((p4 * 8) + x9)).toNatClampNeg))))), (10, .long (p2 &&& (σ (((p4 * 8) + x9)).toNatClampNeg))), (0, .ref (ad o)), (1, .int p1), (2, .long p2), (4, .long p3), (6, .int p4), (7, .int p5)]) hx hb dX2_waysSure_74 hl (k := 8) rfl (by first | rfl | exact congrArg _ (by decide)) (by decide) rfl (fun ls hl => ?_)
      refine lv_goto (tgt := 34) hx hb dX2_waysSure_77 (by decide) ?_
      exact hv H locs ls hP hS (lv_sub hl [3, 4, 5, 6, 7, 8, 1, 0] rfl))
  obtain ⟨H, hH⟩ : ∃ z, z = s.heap := ⟨_, rfl⟩
  obtain ⟨locs, hL⟩ : ∃ z : List Loc, z = [] := ⟨_, rfl⟩
  rw [← hL] at hS ⊢
  have hS : va_S A0 s.heap H locs := by rw [hH]; exact hS
  rw [← hH] at hP ⊢
  clear hH hL
  refine lv_iload hx hb dX2_waysSure_0 (lv_at hl 4 rfl) ?_
  refine lv_iload hx hb dX2_waysSure_2 (lv_at hl 5 rfl) ?_
  refine lv_icmp_ge (tgt := 13) hx hb dX2_waysSure_4 (by decide) (fun c4 => ?_) (fun c4 => ?_)
  · have hv := hv.1 c4
    refine lv_lload_n hx hb dX2_waysSure_13 rfl (lv_at hl 2 rfl) ?_
    refine lv_lload hx hb dX2_waysSure_14 (lv_at hl 3 rfl) ?_
    have hPc : va_P (gD g) vwCl [] H := fun k q h => by simp at h
    refine ro_int (va_runS (As := [.long p2, .long p3]) (rest := []) ⟨hx, hb, hml, hown, hts⟩ (h_X2_isSure g p2 p3) (va_cwS 2 hts gX2_waysSure_X2_isSure rfl rfl rfl (by decide +kernel) ⟨Nat.le_of_ble_eq_true rfl, Nat.le_of_ble_eq_true rfl⟩) ⟨RO_blind, fun U hU hW => ⟨rfl, by rw [hU]; exact hPc, va_K.moved hW.alike hK, hE.call hW hU hS (fun _ h => h.elim)⟩⟩ rfl rfl hl.1 rfl (lv_room (Nat.le_of_ble_eq_true rfl)) dX2_waysSure_16 ⟨Nat.le_of_ble_eq_true rfl, Nat.le_of_ble_eq_true rfl⟩) hS hP (fun r H locs hw hP hS => ?_)
    subst r
    refine lv_if_eq (tgt := 26) hx hb dX2_waysSure_19 (by decide) (fun c19 => ?_) (fun c19 => ?_)
    · have hv := hv.1 c19
      refine lv_iconst (v := 0) hx hb dX2_waysSure_26 (by decide) ?_
      exact W.iret (v := 0) hx hb hr (fun t ht hW => ⟨⟨0, (), rfl, hv, trivial⟩, hS.F ht⟩) hS.2.2 dX2_waysSure_27
    · have hv := hv.2 c19
      refine lv_iconst (v := 1) hx hb dX2_waysSure_22 (by decide) ?_
      refine lv_goto (tgt := 27) hx hb dX2_waysSure_23 (by decide) ?_
      exact W.iret (v := 1) hx hb hr (fun t ht hW => ⟨⟨1, (), rfl, hv, trivial⟩, hS.F ht⟩) hS.2.2 dX2_waysSure_27
  · have hv := hv.2 c4
    refine lv_iload hx hb dX2_waysSure_7 (lv_at hl 4 rfl) ?_
    refine lv_iconst (v := 4) hx hb dX2_waysSure_9 (by decide) ?_
    refine lv_icmp_lt (tgt := 28) hx hb dX2_waysSure_10 (by decide) (fun c10 => ?_) (fun c10 => ?_)
    · have hv := hv.1 c10
      refine lv_iconst (v := 0) hx hb dX2_waysSure_28 (by decide) ?_
      refine lv_istore (lv' := [(8, .int 0), (0, .ref (ad o)), (1, .int p1), (2, .long p2), (4, .long p3), (6, .int p4), (7, .int p5)]) hx hb dX2_waysSure_29 hl (by decide) rfl (fun ls hl => ?_)
      refine lv_iconst (v := 0) hx hb dX2_waysSure_31 (by decide) ?_
      refine lv_istore (lv' := [(9, .int 0), (8, .int 0), (0, .ref (ad o)), (1, .int p1), (2, .long p2), (4, .long p3), (6, .int p4), (7, .int p5)]) hx hb dX2_waysSure_32 hl (by decide) rfl (fun ls hl => ?_)
      exact hv H locs ls hP hS (lv_sub hl [2, 3, 4, 5, 6, 7, 1, 0] rfl)
    · have hv := hv.2 c10
      refine lv_lload_n hx hb dX2_waysSure_13 rfl (lv_at hl 2 rfl) ?_
      refine lv_lload hx hb dX2_waysSure_14 (lv_at hl 3 rfl) ?_
      have hPc : va_P (gD g) vwCl [] H := fun k q h => by simp at h
      refine ro_int (va_runS (As := [.long p2, .long p3]) (rest := []) ⟨hx, hb, hml, hown, hts⟩ (h_X2_isSure g p2 p3) (va_cwS 2 hts gX2_waysSure_X2_isSure rfl rfl rfl (by decide +kernel) ⟨Nat.le_of_ble_eq_true rfl, Nat.le_of_ble_eq_true rfl⟩) ⟨RO_blind, fun U hU hW => ⟨rfl, by rw [hU]; exact hPc, va_K.moved hW.alike hK, hE.call hW hU hS (fun _ h => h.elim)⟩⟩ rfl rfl hl.1 rfl (lv_room (Nat.le_of_ble_eq_true rfl)) dX2_waysSure_16 ⟨Nat.le_of_ble_eq_true rfl, Nat.le_of_ble_eq_true rfl⟩) hS hP (fun r H locs hw hP hS => ?_)
      subst r
      refine lv_if_eq (tgt := 26) hx hb dX2_waysSure_19 (by decide) (fun c19 => ?_) (fun c19 => ?_)
      · have hv := hv.1 c19
        refine lv_iconst (v := 0) hx hb dX2_waysSure_26 (by decide) ?_
        exact W.iret (v := 0) hx hb hr (fun t ht hW => ⟨⟨0, (), rfl, hv, trivial⟩, hS.F ht⟩) hS.2.2 dX2_waysSure_27
      · have hv := hv.2 c19
        refine lv_iconst (v := 1) hx hb dX2_waysSure_22 (by decide) ?_
        refine lv_goto (tgt := 27) hx hb dX2_waysSure_23 (by decide) ?_
        exact W.iret (v := 1) hx hb hr (fun t ht hW => ⟨⟨1, (), rfl, hv, trivial⟩, hS.F ht⟩) hS.2.2 dX2_waysSure_27

set_option maxHeartbeats 4000000 in
set_option maxRecDepth 100000 in
theorem m_X2_waysSure_2 (l : Launch) (h_X2_isSure : C_X2_isSure l) (h_X2_waysSure_1 : C_X2_waysSure_1 l) (g : CX) (ad : Nat → Nat) (o : Nat) (σ : FL) (p1 : Int32) (p2 : Int64) (p3 : Int64) (p4 : Int32) (p5 : Int32) (Post : Int32 → Prop) (hv : vc_X2_waysSure_2 σ p1 p2 p3 p4 p5 Post) : Met l yX2_waysSure wsX2_waysSure { frames := 3, cells := 0, slots := 0, locals := 87 } (va_Pc [.ref (ad o), .int p1, .long p2, .long p3, .int p4, .int p5] (RO g (wL g ad o σ))) (va_Qi (fun r (_ : Unit) => Post r) (fun _ _ => True) A0) 0 0 A0 := by
  unfold vc_X2_waysSure_2 at hv
  refine Met.ofW (cc := cX2_waysSure) (maxL := 12) (ret := (some .int)) (by decide) rfl ?_
  intro p e s m args below meth c s₁ B hml hv0
  obtain ⟨rfl, hP, hK, hE⟩ := hv0
  have hx := B.exec
  have hb := B.bytes
  have hr := B.returns
  have hts := atoms_spec (ws := wsX2_waysSure) B.pre
  have hown : s.vm.findClass RX2 = some m.cls := findClass_of_methodNamed B.named
  have hlocks := B.notSynchronized
  have hS : va_S A0 s.heap s.heap [] := va_S.rf
  have hP : va_P (gD g) vwCl (wL g ad o σ) s.heap := hP
  have hl := lv_entry ([.ref (ad o), .int p1, .long p2, .long p3, .int p4, .int p5]) (n := 12) (Nat.le_of_ble_eq_true rfl)
  rw [lg_entry_eq]
  generalize (lg_sl ([.ref (ad o), .int p1, .long p2, .long p3, .int p4, .int p5]) ++ List.replicate (12 - (lg_sl ([.ref (ad o), .int p1, .long p2, .long p3, .int p4, .int p5])).length) Slot.unset).toArray = ls at hl ⊢
  have hl : lv_has ls 12 [(0, .ref (ad o)), (1, .int p1), (2, .long p2), (4, .long p3), (6, .int p4), (7, .int p5)] := hl
  have hv := hv (fun (x8 : Int32) (x9 : Int32) => ∀ (H : Heap) (locs : List Loc) (ls : Array Slot), va_P (gD g) vwCl (wL g ad o σ) H → va_S A0 s.heap H locs → lv_has ls 12 [(0, .ref (ad o)), (1, .int p1), (2, .long p2), (4, .long p3), (6, .int p4), (7, .int p5), (8, .int x8), (9, .int x9)] → W p l e { frames := 3, cells := 0, slots := 0, locals := 87 } s m ([.ref (ad o), .int p1, .long p2, .long p3, .int p4, .int p5] : List Value).toArray below meth c H locs 0 0 (MQ below (va_Qi (fun r (_ : Unit) => Post r) (fun _ _ => True) A0) ([.ref (ad o), .int p1, .long p2, .long p3, .int p4, .int p5] : List Value).toArray s 0 0 A0) (F0 m 34 ls []))
  have hv := hv (by
    intro x8 x9 hv H locs ls hP hS hl
    refine lv_iload hx hb dX2_waysSure_34 (lv_at hl 7 rfl) ?_
    refine lv_iload_n hx hb dX2_waysSure_36 rfl (lv_at hl 1 rfl) ?_
    refine lv_icmp_ge (tgt := 80) hx hb dX2_waysSure_37 (by decide) (fun c37 => ?_) (fun c37 => ?_)
    · have hv := hv.1 c37
      refine lv_iload hx hb dX2_waysSure_80 (lv_at hl 6 rfl) ?_
      exact W.iret (v := x8) hx hb hr (fun t ht hW => ⟨⟨x8, (), rfl, hv, trivial⟩, hS.F ht⟩) hS.2.2 dX2_waysSure_82
    · have hv := hv.2 c37
      refine lv_lload_n hx hb dX2_waysSure_40 rfl (lv_at hl 2 rfl) ?_
      refine lv_aload_n hx hb dX2_waysSure_41 rfl (lv_at hl 0 rfl) ?_
      refine lv_iload hx hb dX2_waysSure_42 (lv_at hl 4 rfl) ?_
      refine lv_bipush (v := 8) hx hb dX2_waysSure_44 (by decide) ?_
      refine lv_imul hx hb dX2_waysSure_46 ?_
      refine lv_iload hx hb dX2_waysSure_47 (lv_at hl 7 rfl) ?_
      refine lv_iadd hx hb dX2_waysSure_49 ?_
      have h9 := hv.1
      have hv := hv.2
      refine va_lald (f := σ) (n := 32) hx hb hK hP 0 1 rfl rfl h9 dX2_waysSure_50 ?_
      refine lv_land hx hb dX2_waysSure_51 ?_
      refine lv_lstore (lv' := [(10, .long (p2 &&& (σ (((p4 * 8) + x9)).toNatClampNeg))), (0, .ref (ad o)), (1, .int p1), (2, .long p2), (4, .long p3), (6, .int p4), (7, .int p5), (8, .int x8), (9, .int x9)]) hx hb dX2_waysSure_52 hl (by decide) rfl (fun ls hl => ?_)
      refine lv_iload hx hb dX2_waysSure_54 (lv_at hl 7 rfl) ?_
      refine lv_aload_n hx hb dX2_waysSure_56 rfl (lv_at hl 1 rfl) ?_
      refine lv_iload_n hx hb dX2_waysSure_57 rfl (lv_at hl 2 rfl) ?_
      refine lv_lload hx hb dX2_waysSure_58 (lv_at hl 0 rfl) ?_
      refine lv_lload hx hb dX2_waysSure_60 (lv_at hl 4 rfl) ?_
      refine lv_iload hx hb dX2_waysSure_62 (lv_at hl 5 rfl) ?_
      refine lv_iconst (v := 1) hx hb dX2_waysSure_64 (by decide) ?_
      refine lv_iadd hx hb dX2_waysSure_65 ?_
      refine lv_iload hx hb dX2_waysSure_66 (lv_at hl 6 rfl) ?_
      have h8 := hv.1
      have hv := hv.2
      have hPc := hP
      refine ro_int (va_runS (As := [.ref (ad o), .int p1, .long (p2 &&& (σ (((p4 * 8) + x9)).toNatClampNeg)), .long p3, .int (p4 + 1), .int p5]) (rest := [.int x8]) ⟨hx, hb, hml, hown, hts⟩ (h_X2_waysSure_1 g ad o σ p1 (p2 &&& (σ (((p4 * 8) + x9)).toNatClampNeg)) p3 (p4 + 1) p5 h8) (va_cwS 6 hts gX2_waysSure_X2_waysSure rfl rfl rfl (by decide +kernel) ⟨Nat.le_of_ble_eq_true rfl, Nat.le_of_ble_eq_true rfl⟩) ⟨RO_blind, fun U hU hW => ⟨rfl, by rw [hU]; exact hPc, va_K.moved hW.alike hK, hE.call hW hU hS (fun _ h => h.elim)⟩⟩ rfl rfl hl.1 rfl (lv_room (Nat.le_of_ble_eq_true rfl)) dX2_waysSure_68 ⟨Nat.le_of_ble_eq_true rfl, Nat.le_of_ble_eq_true rfl⟩) hS hP (fun r H locs hw hP hS => ?_)
      subst r
      refine lv_iadd hx hb dX2_waysSure_71 ?_
      refine lv_istore (lv' := [(8, .int (x8 + (waysN σ p1.toNatClampNeg p3 (p5 - (p4 + 1)).toNatClampNeg (p4 + 1).toNatClampNeg (p2 &&& (σ (((p4 * 8) + x9)).toNatClampNeg))))), (10, .long (p2 &&& (σ (((p4 * 8) + x9)).toNatClampNeg))), (0, .ref (ad o)), (1, .int p1), (2, .long p2), (4, .long p3), (6, .int p4), (7, .int p5), (9, .int x9)]) hx hb dX2_waysSure_72 hl (by decide) rfl (fun ls hl => ?_)
      refine lv_iinc (v := (x9 + 1)) (lv' := [(9, .int (x9 + 1)), (8, .int (x8 + (waysN σ p1.toNatClampNeg p3 (p5 - (p4 + 1)).toNatClampNeg (p4 + 1).toNatClampNeg (p2 &&& (σ (((p4 * 8) + x9)).toNatClampNeg))))), (10, .long (p2 &&& (σ (((p4 * 8) + x9)).toNatClampNeg))), (0, .ref (ad o)), (1, .int p1), (2, .long p2), (4, .long p3), (6, .int p4), (7, .int p5)]) hx hb dX2_waysSure_74 hl (k := 8) rfl (by first | rfl | exact congrArg _ (by decide)) (by decide) rfl (fun ls hl => ?_)
      refine lv_goto (tgt := 34) hx hb dX2_waysSure_77 (by decide) ?_
      exact hv H locs ls hP hS (lv_sub hl [3, 4, 5, 6, 7, 8, 1, 0] rfl))
  obtain ⟨H, hH⟩ : ∃ z, z = s.heap := ⟨_, rfl⟩
  obtain ⟨locs, hL⟩ : ∃ z : List Loc, z = [] := ⟨_, rfl⟩
  rw [← hL] at hS ⊢
  have hS : va_S A0 s.heap H locs := by rw [hH]; exact hS
  rw [← hH] at hP ⊢
  clear hH hL
  refine lv_iload hx hb dX2_waysSure_0 (lv_at hl 4 rfl) ?_
  refine lv_iload hx hb dX2_waysSure_2 (lv_at hl 5 rfl) ?_
  refine lv_icmp_ge (tgt := 13) hx hb dX2_waysSure_4 (by decide) (fun c4 => ?_) (fun c4 => ?_)
  · have hv := hv.1 c4
    refine lv_lload_n hx hb dX2_waysSure_13 rfl (lv_at hl 2 rfl) ?_
    refine lv_lload hx hb dX2_waysSure_14 (lv_at hl 3 rfl) ?_
    have hPc : va_P (gD g) vwCl [] H := fun k q h => by simp at h
    refine ro_int (va_runS (As := [.long p2, .long p3]) (rest := []) ⟨hx, hb, hml, hown, hts⟩ (h_X2_isSure g p2 p3) (va_cwS 2 hts gX2_waysSure_X2_isSure rfl rfl rfl (by decide +kernel) ⟨Nat.le_of_ble_eq_true rfl, Nat.le_of_ble_eq_true rfl⟩) ⟨RO_blind, fun U hU hW => ⟨rfl, by rw [hU]; exact hPc, va_K.moved hW.alike hK, hE.call hW hU hS (fun _ h => h.elim)⟩⟩ rfl rfl hl.1 rfl (lv_room (Nat.le_of_ble_eq_true rfl)) dX2_waysSure_16 ⟨Nat.le_of_ble_eq_true rfl, Nat.le_of_ble_eq_true rfl⟩) hS hP (fun r H locs hw hP hS => ?_)
    subst r
    refine lv_if_eq (tgt := 26) hx hb dX2_waysSure_19 (by decide) (fun c19 => ?_) (fun c19 => ?_)
    · have hv := hv.1 c19
      refine lv_iconst (v := 0) hx hb dX2_waysSure_26 (by decide) ?_
      exact W.iret (v := 0) hx hb hr (fun t ht hW => ⟨⟨0, (), rfl, hv, trivial⟩, hS.F ht⟩) hS.2.2 dX2_waysSure_27
    · have hv := hv.2 c19
      refine lv_iconst (v := 1) hx hb dX2_waysSure_22 (by decide) ?_
      refine lv_goto (tgt := 27) hx hb dX2_waysSure_23 (by decide) ?_
      exact W.iret (v := 1) hx hb hr (fun t ht hW => ⟨⟨1, (), rfl, hv, trivial⟩, hS.F ht⟩) hS.2.2 dX2_waysSure_27
  · have hv := hv.2 c4
    refine lv_iload hx hb dX2_waysSure_7 (lv_at hl 4 rfl) ?_
    refine lv_iconst (v := 4) hx hb dX2_waysSure_9 (by decide) ?_
    refine lv_icmp_lt (tgt := 28) hx hb dX2_waysSure_10 (by decide) (fun c10 => ?_) (fun c10 => ?_)
    · have hv := hv.1 c10
      refine lv_iconst (v := 0) hx hb dX2_waysSure_28 (by decide) ?_
      refine lv_istore (lv' := [(8, .int 0), (0, .ref (ad o)), (1, .int p1), (2, .long p2), (4, .long p3), (6, .int p4), (7, .int p5)]) hx hb dX2_waysSure_29 hl (by decide) rfl (fun ls hl => ?_)
      refine lv_iconst (v := 0) hx hb dX2_waysSure_31 (by decide) ?_
      refine lv_istore (lv' := [(9, .int 0), (8, .int 0), (0, .ref (ad o)), (1, .int p1), (2, .long p2), (4, .long p3), (6, .int p4), (7, .int p5)]) hx hb dX2_waysSure_32 hl (by decide) rfl (fun ls hl => ?_)
      exact hv H locs ls hP hS (lv_sub hl [2, 3, 4, 5, 6, 7, 1, 0] rfl)
    · have hv := hv.2 c10
      refine lv_lload_n hx hb dX2_waysSure_13 rfl (lv_at hl 2 rfl) ?_
      refine lv_lload hx hb dX2_waysSure_14 (lv_at hl 3 rfl) ?_
      have hPc : va_P (gD g) vwCl [] H := fun k q h => by simp at h
      refine ro_int (va_runS (As := [.long p2, .long p3]) (rest := []) ⟨hx, hb, hml, hown, hts⟩ (h_X2_isSure g p2 p3) (va_cwS 2 hts gX2_waysSure_X2_isSure rfl rfl rfl (by decide +kernel) ⟨Nat.le_of_ble_eq_true rfl, Nat.le_of_ble_eq_true rfl⟩) ⟨RO_blind, fun U hU hW => ⟨rfl, by rw [hU]; exact hPc, va_K.moved hW.alike hK, hE.call hW hU hS (fun _ h => h.elim)⟩⟩ rfl rfl hl.1 rfl (lv_room (Nat.le_of_ble_eq_true rfl)) dX2_waysSure_16 ⟨Nat.le_of_ble_eq_true rfl, Nat.le_of_ble_eq_true rfl⟩) hS hP (fun r H locs hw hP hS => ?_)
      subst r
      refine lv_if_eq (tgt := 26) hx hb dX2_waysSure_19 (by decide) (fun c19 => ?_) (fun c19 => ?_)
      · have hv := hv.1 c19
        refine lv_iconst (v := 0) hx hb dX2_waysSure_26 (by decide) ?_
        exact W.iret (v := 0) hx hb hr (fun t ht hW => ⟨⟨0, (), rfl, hv, trivial⟩, hS.F ht⟩) hS.2.2 dX2_waysSure_27
      · have hv := hv.2 c19
        refine lv_iconst (v := 1) hx hb dX2_waysSure_22 (by decide) ?_
        refine lv_goto (tgt := 27) hx hb dX2_waysSure_23 (by decide) ?_
        exact W.iret (v := 1) hx hb hr (fun t ht hW => ⟨⟨1, (), rfl, hv, trivial⟩, hS.F ht⟩) hS.2.2 dX2_waysSure_27

set_option maxHeartbeats 4000000 in
set_option maxRecDepth 100000 in
theorem m_X2_waysSure_3 (l : Launch) (h_X2_isSure : C_X2_isSure l) (h_X2_waysSure_2 : C_X2_waysSure_2 l) (g : CX) (ad : Nat → Nat) (o : Nat) (σ : FL) (p1 : Int32) (p2 : Int64) (p3 : Int64) (p4 : Int32) (p5 : Int32) (Post : Int32 → Prop) (hv : vc_X2_waysSure_3 σ p1 p2 p3 p4 p5 Post) : Met l yX2_waysSure wsX2_waysSure { frames := 4, cells := 0, slots := 0, locals := 118 } (va_Pc [.ref (ad o), .int p1, .long p2, .long p3, .int p4, .int p5] (RO g (wL g ad o σ))) (va_Qi (fun r (_ : Unit) => Post r) (fun _ _ => True) A0) 0 0 A0 := by
  unfold vc_X2_waysSure_3 at hv
  refine Met.ofW (cc := cX2_waysSure) (maxL := 12) (ret := (some .int)) (by decide) rfl ?_
  intro p e s m args below meth c s₁ B hml hv0
  obtain ⟨rfl, hP, hK, hE⟩ := hv0
  have hx := B.exec
  have hb := B.bytes
  have hr := B.returns
  have hts := atoms_spec (ws := wsX2_waysSure) B.pre
  have hown : s.vm.findClass RX2 = some m.cls := findClass_of_methodNamed B.named
  have hlocks := B.notSynchronized
  have hS : va_S A0 s.heap s.heap [] := va_S.rf
  have hP : va_P (gD g) vwCl (wL g ad o σ) s.heap := hP
  have hl := lv_entry ([.ref (ad o), .int p1, .long p2, .long p3, .int p4, .int p5]) (n := 12) (Nat.le_of_ble_eq_true rfl)
  rw [lg_entry_eq]
  generalize (lg_sl ([.ref (ad o), .int p1, .long p2, .long p3, .int p4, .int p5]) ++ List.replicate (12 - (lg_sl ([.ref (ad o), .int p1, .long p2, .long p3, .int p4, .int p5])).length) Slot.unset).toArray = ls at hl ⊢
  have hl : lv_has ls 12 [(0, .ref (ad o)), (1, .int p1), (2, .long p2), (4, .long p3), (6, .int p4), (7, .int p5)] := hl
  have hv := hv (fun (x8 : Int32) (x9 : Int32) => ∀ (H : Heap) (locs : List Loc) (ls : Array Slot), va_P (gD g) vwCl (wL g ad o σ) H → va_S A0 s.heap H locs → lv_has ls 12 [(0, .ref (ad o)), (1, .int p1), (2, .long p2), (4, .long p3), (6, .int p4), (7, .int p5), (8, .int x8), (9, .int x9)] → W p l e { frames := 4, cells := 0, slots := 0, locals := 118 } s m ([.ref (ad o), .int p1, .long p2, .long p3, .int p4, .int p5] : List Value).toArray below meth c H locs 0 0 (MQ below (va_Qi (fun r (_ : Unit) => Post r) (fun _ _ => True) A0) ([.ref (ad o), .int p1, .long p2, .long p3, .int p4, .int p5] : List Value).toArray s 0 0 A0) (F0 m 34 ls []))
  have hv := hv (by
    intro x8 x9 hv H locs ls hP hS hl
    refine lv_iload hx hb dX2_waysSure_34 (lv_at hl 7 rfl) ?_
    refine lv_iload_n hx hb dX2_waysSure_36 rfl (lv_at hl 1 rfl) ?_
    refine lv_icmp_ge (tgt := 80) hx hb dX2_waysSure_37 (by decide) (fun c37 => ?_) (fun c37 => ?_)
    · have hv := hv.1 c37
      refine lv_iload hx hb dX2_waysSure_80 (lv_at hl 6 rfl) ?_
      exact W.iret (v := x8) hx hb hr (fun t ht hW => ⟨⟨x8, (), rfl, hv, trivial⟩, hS.F ht⟩) hS.2.2 dX2_waysSure_82
    · have hv := hv.2 c37
      refine lv_lload_n hx hb dX2_waysSure_40 rfl (lv_at hl 2 rfl) ?_
      refine lv_aload_n hx hb dX2_waysSure_41 rfl (lv_at hl 0 rfl) ?_
      refine lv_iload hx hb dX2_waysSure_42 (lv_at hl 4 rfl) ?_
      refine lv_bipush (v := 8) hx hb dX2_waysSure_44 (by decide) ?_
      refine lv_imul hx hb dX2_waysSure_46 ?_
      refine lv_iload hx hb dX2_waysSure_47 (lv_at hl 7 rfl) ?_
      refine lv_iadd hx hb dX2_waysSure_49 ?_
      have h9 := hv.1
      have hv := hv.2
      refine va_lald (f := σ) (n := 32) hx hb hK hP 0 1 rfl rfl h9 dX2_waysSure_50 ?_
      refine lv_land hx hb dX2_waysSure_51 ?_
      refine lv_lstore (lv' := [(10, .long (p2 &&& (σ (((p4 * 8) + x9)).toNatClampNeg))), (0, .ref (ad o)), (1, .int p1), (2, .long p2), (4, .long p3), (6, .int p4), (7, .int p5), (8, .int x8), (9, .int x9)]) hx hb dX2_waysSure_52 hl (by decide) rfl (fun ls hl => ?_)
      refine lv_iload hx hb dX2_waysSure_54 (lv_at hl 7 rfl) ?_
      refine lv_aload_n hx hb dX2_waysSure_56 rfl (lv_at hl 1 rfl) ?_
      refine lv_iload_n hx hb dX2_waysSure_57 rfl (lv_at hl 2 rfl) ?_
      refine lv_lload hx hb dX2_waysSure_58 (lv_at hl 0 rfl) ?_
      refine lv_lload hx hb dX2_waysSure_60 (lv_at hl 4 rfl) ?_
      refine lv_iload hx hb dX2_waysSure_62 (lv_at hl 5 rfl) ?_
      refine lv_iconst (v := 1) hx hb dX2_waysSure_64 (by decide) ?_
      refine lv_iadd hx hb dX2_waysSure_65 ?_
      refine lv_iload hx hb dX2_waysSure_66 (lv_at hl 6 rfl) ?_
      have h8 := hv.1
      have hv := hv.2
      have hPc := hP
      refine ro_int (va_runS (As := [.ref (ad o), .int p1, .long (p2 &&& (σ (((p4 * 8) + x9)).toNatClampNeg)), .long p3, .int (p4 + 1), .int p5]) (rest := [.int x8]) ⟨hx, hb, hml, hown, hts⟩ (h_X2_waysSure_2 g ad o σ p1 (p2 &&& (σ (((p4 * 8) + x9)).toNatClampNeg)) p3 (p4 + 1) p5 h8) (va_cwS 6 hts gX2_waysSure_X2_waysSure rfl rfl rfl (by decide +kernel) ⟨Nat.le_of_ble_eq_true rfl, Nat.le_of_ble_eq_true rfl⟩) ⟨RO_blind, fun U hU hW => ⟨rfl, by rw [hU]; exact hPc, va_K.moved hW.alike hK, hE.call hW hU hS (fun _ h => h.elim)⟩⟩ rfl rfl hl.1 rfl (lv_room (Nat.le_of_ble_eq_true rfl)) dX2_waysSure_68 ⟨Nat.le_of_ble_eq_true rfl, Nat.le_of_ble_eq_true rfl⟩) hS hP (fun r H locs hw hP hS => ?_)
      subst r
      refine lv_iadd hx hb dX2_waysSure_71 ?_
      refine lv_istore (lv' := [(8, .int (x8 + (waysN σ p1.toNatClampNeg p3 (p5 - (p4 + 1)).toNatClampNeg (p4 + 1).toNatClampNeg (p2 &&& (σ (((p4 * 8) + x9)).toNatClampNeg))))), (10, .long (p2 &&& (σ (((p4 * 8) + x9)).toNatClampNeg))), (0, .ref (ad o)), (1, .int p1), (2, .long p2), (4, .long p3), (6, .int p4), (7, .int p5), (9, .int x9)]) hx hb dX2_waysSure_72 hl (by decide) rfl (fun ls hl => ?_)
      refine lv_iinc (v := (x9 + 1)) (lv' := [(9, .int (x9 + 1)), (8, .int (x8 + (waysN σ p1.toNatClampNeg p3 (p5 - (p4 + 1)).toNatClampNeg (p4 + 1).toNatClampNeg (p2 &&& (σ (((p4 * 8) + x9)).toNatClampNeg))))), (10, .long (p2 &&& (σ (((p4 * 8) + x9)).toNatClampNeg))), (0, .ref (ad o)), (1, .int p1), (2, .long p2), (4, .long p3), (6, .int p4), (7, .int p5)]) hx hb dX2_waysSure_74 hl (k := 8) rfl (by first | rfl | exact congrArg _ (by decide)) (by decide) rfl (fun ls hl => ?_)
      refine lv_goto (tgt := 34) hx hb dX2_waysSure_77 (by decide) ?_
      exact hv H locs ls hP hS (lv_sub hl [3, 4, 5, 6, 7, 8, 1, 0] rfl))
  obtain ⟨H, hH⟩ : ∃ z, z = s.heap := ⟨_, rfl⟩
  obtain ⟨locs, hL⟩ : ∃ z : List Loc, z = [] := ⟨_, rfl⟩
  rw [← hL] at hS ⊢
  have hS : va_S A0 s.heap H locs := by rw [hH]; exact hS
  rw [← hH] at hP ⊢
  clear hH hL
  refine lv_iload hx hb dX2_waysSure_0 (lv_at hl 4 rfl) ?_
  refine lv_iload hx hb dX2_waysSure_2 (lv_at hl 5 rfl) ?_
  refine lv_icmp_ge (tgt := 13) hx hb dX2_waysSure_4 (by decide) (fun c4 => ?_) (fun c4 => ?_)
  · have hv := hv.1 c4
    refine lv_lload_n hx hb dX2_waysSure_13 rfl (lv_at hl 2 rfl) ?_
    refine lv_lload hx hb dX2_waysSure_14 (lv_at hl 3 rfl) ?_
    have hPc : va_P (gD g) vwCl [] H := fun k q h => by simp at h
    refine ro_int (va_runS (As := [.long p2, .long p3]) (rest := []) ⟨hx, hb, hml, hown, hts⟩ (h_X2_isSure g p2 p3) (va_cwS 2 hts gX2_waysSure_X2_isSure rfl rfl rfl (by decide +kernel) ⟨Nat.le_of_ble_eq_true rfl, Nat.le_of_ble_eq_true rfl⟩) ⟨RO_blind, fun U hU hW => ⟨rfl, by rw [hU]; exact hPc, va_K.moved hW.alike hK, hE.call hW hU hS (fun _ h => h.elim)⟩⟩ rfl rfl hl.1 rfl (lv_room (Nat.le_of_ble_eq_true rfl)) dX2_waysSure_16 ⟨Nat.le_of_ble_eq_true rfl, Nat.le_of_ble_eq_true rfl⟩) hS hP (fun r H locs hw hP hS => ?_)
    subst r
    refine lv_if_eq (tgt := 26) hx hb dX2_waysSure_19 (by decide) (fun c19 => ?_) (fun c19 => ?_)
    · have hv := hv.1 c19
      refine lv_iconst (v := 0) hx hb dX2_waysSure_26 (by decide) ?_
      exact W.iret (v := 0) hx hb hr (fun t ht hW => ⟨⟨0, (), rfl, hv, trivial⟩, hS.F ht⟩) hS.2.2 dX2_waysSure_27
    · have hv := hv.2 c19
      refine lv_iconst (v := 1) hx hb dX2_waysSure_22 (by decide) ?_
      refine lv_goto (tgt := 27) hx hb dX2_waysSure_23 (by decide) ?_
      exact W.iret (v := 1) hx hb hr (fun t ht hW => ⟨⟨1, (), rfl, hv, trivial⟩, hS.F ht⟩) hS.2.2 dX2_waysSure_27
  · have hv := hv.2 c4
    refine lv_iload hx hb dX2_waysSure_7 (lv_at hl 4 rfl) ?_
    refine lv_iconst (v := 4) hx hb dX2_waysSure_9 (by decide) ?_
    refine lv_icmp_lt (tgt := 28) hx hb dX2_waysSure_10 (by decide) (fun c10 => ?_) (fun c10 => ?_)
    · have hv := hv.1 c10
      refine lv_iconst (v := 0) hx hb dX2_waysSure_28 (by decide) ?_
      refine lv_istore (lv' := [(8, .int 0), (0, .ref (ad o)), (1, .int p1), (2, .long p2), (4, .long p3), (6, .int p4), (7, .int p5)]) hx hb dX2_waysSure_29 hl (by decide) rfl (fun ls hl => ?_)
      refine lv_iconst (v := 0) hx hb dX2_waysSure_31 (by decide) ?_
      refine lv_istore (lv' := [(9, .int 0), (8, .int 0), (0, .ref (ad o)), (1, .int p1), (2, .long p2), (4, .long p3), (6, .int p4), (7, .int p5)]) hx hb dX2_waysSure_32 hl (by decide) rfl (fun ls hl => ?_)
      exact hv H locs ls hP hS (lv_sub hl [2, 3, 4, 5, 6, 7, 1, 0] rfl)
    · have hv := hv.2 c10
      refine lv_lload_n hx hb dX2_waysSure_13 rfl (lv_at hl 2 rfl) ?_
      refine lv_lload hx hb dX2_waysSure_14 (lv_at hl 3 rfl) ?_
      have hPc : va_P (gD g) vwCl [] H := fun k q h => by simp at h
      refine ro_int (va_runS (As := [.long p2, .long p3]) (rest := []) ⟨hx, hb, hml, hown, hts⟩ (h_X2_isSure g p2 p3) (va_cwS 2 hts gX2_waysSure_X2_isSure rfl rfl rfl (by decide +kernel) ⟨Nat.le_of_ble_eq_true rfl, Nat.le_of_ble_eq_true rfl⟩) ⟨RO_blind, fun U hU hW => ⟨rfl, by rw [hU]; exact hPc, va_K.moved hW.alike hK, hE.call hW hU hS (fun _ h => h.elim)⟩⟩ rfl rfl hl.1 rfl (lv_room (Nat.le_of_ble_eq_true rfl)) dX2_waysSure_16 ⟨Nat.le_of_ble_eq_true rfl, Nat.le_of_ble_eq_true rfl⟩) hS hP (fun r H locs hw hP hS => ?_)
      subst r
      refine lv_if_eq (tgt := 26) hx hb dX2_waysSure_19 (by decide) (fun c19 => ?_) (fun c19 => ?_)
      · have hv := hv.1 c19
        refine lv_iconst (v := 0) hx hb dX2_waysSure_26 (by decide) ?_
        exact W.iret (v := 0) hx hb hr (fun t ht hW => ⟨⟨0, (), rfl, hv, trivial⟩, hS.F ht⟩) hS.2.2 dX2_waysSure_27
      · have hv := hv.2 c19
        refine lv_iconst (v := 1) hx hb dX2_waysSure_22 (by decide) ?_
        refine lv_goto (tgt := 27) hx hb dX2_waysSure_23 (by decide) ?_
        exact W.iret (v := 1) hx hb hr (fun t ht hW => ⟨⟨1, (), rfl, hv, trivial⟩, hS.F ht⟩) hS.2.2 dX2_waysSure_27

set_option maxHeartbeats 4000000 in
set_option maxRecDepth 100000 in
theorem m_X2_waysSure_4 (l : Launch) (h_X2_isSure : C_X2_isSure l) (h_X2_waysSure_3 : C_X2_waysSure_3 l) (g : CX) (ad : Nat → Nat) (o : Nat) (σ : FL) (p1 : Int32) (p2 : Int64) (p3 : Int64) (p4 : Int32) (p5 : Int32) (Post : Int32 → Prop) (hv : vc_X2_waysSure_4 σ p1 p2 p3 p4 p5 Post) : Met l yX2_waysSure wsX2_waysSure { frames := 5, cells := 0, slots := 0, locals := 149 } (va_Pc [.ref (ad o), .int p1, .long p2, .long p3, .int p4, .int p5] (RO g (wL g ad o σ))) (va_Qi (fun r (_ : Unit) => Post r) (fun _ _ => True) A0) 0 0 A0 := by
  unfold vc_X2_waysSure_4 at hv
  refine Met.ofW (cc := cX2_waysSure) (maxL := 12) (ret := (some .int)) (by decide) rfl ?_
  intro p e s m args below meth c s₁ B hml hv0
  obtain ⟨rfl, hP, hK, hE⟩ := hv0
  have hx := B.exec
  have hb := B.bytes
  have hr := B.returns
  have hts := atoms_spec (ws := wsX2_waysSure) B.pre
  have hown : s.vm.findClass RX2 = some m.cls := findClass_of_methodNamed B.named
  have hlocks := B.notSynchronized
  have hS : va_S A0 s.heap s.heap [] := va_S.rf
  have hP : va_P (gD g) vwCl (wL g ad o σ) s.heap := hP
  have hl := lv_entry ([.ref (ad o), .int p1, .long p2, .long p3, .int p4, .int p5]) (n := 12) (Nat.le_of_ble_eq_true rfl)
  rw [lg_entry_eq]
  generalize (lg_sl ([.ref (ad o), .int p1, .long p2, .long p3, .int p4, .int p5]) ++ List.replicate (12 - (lg_sl ([.ref (ad o), .int p1, .long p2, .long p3, .int p4, .int p5])).length) Slot.unset).toArray = ls at hl ⊢
  have hl : lv_has ls 12 [(0, .ref (ad o)), (1, .int p1), (2, .long p2), (4, .long p3), (6, .int p4), (7, .int p5)] := hl
  have hv := hv (fun (x8 : Int32) (x9 : Int32) => ∀ (H : Heap) (locs : List Loc) (ls : Array Slot), va_P (gD g) vwCl (wL g ad o σ) H → va_S A0 s.heap H locs → lv_has ls 12 [(0, .ref (ad o)), (1, .int p1), (2, .long p2), (4, .long p3), (6, .int p4), (7, .int p5), (8, .int x8), (9, .int x9)] → W p l e { frames := 5, cells := 0, slots := 0, locals := 149 } s m ([.ref (ad o), .int p1, .long p2, .long p3, .int p4, .int p5] : List Value).toArray below meth c H locs 0 0 (MQ below (va_Qi (fun r (_ : Unit) => Post r) (fun _ _ => True) A0) ([.ref (ad o), .int p1, .long p2, .long p3, .int p4, .int p5] : List Value).toArray s 0 0 A0) (F0 m 34 ls []))
  have hv := hv (by
    intro x8 x9 hv H locs ls hP hS hl
    refine lv_iload hx hb dX2_waysSure_34 (lv_at hl 7 rfl) ?_
    refine lv_iload_n hx hb dX2_waysSure_36 rfl (lv_at hl 1 rfl) ?_
    refine lv_icmp_ge (tgt := 80) hx hb dX2_waysSure_37 (by decide) (fun c37 => ?_) (fun c37 => ?_)
    · have hv := hv.1 c37
      refine lv_iload hx hb dX2_waysSure_80 (lv_at hl 6 rfl) ?_
      exact W.iret (v := x8) hx hb hr (fun t ht hW => ⟨⟨x8, (), rfl, hv, trivial⟩, hS.F ht⟩) hS.2.2 dX2_waysSure_82
    · have hv := hv.2 c37
      refine lv_lload_n hx hb dX2_waysSure_40 rfl (lv_at hl 2 rfl) ?_
      refine lv_aload_n hx hb dX2_waysSure_41 rfl (lv_at hl 0 rfl) ?_
      refine lv_iload hx hb dX2_waysSure_42 (lv_at hl 4 rfl) ?_
      refine lv_bipush (v := 8) hx hb dX2_waysSure_44 (by decide) ?_
      refine lv_imul hx hb dX2_waysSure_46 ?_
      refine lv_iload hx hb dX2_waysSure_47 (lv_at hl 7 rfl) ?_
      refine lv_iadd hx hb dX2_waysSure_49 ?_
      have h9 := hv.1
      have hv := hv.2
      refine va_lald (f := σ) (n := 32) hx hb hK hP 0 1 rfl rfl h9 dX2_waysSure_50 ?_
      refine lv_land hx hb dX2_waysSure_51 ?_
      refine lv_lstore (lv' := [(10, .long (p2 &&& (σ (((p4 * 8) + x9)).toNatClampNeg))), (0, .ref (ad o)), (1, .int p1), (2, .long p2), (4, .long p3), (6, .int p4), (7, .int p5), (8, .int x8), (9, .int x9)]) hx hb dX2_waysSure_52 hl (by decide) rfl (fun ls hl => ?_)
      refine lv_iload hx hb dX2_waysSure_54 (lv_at hl 7 rfl) ?_
      refine lv_aload_n hx hb dX2_waysSure_56 rfl (lv_at hl 1 rfl) ?_
      refine lv_iload_n hx hb dX2_waysSure_57 rfl (lv_at hl 2 rfl) ?_
      refine lv_lload hx hb dX2_waysSure_58 (lv_at hl 0 rfl) ?_
      refine lv_lload hx hb dX2_waysSure_60 (lv_at hl 4 rfl) ?_
      refine lv_iload hx hb dX2_waysSure_62 (lv_at hl 5 rfl) ?_
      refine lv_iconst (v := 1) hx hb dX2_waysSure_64 (by decide) ?_
      refine lv_iadd hx hb dX2_waysSure_65 ?_
      refine lv_iload hx hb dX2_waysSure_66 (lv_at hl 6 rfl) ?_
      have h8 := hv.1
      have hv := hv.2
      have hPc := hP
      refine ro_int (va_runS (As := [.ref (ad o), .int p1, .long (p2 &&& (σ (((p4 * 8) + x9)).toNatClampNeg)), .long p3, .int (p4 + 1), .int p5]) (rest := [.int x8]) ⟨hx, hb, hml, hown, hts⟩ (h_X2_waysSure_3 g ad o σ p1 (p2 &&& (σ (((p4 * 8) + x9)).toNatClampNeg)) p3 (p4 + 1) p5 h8) (va_cwS 6 hts gX2_waysSure_X2_waysSure rfl rfl rfl (by decide +kernel) ⟨Nat.le_of_ble_eq_true rfl, Nat.le_of_ble_eq_true rfl⟩) ⟨RO_blind, fun U hU hW => ⟨rfl, by rw [hU]; exact hPc, va_K.moved hW.alike hK, hE.call hW hU hS (fun _ h => h.elim)⟩⟩ rfl rfl hl.1 rfl (lv_room (Nat.le_of_ble_eq_true rfl)) dX2_waysSure_68 ⟨Nat.le_of_ble_eq_true rfl, Nat.le_of_ble_eq_true rfl⟩) hS hP (fun r H locs hw hP hS => ?_)
      subst r
      refine lv_iadd hx hb dX2_waysSure_71 ?_
      refine lv_istore (lv' := [(8, .int (x8 + (waysN σ p1.toNatClampNeg p3 (p5 - (p4 + 1)).toNatClampNeg (p4 + 1).toNatClampNeg (p2 &&& (σ (((p4 * 8) + x9)).toNatClampNeg))))), (10, .long (p2 &&& (σ (((p4 * 8) + x9)).toNatClampNeg))), (0, .ref (ad o)), (1, .int p1), (2, .long p2), (4, .long p3), (6, .int p4), (7, .int p5), (9, .int x9)]) hx hb dX2_waysSure_72 hl (by decide) rfl (fun ls hl => ?_)
      refine lv_iinc (v := (x9 + 1)) (lv' := [(9, .int (x9 + 1)), (8, .int (x8 + (waysN σ p1.toNatClampNeg p3 (p5 - (p4 + 1)).toNatClampNeg (p4 + 1).toNatClampNeg (p2 &&& (σ (((p4 * 8) + x9)).toNatClampNeg))))), (10, .long (p2 &&& (σ (((p4 * 8) + x9)).toNatClampNeg))), (0, .ref (ad o)), (1, .int p1), (2, .long p2), (4, .long p3), (6, .int p4), (7, .int p5)]) hx hb dX2_waysSure_74 hl (k := 8) rfl (by first | rfl | exact congrArg _ (by decide)) (by decide) rfl (fun ls hl => ?_)
      refine lv_goto (tgt := 34) hx hb dX2_waysSure_77 (by decide) ?_
      exact hv H locs ls hP hS (lv_sub hl [3, 4, 5, 6, 7, 8, 1, 0] rfl))
  obtain ⟨H, hH⟩ : ∃ z, z = s.heap := ⟨_, rfl⟩
  obtain ⟨locs, hL⟩ : ∃ z : List Loc, z = [] := ⟨_, rfl⟩
  rw [← hL] at hS ⊢
  have hS : va_S A0 s.heap H locs := by rw [hH]; exact hS
  rw [← hH] at hP ⊢
  clear hH hL
  refine lv_iload hx hb dX2_waysSure_0 (lv_at hl 4 rfl) ?_
  refine lv_iload hx hb dX2_waysSure_2 (lv_at hl 5 rfl) ?_
  refine lv_icmp_ge (tgt := 13) hx hb dX2_waysSure_4 (by decide) (fun c4 => ?_) (fun c4 => ?_)
  · have hv := hv.1 c4
    refine lv_lload_n hx hb dX2_waysSure_13 rfl (lv_at hl 2 rfl) ?_
    refine lv_lload hx hb dX2_waysSure_14 (lv_at hl 3 rfl) ?_
    have hPc : va_P (gD g) vwCl [] H := fun k q h => by simp at h
    refine ro_int (va_runS (As := [.long p2, .long p3]) (rest := []) ⟨hx, hb, hml, hown, hts⟩ (h_X2_isSure g p2 p3) (va_cwS 2 hts gX2_waysSure_X2_isSure rfl rfl rfl (by decide +kernel) ⟨Nat.le_of_ble_eq_true rfl, Nat.le_of_ble_eq_true rfl⟩) ⟨RO_blind, fun U hU hW => ⟨rfl, by rw [hU]; exact hPc, va_K.moved hW.alike hK, hE.call hW hU hS (fun _ h => h.elim)⟩⟩ rfl rfl hl.1 rfl (lv_room (Nat.le_of_ble_eq_true rfl)) dX2_waysSure_16 ⟨Nat.le_of_ble_eq_true rfl, Nat.le_of_ble_eq_true rfl⟩) hS hP (fun r H locs hw hP hS => ?_)
    subst r
    refine lv_if_eq (tgt := 26) hx hb dX2_waysSure_19 (by decide) (fun c19 => ?_) (fun c19 => ?_)
    · have hv := hv.1 c19
      refine lv_iconst (v := 0) hx hb dX2_waysSure_26 (by decide) ?_
      exact W.iret (v := 0) hx hb hr (fun t ht hW => ⟨⟨0, (), rfl, hv, trivial⟩, hS.F ht⟩) hS.2.2 dX2_waysSure_27
    · have hv := hv.2 c19
      refine lv_iconst (v := 1) hx hb dX2_waysSure_22 (by decide) ?_
      refine lv_goto (tgt := 27) hx hb dX2_waysSure_23 (by decide) ?_
      exact W.iret (v := 1) hx hb hr (fun t ht hW => ⟨⟨1, (), rfl, hv, trivial⟩, hS.F ht⟩) hS.2.2 dX2_waysSure_27
  · have hv := hv.2 c4
    refine lv_iload hx hb dX2_waysSure_7 (lv_at hl 4 rfl) ?_
    refine lv_iconst (v := 4) hx hb dX2_waysSure_9 (by decide) ?_
    refine lv_icmp_lt (tgt := 28) hx hb dX2_waysSure_10 (by decide) (fun c10 => ?_) (fun c10 => ?_)
    · have hv := hv.1 c10
      refine lv_iconst (v := 0) hx hb dX2_waysSure_28 (by decide) ?_
      refine lv_istore (lv' := [(8, .int 0), (0, .ref (ad o)), (1, .int p1), (2, .long p2), (4, .long p3), (6, .int p4), (7, .int p5)]) hx hb dX2_waysSure_29 hl (by decide) rfl (fun ls hl => ?_)
      refine lv_iconst (v := 0) hx hb dX2_waysSure_31 (by decide) ?_
      refine lv_istore (lv' := [(9, .int 0), (8, .int 0), (0, .ref (ad o)), (1, .int p1), (2, .long p2), (4, .long p3), (6, .int p4), (7, .int p5)]) hx hb dX2_waysSure_32 hl (by decide) rfl (fun ls hl => ?_)
      exact hv H locs ls hP hS (lv_sub hl [2, 3, 4, 5, 6, 7, 1, 0] rfl)
    · have hv := hv.2 c10
      refine lv_lload_n hx hb dX2_waysSure_13 rfl (lv_at hl 2 rfl) ?_
      refine lv_lload hx hb dX2_waysSure_14 (lv_at hl 3 rfl) ?_
      have hPc : va_P (gD g) vwCl [] H := fun k q h => by simp at h
      refine ro_int (va_runS (As := [.long p2, .long p3]) (rest := []) ⟨hx, hb, hml, hown, hts⟩ (h_X2_isSure g p2 p3) (va_cwS 2 hts gX2_waysSure_X2_isSure rfl rfl rfl (by decide +kernel) ⟨Nat.le_of_ble_eq_true rfl, Nat.le_of_ble_eq_true rfl⟩) ⟨RO_blind, fun U hU hW => ⟨rfl, by rw [hU]; exact hPc, va_K.moved hW.alike hK, hE.call hW hU hS (fun _ h => h.elim)⟩⟩ rfl rfl hl.1 rfl (lv_room (Nat.le_of_ble_eq_true rfl)) dX2_waysSure_16 ⟨Nat.le_of_ble_eq_true rfl, Nat.le_of_ble_eq_true rfl⟩) hS hP (fun r H locs hw hP hS => ?_)
      subst r
      refine lv_if_eq (tgt := 26) hx hb dX2_waysSure_19 (by decide) (fun c19 => ?_) (fun c19 => ?_)
      · have hv := hv.1 c19
        refine lv_iconst (v := 0) hx hb dX2_waysSure_26 (by decide) ?_
        exact W.iret (v := 0) hx hb hr (fun t ht hW => ⟨⟨0, (), rfl, hv, trivial⟩, hS.F ht⟩) hS.2.2 dX2_waysSure_27
      · have hv := hv.2 c19
        refine lv_iconst (v := 1) hx hb dX2_waysSure_22 (by decide) ?_
        refine lv_goto (tgt := 27) hx hb dX2_waysSure_23 (by decide) ?_
        exact W.iret (v := 1) hx hb hr (fun t ht hW => ⟨⟨1, (), rfl, hv, trivial⟩, hS.F ht⟩) hS.2.2 dX2_waysSure_27

