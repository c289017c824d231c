set_option maxHeartbeats 4000000 in
set_option maxRecDepth 100000 in
theorem m_X3_no (l : Launch)  (g : CX) (ad : Nat → Nat) (σ : KM) (p0 : Int32) (Post : Int32 → KM → Prop) (hv : vc_X3_no σ p0 Post) : Met l yX3_no wsX3_no { frames := 0, cells := 0, slots := 0, locals := 0 } (va_Pc [.ref (ad 0), .int p0] (RW g (AD ad 0 21) (wM g ad σ))) (va_Qi (fun (r : Int32) (u : KM) => Post r u) (fun u t => va_P (gD g) vwCl (wM g ad u) t.heap) (AD ad 0 21)) 0 0 (AD ad 0 21) := by
  unfold vc_X3_no at hv
  refine Met.ofW (cc := cX3_no) (maxL := 2) (ret := (some .int)) (by decide) rfl ?_
  intro p e s m args below meth c s₁ B hml hv0
  obtain ⟨rfl, hP, hK, hE, hD⟩ := hv0
  have hx := B.exec
  have hb := B.bytes
  have hr := B.returns
  have hts := atoms_spec (ws := wsX3_no) B.pre
  have hown : s.vm.findClass RX3 = some m.cls := findClass_of_methodNamed B.named
  have hlocks := B.notSynchronized
  have hi3 : ∀ w ∈ wsX30, w ∈ wsX3_no := by decide +kernel
  have k0 := hts (.fieldLink RX3 7 "JuryHearsAnswersModel" "refused" "[I") (by decide +kernel)
  have hS : va_S (AD ad 0 21) s.heap s.heap [] := va_S.rf
  have hP : va_P (gD g) vwCl (wM g ad σ) s.heap := hP
  have hl := lv_entry ([.ref (ad 0), .int p0]) (n := 2) (Nat.le_of_ble_eq_true rfl)
  rw [lg_entry_eq]
  generalize (lg_sl ([.ref (ad 0), .int p0]) ++ List.replicate (2 - (lg_sl ([.ref (ad 0), .int p0])).length) Slot.unset).toArray = ls at hl ⊢
  have hl : lv_has ls 2 [(0, .ref (ad 0)), (1, .int p0)] := hl
  obtain ⟨H, hH⟩ : ∃ z, z = s.heap := ⟨_, rfl⟩
  obtain ⟨locs, hL⟩ : ∃ z : List Loc, z = [] := ⟨_, rfl⟩
  rw [← hL] at hS ⊢
  have hS : va_S (AD ad 0 21) s.heap H locs := by rw [hH]; exact hS
  rw [← hH] at hP ⊢
  clear hH hL
  refine lv_aload_n hx hb dX3_no_0 rfl (lv_at hl 0 rfl) ?_
  refine va_get (D := gD g) (ci := 3) (v := .ref (ad 1)) (C := RX3) (T := TX3) (N := 33) hx hb hts hi3 hown hK hP 0 rfl rfl 0 (by decide) k0 (fun _ h9 => h9) rfl dX3_no_1 ?_
  refine lv_iload_n hx hb dX3_no_4 rfl (lv_at hl 1 rfl) ?_
  refine lv_ineg hx hb dX3_no_5 ?_
  refine lv_dup2_11 hx hb dX3_no_6 rfl rfl ?_
  have h9 := hv.1
  have hv := hv.2
  refine va_iald (f := (mRefused σ)) (n := 7) hx hb hK hP 1 0 rfl rfl h9 dX3_no_7 ?_
  refine lv_iconst (v := 1) hx hb dX3_no_8 (by decide) ?_
  refine lv_iadd hx hb dX3_no_9 ?_
  have h9 := hv.1
  have hv := hv.2
  refine va_iast (f := (mRefused σ)) (n := 7) hx hb hK hP hD hS 1 0 rfl rfl h9 dX3_no_10 (fun H locs hP hD hS => ?_)
  have hP : va_P (gD g) vwCl (wM g ad ((mS σ), (mT σ), (mK σ), (mF σ), (mRow σ), (mRowMany σ), (mLots σ), (upd (mRefused σ) ((- p0)).toNatClampNeg (((mRefused σ) ((- p0)).toNatClampNeg) + 1)))) H := hP
  have hD : va_D (AD ad 0 21) (wM g ad ((mS σ), (mT σ), (mK σ), (mF σ), (mRow σ), (mRowMany σ), (mLots σ), (upd (mRefused σ) ((- p0)).toNatClampNeg (((mRefused σ) ((- p0)).toNatClampNeg) + 1)))) := hD
  refine lv_iload_n hx hb dX3_no_11 rfl (lv_at hl 1 rfl) ?_
  exact W.iret (v := p0) hx hb hr (fun t ht hW => ⟨⟨p0, ((mS σ), (mT σ), (mK σ), (mF σ), (mRow σ), (mRowMany σ), (mLots σ), (upd (mRefused σ) ((- p0)).toNatClampNeg (((mRefused σ) ((- p0)).toNatClampNeg) + 1))), rfl, hv, P_at ht hP⟩, hS.F ht⟩) hS.2.2 dX3_no_12

set_option maxHeartbeats 4000000 in
set_option maxRecDepth 100000 in
theorem m_X3_lowest (l : Launch)  (g : CX) (ad : Nat → Nat) (σ : KM) (p0 : Int32) (Post : Int64 → KM → Prop) (hv : vc_X3_lowest σ p0 Post) : Met l yX3_lowest wsX3_lowest { frames := 0, cells := 0, slots := 0, locals := 0 } (va_Pc [.ref (ad 0), .int p0] (RW g (AD ad 0 21) (wM g ad σ))) (va_Ql (fun (r : Int64) (u : KM) => Post r u) (fun u t => va_P (gD g) vwCl (wM g ad u) t.heap) (AD ad 0 21)) 0 0 (AD ad 0 21) := by
  unfold vc_X3_lowest at hv
  refine Met.ofW (cc := cX3_lowest) (maxL := 2) (ret := (some .long)) (by decide) rfl ?_
  intro p e s m args below meth c s₁ B hml hv0
  obtain ⟨rfl, hP, hK, hE, hD⟩ := hv0
  have hx := B.exec
  have hb := B.bytes
  have hr := B.returns
  have hts := atoms_spec (ws := wsX3_lowest) B.pre
  have hown : s.vm.findClass RX3 = some m.cls := findClass_of_methodNamed B.named
  have hlocks := B.notSynchronized
  have hi3 : ∀ w ∈ wsX30, w ∈ wsX3_lowest := by decide +kernel
  have k0 := hts (.fieldLink RX3 7 "JuryHearsAnswersModel" "refused" "[I") (by decide +kernel)
  have k1 := hts (.constantLong RX3 74 4000000000000000000) (by decide +kernel)
  have hS : va_S (AD ad 0 21) s.heap s.heap [] := va_S.rf
  have hP : va_P (gD g) vwCl (wM g ad σ) s.heap := hP
  have hl := lv_entry ([.ref (ad 0), .int p0]) (n := 2) (Nat.le_of_ble_eq_true rfl)
  rw [lg_entry_eq]
  generalize (lg_sl ([.ref (ad 0), .int p0]) ++ List.replicate (2 - (lg_sl ([.ref (ad 0), .int p0])).length) Slot.unset).toArray = ls at hl ⊢
  have hl : lv_has ls 2 [(0, .ref (ad 0)), (1, .int p0)] := hl
  obtain ⟨H, hH⟩ : ∃ z, z = s.heap := ⟨_, rfl⟩
  obtain ⟨locs, hL⟩ : ∃ z : List Loc, z = [] := ⟨_, rfl⟩
  rw [← hL] at hS ⊢
  have hS : va_S (AD ad 0 21) s.heap H locs := by rw [hH]; exact hS
  rw [← hH] at hP ⊢
  clear hH hL
  refine lv_aload_n hx hb dX3_lowest_0 rfl (lv_at hl 0 rfl) ?_
  refine va_get (D := gD g) (ci := 3) (v := .ref (ad 1)) (C := RX3) (T := TX3) (N := 33) hx hb hts hi3 hown hK hP 0 rfl rfl 0 (by decide) k0 (fun _ h9 => h9) rfl dX3_lowest_1 ?_
  refine lv_iload_n hx hb dX3_lowest_4 rfl (lv_at hl 1 rfl) ?_
  refine lv_ineg hx hb dX3_lowest_5 ?_
  refine lv_dup2_11 hx hb dX3_lowest_6 rfl rfl ?_
  have h9 := hv.1
  have hv := hv.2
  refine va_iald (f := (mRefused σ)) (n := 7) hx hb hK hP 1 0 rfl rfl h9 dX3_lowest_7 ?_
  refine lv_iconst (v := 1) hx hb dX3_lowest_8 (by decide) ?_
  refine lv_iadd hx hb dX3_lowest_9 ?_
  have h9 := hv.1
  have hv := hv.2
  refine va_iast (f := (mRefused σ)) (n := 7) hx hb hK hP hD hS 1 0 rfl rfl h9 dX3_lowest_10 (fun H locs hP hD hS => ?_)
  have hP : va_P (gD g) vwCl (wM g ad ((mS σ), (mT σ), (mK σ), (mF σ), (mRow σ), (mRowMany σ), (mLots σ), (upd (mRefused σ) ((- p0)).toNatClampNeg (((mRefused σ) ((- p0)).toNatClampNeg) + 1)))) H := hP
  have hD : va_D (AD ad 0 21) (wM g ad ((mS σ), (mT σ), (mK σ), (mF σ), (mRow σ), (mRowMany σ), (mLots σ), (upd (mRefused σ) ((- p0)).toNatClampNeg (((mRefused σ) ((- p0)).toNatClampNeg) + 1)))) := hD
  refine lv_ldc2 hx hb hown k1 dX3_lowest_11 ?_
  refine lv_iload_n hx hb dX3_lowest_14 rfl (lv_at hl 1 rfl) ?_
  refine lv_i2l hx hb dX3_lowest_15 rfl ?_
  refine lv_lsub hx hb dX3_lowest_16 ?_
  exact W.lret (v := (4000000000000000000 - (p0).toInt64)) hx hb hr (fun t ht hW => ⟨⟨(4000000000000000000 - (p0).toInt64), ((mS σ), (mT σ), (mK σ), (mF σ), (mRow σ), (mRowMany σ), (mLots σ), (upd (mRefused σ) ((- p0)).toNatClampNeg (((mRefused σ) ((- p0)).toNatClampNeg) + 1))), rfl, hv, P_at ht hP⟩, hS.F ht⟩) hS.2.2 dX3_lowest_17

set_option maxHeartbeats 4000000 in
set_option maxRecDepth 100000 in
theorem m_X3_isIn (l : Launch)  (g : CX) (p0 : Int32) (p1 : Int32) (p2 : Int32) (Post : Int32 → Prop) (hv : vc_X3_isIn p0 p1 p2 Post) : Met l yX3_isIn wsX3_isIn { frames := 0, cells := 0, slots := 0, locals := 0 } (va_Pc [.int p0, .int p1, .int p2] (RO g [])) (va_Qi (fun r (_ : Unit) => Post r) (fun _ _ => True) A0) 0 0 A0 := by
  unfold vc_X3_isIn at hv
  refine Met.ofW (cc := cX3_isIn) (maxL := 3) (ret := (some .boolean)) (by decide) rfl ?_
  intro p e s m args below meth c s₁ B hml hv0
  obtain ⟨rfl, hP, hK, hE⟩ := hv0
  have hx := B.exec
  have hb := B.bytes
  have hr := B.returns
  have hts := atoms_spec (ws := wsX3_isIn) B.pre
  have hown : s.vm.findClass RX3 = some m.cls := findClass_of_methodNamed B.named
  have hlocks := B.notSynchronized
  have hS : va_S A0 s.heap s.heap [] := va_S.rf
  have hP : va_P (gD g) vwCl ([]) s.heap := hP
  have hl := lv_entry ([.int p0, .int p1, .int p2]) (n := 3) (Nat.le_of_ble_eq_true rfl)
  rw [lg_entry_eq]
  generalize (lg_sl ([.int p0, .int p1, .int p2]) ++ List.replicate (3 - (lg_sl ([.int p0, .int p1, .int p2])).length) Slot.unset).toArray = ls at hl ⊢
  have hl : lv_has ls 3 [(0, .int p0), (1, .int p1), (2, .int p2)] := hl
  obtain ⟨H, hH⟩ : ∃ z, z = s.heap := ⟨_, rfl⟩
  obtain ⟨locs, hL⟩ : ∃ z : List Loc, z = [] := ⟨_, rfl⟩
  rw [← hL] at hS ⊢
  have hS : va_S A0 s.heap H locs := by rw [hH]; exact hS
  rw [← hH] at hP ⊢
  clear hH hL
  refine lv_iload_n hx hb dX3_isIn_0 rfl (lv_at hl 0 rfl) ?_
  refine lv_iload_n hx hb dX3_isIn_1 rfl (lv_at hl 1 rfl) ?_
  refine lv_icmp_lt (tgt := 14) hx hb dX3_isIn_2 (by decide) (fun c2 => ?_) (fun c2 => ?_)
  · have hv := hv.1 c2
    refine lv_iconst (v := 0) hx hb dX3_isIn_14 (by decide) ?_
    exact W.zret (v := 0) hx hb hr rfl (fun t ht hW => ⟨⟨0, (), rfl, hv, trivial⟩, hS.F ht⟩) hS.2.2 dX3_isIn_15
  · have hv := hv.2 c2
    refine lv_iload_n hx hb dX3_isIn_5 rfl (lv_at hl 0 rfl) ?_
    refine lv_iload_n hx hb dX3_isIn_6 rfl (lv_at hl 2 rfl) ?_
    refine lv_icmp_gt (tgt := 14) hx hb dX3_isIn_7 (by decide) (fun c7 => ?_) (fun c7 => ?_)
    · have hv := hv.1 c7
      refine lv_iconst (v := 0) hx hb dX3_isIn_14 (by decide) ?_
      exact W.zret (v := 0) hx hb hr rfl (fun t ht hW => ⟨⟨0, (), rfl, hv, trivial⟩, hS.F ht⟩) hS.2.2 dX3_isIn_15
    · have hv := hv.2 c7
      refine lv_iconst (v := 1) hx hb dX3_isIn_10 (by decide) ?_
      refine lv_goto (tgt := 15) hx hb dX3_isIn_11 (by decide) ?_
      exact W.zret (v := 1) hx hb hr rfl (fun t ht hW => ⟨⟨1, (), rfl, hv, trivial⟩, hS.F ht⟩) hS.2.2 dX3_isIn_15

set_option maxHeartbeats 4000000 in
set_option maxRecDepth 100000 in
theorem m_X3_bound (l : Launch)  (g : CX) (p0 : Int32) (p1 : Int32) (p2 : Int32) (Post : Int32 → Prop) (hv : vc_X3_bound p0 p1 p2 Post) : Met l yX3_bound wsX3_bound { frames := 0, cells := 0, slots := 0, locals := 0 } (va_Pc [.int p0, .int p1, .int p2] (RO g [])) (va_Qi (fun r (_ : Unit) => Post r) (fun _ _ => True) A0) 0 0 A0 := by
  unfold vc_X3_bound at hv
  refine Met.ofW (cc := cX3_bound) (maxL := 3) (ret := (some .int)) (by decide) rfl ?_
  intro p e s m args below meth c s₁ B hml hv0
  obtain ⟨rfl, hP, hK, hE⟩ := hv0
  have hx := B.exec
  have hb := B.bytes
  have hr := B.returns
  have hts := atoms_spec (ws := wsX3_bound) B.pre
  have hown : s.vm.findClass RX3 = some m.cls := findClass_of_methodNamed B.named
  have hlocks := B.notSynchronized
  have hS : va_S A0 s.heap s.heap [] := va_S.rf
  have hP : va_P (gD g) vwCl ([]) s.heap := hP
  have hl := lv_entry ([.int p0, .int p1, .int p2]) (n := 3) (Nat.le_of_ble_eq_true rfl)
  rw [lg_entry_eq]
  generalize (lg_sl ([.int p0, .int p1, .int p2]) ++ List.replicate (3 - (lg_sl ([.int p0, .int p1, .int p2])).length) Slot.unset).toArray = ls at hl ⊢
  have hl : lv_has ls 3 [(0, .int p0), (1, .int p1), (2, .int p2)] := hl
  obtain ⟨H, hH⟩ : ∃ z, z = s.heap := ⟨_, rfl⟩
  obtain ⟨locs, hL⟩ : ∃ z : List Loc, z = [] := ⟨_, rfl⟩
  rw [← hL] at hS ⊢
  have hS : va_S A0 s.heap H locs := by rw [hH]; exact hS
  rw [← hH] at hP ⊢
  clear hH hL
  refine lv_iload_n hx hb dX3_bound_0 rfl (lv_at hl 0 rfl) ?_
  refine lv_iload_n hx hb dX3_bound_1 rfl (lv_at hl 1 rfl) ?_
  refine lv_icmp_ge (tgt := 10) hx hb dX3_bound_2 (by decide) (fun c2 => ?_) (fun c2 => ?_)
  · have hv := hv.1 c2
    refine lv_iload_n hx hb dX3_bound_10 rfl (lv_at hl 0 rfl) ?_
    refine lv_iload_n hx hb dX3_bound_11 rfl (lv_at hl 2 rfl) ?_
    refine lv_icmp_le (tgt := 20) hx hb dX3_bound_12 (by decide) (fun c12 => ?_) (fun c12 => ?_)
    · have hv := hv.1 c12
      refine lv_iconst (v := 0) hx hb dX3_bound_20 (by decide) ?_
      exact W.iret (v := 0) hx hb hr (fun t ht hW => ⟨⟨0, (), rfl, hv, trivial⟩, hS.F ht⟩) hS.2.2 dX3_bound_21
    · have hv := hv.2 c12
      refine lv_bipush (v := (-6)) hx hb dX3_bound_15 (by decide) ?_
      refine lv_goto (tgt := 21) hx hb dX3_bound_17 (by decide) ?_
      exact W.iret (v := (-6)) hx hb hr (fun t ht hW => ⟨⟨(-6), (), rfl, hv, trivial⟩, hS.F ht⟩) hS.2.2 dX3_bound_21
  · have hv := hv.2 c2
    refine lv_bipush (v := (-4)) hx hb dX3_bound_5 (by decide) ?_
    refine lv_goto (tgt := 21) hx hb dX3_bound_7 (by decide) ?_
    exact W.iret (v := (-4)) hx hb hr (fun t ht hW => ⟨⟨(-4), (), rfl, hv, trivial⟩, hS.F ht⟩) hS.2.2 dX3_bound_21

set_option maxHeartbeats 4000000 in
set_option maxRecDepth 100000 in
theorem m_X3_has (l : Launch)  (g : CX) (p0 : Int32) (p1 : Int32) (Post : Int32 → Prop) (hv : vc_X3_has p0 p1 Post) : Met l yX3_has wsX3_has { frames := 0, cells := 0, slots := 0, locals := 0 } (va_Pc [.int p0, .int p1] (RO g [])) (va_Qi (fun r (_ : Unit) => Post r) (fun _ _ => True) A0) 0 0 A0 := by
  unfold vc_X3_has at hv
  refine Met.ofW (cc := cX3_has) (maxL := 2) (ret := (some .boolean)) (by decide) rfl ?_
  intro p e s m args below meth c s₁ B hml hv0
  obtain ⟨rfl, hP, hK, hE⟩ := hv0
  have hx := B.exec
  have hb := B.bytes
  have hr := B.returns
  have hts := atoms_spec (ws := wsX3_has) B.pre
  have hown : s.vm.findClass RX3 = some m.cls := findClass_of_methodNamed B.named
  have hlocks := B.notSynchronized
  have hS : va_S A0 s.heap s.heap [] := va_S.rf
  have hP : va_P (gD g) vwCl ([]) s.heap := hP
  have hl := lv_entry ([.int p0, .int p1]) (n := 2) (Nat.le_of_ble_eq_true rfl)
  rw [lg_entry_eq]
  generalize (lg_sl ([.int p0, .int p1]) ++ List.replicate (2 - (lg_sl ([.int p0, .int p1])).length) Slot.unset).toArray = ls at hl ⊢
  have hl : lv_has ls 2 [(0, .int p0), (1, .int p1)] := hl
  obtain ⟨H, hH⟩ : ∃ z, z = s.heap := ⟨_, rfl⟩
  obtain ⟨locs, hL⟩ : ∃ z : List Loc, z = [] := ⟨_, rfl⟩
  rw [← hL] at hS ⊢
  have hS : va_S A0 s.heap H locs := by rw [hH]; exact hS
  rw [← hH] at hP ⊢
  clear hH hL
  refine lv_iload_n hx hb dX3_has_0 rfl (lv_at hl 0 rfl) ?_
  refine lv_iload_n hx hb dX3_has_1 rfl (lv_at hl 1 rfl) ?_
  refine lv_ishr hx hb dX3_has_2 ?_
  refine lv_iconst (v := 1) hx hb dX3_has_3 (by decide) ?_
  refine lv_iand hx hb dX3_has_4 ?_
  refine lv_iconst (v := 1) hx hb dX3_has_5 (by decide) ?_
  refine lv_icmp_ne (tgt := 13) hx hb dX3_has_6 (by decide) (fun c6 => ?_) (fun c6 => ?_)
  · have hv := hv.1 c6
    refine lv_iconst (v := 0) hx hb dX3_has_13 (by decide) ?_
    exact W.zret (v := 0) hx hb hr rfl (fun t ht hW => ⟨⟨0, (), rfl, hv, trivial⟩, hS.F ht⟩) hS.2.2 dX3_has_14
  · have hv := hv.2 c6
    refine lv_iconst (v := 1) hx hb dX3_has_9 (by decide) ?_
    refine lv_goto (tgt := 14) hx hb dX3_has_10 (by decide) ?_
    exact W.zret (v := 1) hx hb hr rfl (fun t ht hW => ⟨⟨1, (), rfl, hv, trivial⟩, hS.F ht⟩) hS.2.2 dX3_has_14

set_option maxHeartbeats 4000000 in
set_option maxRecDepth 100000 in
theorem m_X3_bits (l : Launch)  (g : CX) (p0 : Int32) (Post : Int32 → Prop) (hv : vc_X3_bits p0 Post) : Met l yX3_bits wsX3_bits { frames := 0, cells := 0, slots := 0, locals := 0 } (va_Pc [.int p0] (RO g [])) (va_Qi (fun r (_ : Unit) => Post r) (fun _ _ => True) A0) 0 0 A0 := by
  unfold vc_X3_bits at hv
  refine Met.ofW (cc := cX3_bits) (maxL := 3) (ret := (some .int)) (by decide) rfl ?_
  intro p e s m args below meth c s₁ B hml hv0
  obtain ⟨rfl, hP, hK, hE⟩ := hv0
  have hx := B.exec
  have hb := B.bytes
  have hr := B.returns
  have hts := atoms_spec (ws := wsX3_bits) B.pre
  have hown : s.vm.findClass RX3 = some m.cls := findClass_of_methodNamed B.named
  have hlocks := B.notSynchronized
  have hS : va_S A0 s.heap s.heap [] := va_S.rf
  have hP : va_P (gD g) vwCl ([]) s.heap := hP
  have hl := lv_entry ([.int p0]) (n := 3) (Nat.le_of_ble_eq_true rfl)
  rw [lg_entry_eq]
  generalize (lg_sl ([.int p0]) ++ List.replicate (3 - (lg_sl ([.int p0])).length) Slot.unset).toArray = ls at hl ⊢
  have hl : lv_has ls 3 [(0, .int p0)] := hl
  have hv := hv (fun (x1 : Int32) (x2 : Int32) => ∀ (H : Heap) (locs : List Loc) (ls : Array Slot), va_P (gD g) vwCl ([]) H → va_S A0 s.heap H locs → lv_has ls 3 [(0, .int p0), (1, .int x1), (2, .int x2)] → W p l e { frames := 0, cells := 0, slots := 0, locals := 0 } s m ([.int p0] : List Value).toArray below meth c H locs 0 0 (MQ below (va_Qi (fun r (_ : Unit) => Post r) (fun _ _ => True) A0) ([.int p0] : List Value).toArray s 0 0 A0) (F0 m 4 ls []))
  have hv := hv (by
    intro x1 x2 hv H locs ls hP hS hl
    refine lv_iload_n hx hb dX3_bits_4 rfl (lv_at hl 2 rfl) ?_
    refine lv_bipush (v := 31) hx hb dX3_bits_5 (by decide) ?_
    refine lv_icmp_ge (tgt := 24) hx hb dX3_bits_7 (by decide) (fun c7 => ?_) (fun c7 => ?_)
    · have hv := hv.1 c7
      refine lv_iload_n hx hb dX3_bits_24 rfl (lv_at hl 1 rfl) ?_
      exact W.iret (v := x1) hx hb hr (fun t ht hW => ⟨⟨x1, (), rfl, hv, trivial⟩, hS.F ht⟩) hS.2.2 dX3_bits_25
    · have hv := hv.2 c7
      refine lv_iload_n hx hb dX3_bits_10 rfl (lv_at hl 1 rfl) ?_
      refine lv_iload_n hx hb dX3_bits_11 rfl (lv_at hl 0 rfl) ?_
      refine lv_iload_n hx hb dX3_bits_12 rfl (lv_at hl 2 rfl) ?_
      refine lv_ishr hx hb dX3_bits_13 ?_
      refine lv_iconst (v := 1) hx hb dX3_bits_14 (by decide) ?_
      refine lv_iand hx hb dX3_bits_15 ?_
      refine lv_iadd hx hb dX3_bits_16 ?_
      refine lv_istore_n (lv' := [(1, .int (x1 + ((p0 >>> (x2 &&& 31)) &&& 1))), (0, .int p0), (2, .int x2)]) hx hb dX3_bits_17 rfl hl (by decide) rfl (fun ls hl => ?_)
      refine lv_iinc (v := (x2 + 1)) (lv' := [(2, .int (x2 + 1)), (1, .int (x1 + ((p0 >>> (x2 &&& 31)) &&& 1))), (0, .int p0)]) hx hb dX3_bits_18 hl (k := 2) rfl (by first | rfl | exact congrArg _ (by decide)) (by decide) rfl (fun ls hl => ?_)
      refine lv_goto (tgt := 4) hx hb dX3_bits_21 (by decide) ?_
      exact hv H locs ls hP hS (lv_sub hl [2, 1, 0] rfl))
  obtain ⟨H, hH⟩ : ∃ z, z = s.heap := ⟨_, rfl⟩
  obtain ⟨locs, hL⟩ : ∃ z : List Loc, z = [] := ⟨_, rfl⟩
  rw [← hL] at hS ⊢
  have hS : va_S A0 s.heap H locs := by rw [hH]; exact hS
  rw [← hH] at hP ⊢
  clear hH hL
  refine lv_iconst (v := 0) hx hb dX3_bits_0 (by decide) ?_
  refine lv_istore_n (lv' := [(1, .int 0), (0, .int p0)]) hx hb dX3_bits_1 rfl hl (by decide) rfl (fun ls hl => ?_)
  refine lv_iconst (v := 0) hx hb dX3_bits_2 (by decide) ?_
  refine lv_istore_n (lv' := [(2, .int 0), (1, .int 0), (0, .int p0)]) hx hb dX3_bits_3 rfl hl (by decide) rfl (fun ls hl => ?_)
  exact hv H locs ls hP hS (lv_sub hl [2, 1, 0] rfl)

set_option maxHeartbeats 4000000 in
set_option maxRecDepth 100000 in
theorem m_X3_isFact (l : Launch)  (g : CX) (p0 : Int32) (Post : Int32 → Prop) (hv : vc_X3_isFact p0 Post) : Met l yX3_isFact wsX3_isFact { frames := 0, cells := 0, slots := 0, locals := 0 } (va_Pc [.int p0] (RO g [])) (va_Qi (fun r (_ : Unit) => Post r) (fun _ _ => True) A0) 0 0 A0 := by
  unfold vc_X3_isFact at hv
  refine Met.ofW (cc := cX3_isFact) (maxL := 1) (ret := (some .boolean)) (by decide) rfl ?_
  intro p e s m args below meth c s₁ B hml hv0
  obtain ⟨rfl, hP, hK, hE⟩ := hv0
  have hx := B.exec
  have hb := B.bytes
  have hr := B.returns
  have hts := atoms_spec (ws := wsX3_isFact) B.pre
  have hown : s.vm.findClass RX3 = some m.cls := findClass_of_methodNamed B.named
  have hlocks := B.notSynchronized
  have hS : va_S A0 s.heap s.heap [] := va_S.rf
  have hP : va_P (gD g) vwCl ([]) s.heap := hP
  have hl := lv_entry ([.int p0]) (n := 1) (Nat.le_of_ble_eq_true rfl)
  rw [lg_entry_eq]
  generalize (lg_sl ([.int p0]) ++ List.replicate (1 - (lg_sl ([.int p0])).length) Slot.unset).toArray = ls at hl ⊢
  have hl : lv_has ls 1 [(0, .int p0)] := hl
  obtain ⟨H, hH⟩ : ∃ z, z = s.heap := ⟨_, rfl⟩
  obtain ⟨locs, hL⟩ : ∃ z : List Loc, z = [] := ⟨_, rfl⟩
  rw [← hL] at hS ⊢
  have hS : va_S A0 s.heap H locs := by rw [hH]; exact hS
  rw [← hH] at hP ⊢
  clear hH hL
  refine lv_iload_n hx hb dX3_isFact_0 rfl (lv_at hl 0 rfl) ?_
  refine lv_if_lt (tgt := 14) hx hb dX3_isFact_1 (by decide) (fun c1 => ?_) (fun c1 => ?_)
  · have hv := hv.1 c1
    refine lv_iconst (v := 0) hx hb dX3_isFact_14 (by decide) ?_
    exact W.zret (v := 0) hx hb hr rfl (fun t ht hW => ⟨⟨0, (), rfl, hv, trivial⟩, hS.F ht⟩) hS.2.2 dX3_isFact_15
  · have hv := hv.2 c1
    refine lv_iload_n hx hb dX3_isFact_4 rfl (lv_at hl 0 rfl) ?_
    refine lv_bipush (v := 6) hx hb dX3_isFact_5 (by decide) ?_
    refine lv_icmp_ge (tgt := 14) hx hb dX3_isFact_7 (by decide) (fun c7 => ?_) (fun c7 => ?_)
    · have hv := hv.1 c7
      refine lv_iconst (v := 0) hx hb dX3_isFact_14 (by decide) ?_
      exact W.zret (v := 0) hx hb hr rfl (fun t ht hW => ⟨⟨0, (), rfl, hv, trivial⟩, hS.F ht⟩) hS.2.2 dX3_isFact_15
    · have hv := hv.2 c7
      refine lv_iconst (v := 1) hx hb dX3_isFact_10 (by decide) ?_
      refine lv_goto (tgt := 15) hx hb dX3_isFact_11 (by decide) ?_
      exact W.zret (v := 1) hx hb hr rfl (fun t ht hW => ⟨⟨1, (), rfl, hv, trivial⟩, hS.F ht⟩) hS.2.2 dX3_isFact_15

set_option maxHeartbeats 4000000 in
set_option maxRecDepth 100000 in
theorem m_X3_isQuestion (l : Launch)  (g : CX) (ad : Nat → Nat) (σ : KM) (p0 : Int32) (Post : Int32 → Prop) (hv : vc_X3_isQuestion σ p0 Post) : Met l yX3_isQuestion wsX3_isQuestion { frames := 0, cells := 0, slots := 0, locals := 0 } (va_Pc [.ref (ad 0), .int p0] (RO g (wM g ad σ))) (va_Qi (fun r (_ : Unit) => Post r) (fun _ _ => True) A0) 0 0 A0 := by
  unfold vc_X3_isQuestion at hv
  refine Met.ofW (cc := cX3_isQuestion) (maxL := 2) (ret := (some .boolean)) (by decide) rfl ?_
  intro p e s m args below meth c s₁ B hml hv0
  obtain ⟨rfl, hP, hK, hE⟩ := hv0
  have hx := B.exec
  have hb := B.bytes
  have hr := B.returns
  have hts := atoms_spec (ws := wsX3_isQuestion) B.pre
  have hown : s.vm.findClass RX3 = some m.cls := findClass_of_methodNamed B.named
  have hlocks := B.notSynchronized
  have hi3 : ∀ w ∈ wsX30, w ∈ wsX3_isQuestion := by decide +kernel
  have k0 := hts (.fieldLink RX3 70 "JuryHearsAnswersModel" "questions" "I") (by decide +kernel)
  have hS : va_S A0 s.heap s.heap [] := va_S.rf
  have hP : va_P (gD g) vwCl (wM g ad σ) s.heap := hP
  have hl := lv_entry ([.ref (ad 0), .int p0]) (n := 2) (Nat.le_of_ble_eq_true rfl)
  rw [lg_entry_eq]
  generalize (lg_sl ([.ref (ad 0), .int p0]) ++ List.replicate (2 - (lg_sl ([.ref (ad 0), .int p0])).length) Slot.unset).toArray = ls at hl ⊢
  have hl : lv_has ls 2 [(0, .ref (ad 0)), (1, .int p0)] := hl
  obtain ⟨H, hH⟩ : ∃ z, z = s.heap := ⟨_, rfl⟩
  obtain ⟨locs, hL⟩ : ∃ z : List Loc, z = [] := ⟨_, rfl⟩
  rw [← hL] at hS ⊢
  have hS : va_S A0 s.heap H locs := by rw [hH]; exact hS
  rw [← hH] at hP ⊢
  clear hH hL
  refine lv_iload_n hx hb dX3_isQuestion_0 rfl (lv_at hl 1 rfl) ?_
  refine lv_if_lt (tgt := 16) hx hb dX3_isQuestion_1 (by decide) (fun c1 => ?_) (fun c1 => ?_)
  · have hv := hv.1 c1
    refine lv_iconst (v := 0) hx hb dX3_isQuestion_16 (by decide) ?_
    exact W.zret (v := 0) hx hb hr rfl (fun t ht hW => ⟨⟨0, (), rfl, hv, trivial⟩, hS.F ht⟩) hS.2.2 dX3_isQuestion_17
  · have hv := hv.2 c1
    refine lv_iload_n hx hb dX3_isQuestion_4 rfl (lv_at hl 1 rfl) ?_
    refine lv_aload_n hx hb dX3_isQuestion_5 rfl (lv_at hl 0 rfl) ?_
    refine va_get (D := gD g) (ci := 3) (v := .int (sNq (mS σ))) (C := RX3) (T := TX3) (N := 33) hx hb hts hi3 hown hK hP 0 rfl rfl 12 (by decide) k0 (fun _ h9 => h9) rfl dX3_isQuestion_6 ?_
    refine lv_icmp_ge (tgt := 16) hx hb dX3_isQuestion_9 (by decide) (fun c9 => ?_) (fun c9 => ?_)
    · have hv := hv.1 c9
      refine lv_iconst (v := 0) hx hb dX3_isQuestion_16 (by decide) ?_
      exact W.zret (v := 0) hx hb hr rfl (fun t ht hW => ⟨⟨0, (), rfl, hv, trivial⟩, hS.F ht⟩) hS.2.2 dX3_isQuestion_17
    · have hv := hv.2 c9
      refine lv_iconst (v := 1) hx hb dX3_isQuestion_12 (by decide) ?_
      refine lv_goto (tgt := 17) hx hb dX3_isQuestion_13 (by decide) ?_
      exact W.zret (v := 1) hx hb hr rfl (fun t ht hW => ⟨⟨1, (), rfl, hv, trivial⟩, hS.F ht⟩) hS.2.2 dX3_isQuestion_17

set_option maxHeartbeats 4000000 in
set_option maxRecDepth 100000 in
theorem m_X3_isWitness (l : Launch)  (g : CX) (ad : Nat → Nat) (σ : KM) (p0 : Int32) (Post : Int32 → Prop) (hv : vc_X3_isWitness σ p0 Post) : Met l yX3_isWitness wsX3_isWitness { frames := 0, cells := 0, slots := 0, locals := 0 } (va_Pc [.ref (ad 0), .int p0] (RO g (wM g ad σ))) (va_Qi (fun r (_ : Unit) => Post r) (fun _ _ => True) A0) 0 0 A0 := by
  unfold vc_X3_isWitness at hv
  refine Met.ofW (cc := cX3_isWitness) (maxL := 2) (ret := (some .boolean)) (by decide) rfl ?_
  intro p e s m args below meth c s₁ B hml hv0
  obtain ⟨rfl, hP, hK, hE⟩ := hv0
  have hx := B.exec
  have hb := B.bytes
  have hr := B.returns
  have hts := atoms_spec (ws := wsX3_isWitness) B.pre
  have hown : s.vm.findClass RX3 = some m.cls := findClass_of_methodNamed B.named
  have hlocks := B.notSynchronized
  have hi3 : ∀ w ∈ wsX30, w ∈ wsX3_isWitness := by decide +kernel
  have k0 := hts (.fieldLink RX3 76 "JuryHearsAnswersModel" "witnesses" "I") (by decide +kernel)
  have hS : va_S A0 s.heap s.heap [] := va_S.rf
  have hP : va_P (gD g) vwCl (wM g ad σ) s.heap := hP
  have hl := lv_entry ([.ref (ad 0), .int p0]) (n := 2) (Nat.le_of_ble_eq_true rfl)
  rw [lg_entry_eq]
  generalize (lg_sl ([.ref (ad 0), .int p0]) ++ List.replicate (2 - (lg_sl ([.ref (ad 0), .int p0])).length) Slot.unset).toArray = ls at hl ⊢
  have hl : lv_has ls 2 [(0, .ref (ad 0)), (1, .int p0)] := hl
  obtain ⟨H, hH⟩ : ∃ z, z = s.heap := ⟨_, rfl⟩
  obtain ⟨locs, hL⟩ : ∃ z : List Loc, z = [] := ⟨_, rfl⟩
  rw [← hL] at hS ⊢
  have hS : va_S A0 s.heap H locs := by rw [hH]; exact hS
  rw [← hH] at hP ⊢
  clear hH hL
  refine lv_iload_n hx hb dX3_isWitness_0 rfl (lv_at hl 1 rfl) ?_
  refine lv_if_lt (tgt := 16) hx hb dX3_isWitness_1 (by decide) (fun c1 => ?_) (fun c1 => ?_)
  · have hv := hv.1 c1
    refine lv_iconst (v := 0) hx hb dX3_isWitness_16 (by decide) ?_
    exact W.zret (v := 0) hx hb hr rfl (fun t ht hW => ⟨⟨0, (), rfl, hv, trivial⟩, hS.F ht⟩) hS.2.2 dX3_isWitness_17
  · have hv := hv.2 c1
    refine lv_iload_n hx hb dX3_isWitness_4 rfl (lv_at hl 1 rfl) ?_
    refine lv_aload_n hx hb dX3_isWitness_5 rfl (lv_at hl 0 rfl) ?_
    refine va_get (D := gD g) (ci := 3) (v := .int (sNw (mS σ))) (C := RX3) (T := TX3) (N := 33) hx hb hts hi3 hown hK hP 0 rfl rfl 13 (by decide) k0 (fun _ h9 => h9) rfl dX3_isWitness_6 ?_
    refine lv_icmp_ge (tgt := 16) hx hb dX3_isWitness_9 (by decide) (fun c9 => ?_) (fun c9 => ?_)
    · have hv := hv.1 c9
      refine lv_iconst (v := 0) hx hb dX3_isWitness_16 (by decide) ?_
      exact W.zret (v := 0) hx hb hr rfl (fun t ht hW => ⟨⟨0, (), rfl, hv, trivial⟩, hS.F ht⟩) hS.2.2 dX3_isWitness_17
    · have hv := hv.2 c9
      refine lv_iconst (v := 1) hx hb dX3_isWitness_12 (by decide) ?_
      refine lv_goto (tgt := 17) hx hb dX3_isWitness_13 (by decide) ?_
      exact W.zret (v := 1) hx hb hr rfl (fun t ht hW => ⟨⟨1, (), rfl, hv, trivial⟩, hS.F ht⟩) hS.2.2 dX3_isWitness_17

set_option maxHeartbeats 4000000 in
set_option maxRecDepth 100000 in
theorem m_X3_letter (l : Launch) (h_X3_bound : C_X3_bound l) (h_X3_no : C_X3_no l) (g : CX) (ad : Nat → Nat) (σ : KM) (p0 : Int32) (Post : Int32 → KM → Prop) (hv : vc_X3_letter σ p0 Post) : Met l yX3_letter wsX3_letter { frames := 1, cells := 0, slots := 0, locals := 22 } (va_Pc [.ref (ad 0), .int p0] (RW g (AD ad 0 21) (wM g ad σ))) (va_Qi (fun (r : Int32) (u : KM) => Post r u) (fun u t => va_P (gD g) vwCl (wM g ad u) t.heap) (AD ad 0 21)) 0 0 (AD ad 0 21) := by
  unfold vc_X3_letter at hv
  refine Met.ofW (cc := cX3_letter) (maxL := 3) (ret := (some .int)) (by decide) rfl ?_
  intro p e s m args below meth c s₁ B hml hv0
  obtain ⟨rfl, hP, hK, hE, hD⟩ := hv0
  have hx := B.exec
  have hb := B.bytes
  have hr := B.returns
  have hts := atoms_spec (ws := wsX3_letter) B.pre
  have hown : s.vm.findClass RX3 = some m.cls := findClass_of_methodNamed B.named
  have hlocks := B.notSynchronized
  have hi3 : ∀ w ∈ wsX30, w ∈ wsX3_letter := by decide +kernel
  have k0 := hts (.fieldLink RX3 43 "JuryHearsAnswersModel" "tape" "[I") (by decide +kernel)
  have k1 := hts (.fieldLink RX3 83 "JuryHearsAnswersModel" "taped" "I") (by decide +kernel)
  have hS : va_S (AD ad 0 21) s.heap s.heap [] := va_S.rf
  have hP : va_P (gD g) vwCl (wM g ad σ) s.heap := hP
  have hl := lv_entry ([.ref (ad 0), .int p0]) (n := 3) (Nat.le_of_ble_eq_true rfl)
  rw [lg_entry_eq]
  generalize (lg_sl ([.ref (ad 0), .int p0]) ++ List.replicate (3 - (lg_sl ([.ref (ad 0), .int p0])).length) Slot.unset).toArray = ls at hl ⊢
  have hl : lv_has ls 3 [(0, .ref (ad 0)), (1, .int p0)] := hl
  obtain ⟨H, hH⟩ : ∃ z, z = s.heap := ⟨_, rfl⟩
  obtain ⟨locs, hL⟩ : ∃ z : List Loc, z = [] := ⟨_, rfl⟩
  rw [← hL] at hS ⊢
  have hS : va_S (AD ad 0 21) s.heap H locs := by rw [hH]; exact hS
  rw [← hH] at hP ⊢
  clear hH hL
  refine lv_iload_n hx hb dX3_letter_0 rfl (lv_at hl 1 rfl) ?_
  refine lv_iconst (v := 0) hx hb dX3_letter_1 (by decide) ?_
  refine lv_sipush (v := 255) hx hb dX3_letter_2 (by decide) ?_
  have hPc : va_P (gD g) vwCl [] H := fun k q h => by simp at h
  refine ro_int (va_runS (As := [.int p0, .int 0, .int 255]) (rest := []) ⟨hx, hb, hml, hown, hts⟩ (h_X3_bound g p0 0 255) (va_cwS 3 hts gX3_letter_X3_bound rfl rfl rfl (by decide +kernel) ⟨Nat.le_of_ble_eq_true rfl, Nat.le_of_ble_eq_true rfl⟩) ⟨RO_blind, fun U hU hW => ⟨rfl, by rw [hU]; exact hPc, va_K.moved hW.alike hK, hE.call hW hU hS (fun _ h => h.elim)⟩⟩ rfl rfl hl.1 rfl (lv_room (Nat.le_of_ble_eq_true rfl)) dX3_letter_5 ⟨Nat.le_of_ble_eq_true rfl, Nat.le_of_ble_eq_true rfl⟩) hS hP (fun r H locs hw hP hS => ?_)
  subst r
  refine lv_istore_n (lv' := [(2, .int (boundI p0 (0 : Int32) (255 : Int32))), (0, .ref (ad 0)), (1, .int p0)]) hx hb dX3_letter_8 rfl hl (by decide) rfl (fun ls hl => ?_)
  refine lv_iload_n hx hb dX3_letter_9 rfl (lv_at hl 0 rfl) ?_
  refine lv_if_ne (tgt := 25) hx hb dX3_letter_10 (by decide) (fun c10 => ?_) (fun c10 => ?_)
  · have hv := hv.1 c10
    refine lv_iload_n hx hb dX3_letter_25 rfl (lv_at hl 0 rfl) ?_
    refine lv_if_eq (tgt := 35) hx hb dX3_letter_26 (by decide) (fun c26 => ?_) (fun c26 => ?_)
    · have hv := hv.1 c26
      refine lv_aload_n hx hb dX3_letter_35 rfl (lv_at hl 1 rfl) ?_
      refine va_get (D := gD g) (ci := 3) (v := .ref (ad 12)) (C := RX3) (T := TX3) (N := 33) hx hb hts hi3 hown hK hP 0 rfl rfl 16 (by decide) k0 (fun _ h9 => h9) rfl dX3_letter_36 ?_
      refine lv_aload_n hx hb dX3_letter_39 rfl (lv_at hl 1 rfl) ?_
      refine va_get (D := gD g) (ci := 3) (v := .int (tTaped (mT σ))) (C := RX3) (T := TX3) (N := 33) hx hb hts hi3 hown hK hP 0 rfl rfl 20 (by decide) k1 (fun _ h9 => h9) rfl dX3_letter_40 ?_
      refine lv_iload_n hx hb dX3_letter_43 rfl (lv_at hl 2 rfl) ?_
      have h9 := hv.1
      have hv := hv.2
      refine va_iast (f := (tTape (mT σ))) (n := 96) hx hb hK hP hD hS 12 0 rfl rfl h9 dX3_letter_44 (fun H locs hP hD hS => ?_)
      have hP : va_P (gD g) vwCl (wM g ad ((mS σ), ((upd (tTape (mT σ)) ((tTaped (mT σ))).toNatClampNeg p0), (tLetter (mT σ)), (tLetterAt (mT σ)), (tTold (mT σ)), (tTaped (mT σ)), (tAt (mT σ)), (tStm (mT σ))), (mK σ), (mF σ), (mRow σ), (mRowMany σ), (mLots σ), (mRefused σ))) H := hP
      have hD : va_D (AD ad 0 21) (wM g ad ((mS σ), ((upd (tTape (mT σ)) ((tTaped (mT σ))).toNatClampNeg p0), (tLetter (mT σ)), (tLetterAt (mT σ)), (tTold (mT σ)), (tTaped (mT σ)), (tAt (mT σ)), (tStm (mT σ))), (mK σ), (mF σ), (mRow σ), (mRowMany σ), (mLots σ), (mRefused σ))) := hD
      refine lv_aload_n hx hb dX3_letter_45 rfl (lv_at hl 1 rfl) ?_
      refine lv_dup hx hb dX3_letter_46 rfl ?_
      refine va_get (D := gD g) (ci := 3) (v := .int (tTaped (mT σ))) (C := RX3) (T := TX3) (N := 33) hx hb hts hi3 hown hK hP 0 rfl rfl 20 (by decide) k1 (fun _ h9 => h9) rfl dX3_letter_47 ?_
      refine lv_iconst (v := 1) hx hb dX3_letter_50 (by decide) ?_
      refine lv_iadd hx hb dX3_letter_51 ?_
      refine va_put (D := gD g) (ci := 3) (v := .int ((tTaped (mT σ)) + 1)) (ty := .int) (C := RX3) (T := TX3) (N := 33) hx hb hts hi3 tyX3 tyX3_ok nmX3 hown hK hP hD hS 0 rfl rfl 20 (by decide) k1 (fun _ h9 => h9) rfl (by decide +kernel) rfl rfl (Nat.le_of_ble_eq_true rfl) dX3_letter_52 (fun H locs hP hD hS => ?_)
      have hP : va_P (gD g) vwCl (wM g ad ((mS σ), ((upd (tTape (mT σ)) ((tTaped (mT σ))).toNatClampNeg p0), (tLetter (mT σ)), (tLetterAt (mT σ)), (tTold (mT σ)), ((tTaped (mT σ)) + 1), (tAt (mT σ)), (tStm (mT σ))), (mK σ), (mF σ), (mRow σ), (mRowMany σ), (mLots σ), (mRefused σ))) H := hP
      have hD : va_D (AD ad 0 21) (wM g ad ((mS σ), ((upd (tTape (mT σ)) ((tTaped (mT σ))).toNatClampNeg p0), (tLetter (mT σ)), (tLetterAt (mT σ)), (tTold (mT σ)), ((tTaped (mT σ)) + 1), (tAt (mT σ)), (tStm (mT σ))), (mK σ), (mF σ), (mRow σ), (mRowMany σ), (mLots σ), (mRefused σ))) := hD
      refine lv_aload_n hx hb dX3_letter_55 rfl (lv_at hl 1 rfl) ?_
      refine va_get (D := gD g) (ci := 3) (v := .int ((tTaped (mT σ)) + 1)) (C := RX3) (T := TX3) (N := 33) hx hb hts hi3 hown hK hP 0 rfl rfl 20 (by decide) k1 (fun _ h9 => h9) rfl dX3_letter_56 ?_
      exact W.iret (v := ((tTaped (mT σ)) + 1)) hx hb hr (fun t ht hW => ⟨⟨((tTaped (mT σ)) + 1), ((mS σ), ((upd (tTape (mT σ)) ((tTaped (mT σ))).toNatClampNeg p0), (tLetter (mT σ)), (tLetterAt (mT σ)), (tTold (mT σ)), ((tTaped (mT σ)) + 1), (tAt (mT σ)), (tStm (mT σ))), (mK σ), (mF σ), (mRow σ), (mRowMany σ), (mLots σ), (mRefused σ)), rfl, hv, P_at ht hP⟩, hS.F ht⟩) hS.2.2 dX3_letter_59
    · have hv := hv.2 c26
      refine lv_aload_n hx hb dX3_letter_29 rfl (lv_at hl 1 rfl) ?_
      refine lv_iload_n hx hb dX3_letter_30 rfl (lv_at hl 0 rfl) ?_
      have h8 := hv.1
      have hv := hv.2
      have hPc := hP
      have hDc := hD
      refine rw_int (va_runV (As := [.int (boundI p0 (0 : Int32) (255 : Int32))]) (rest := []) ⟨hx, hb, hml, hown, hts⟩ (h_X3_no g ad σ (boundI p0 (0 : Int32) (255 : Int32)) h8) (cwV 1 hts gX3_letter_X3_no rfl rfl rfl (by decide +kernel) ⟨Nat.le_of_ble_eq_true rfl, Nat.le_of_ble_eq_true rfl⟩) ⟨RW_blind, va_recv hK hP (ci := 3) (q0 := 0) rfl rfl, fun U hU hW => ⟨rfl, by rw [hU]; exact hPc, va_K.moved hW.alike hK, hE.call hW hU hS (fun _ h => h), hDc⟩⟩ rfl rfl hl.1 rfl (lv_room (Nat.le_of_ble_eq_true rfl)) dX3_letter_31 ⟨Nat.le_of_ble_eq_true rfl, Nat.le_of_ble_eq_true rfl⟩) hS (fun _ h => h) (fun r u H1 locs hw hP1 hk hS => ?_)
      obtain ⟨hw1, hw⟩ := hw; subst r; subst u
      have hP := hP1
      generalize H1 = H at hP hS ⊢
      have hP : va_P (gD g) vwCl (wM g ad ((mS σ), (mT σ), (mK σ), (mF σ), (mRow σ), (mRowMany σ), (mLots σ), (refuX (mRefused σ) (boundI p0 (0 : Int32) (255 : Int32))))) H := hP
      have hD : va_D (AD ad 0 21) (wM g ad ((mS σ), (mT σ), (mK σ), (mF σ), (mRow σ), (mRowMany σ), (mLots σ), (refuX (mRefused σ) (boundI p0 (0 : Int32) (255 : Int32))))) := hD.addr (by rfl)
      exact W.iret (v := ((boundI p0 (0 : Int32) (255 : Int32)))) hx hb hr (fun t ht hW => ⟨⟨((boundI p0 (0 : Int32) (255 : Int32))), ((mS σ), (mT σ), (mK σ), (mF σ), (mRow σ), (mRowMany σ), (mLots σ), (refuX (mRefused σ) (boundI p0 (0 : Int32) (255 : Int32)))), rfl, hv, P_at ht hP⟩, hS.F ht⟩) hS.2.2 dX3_letter_34
  · have hv := hv.2 c10
    refine lv_aload_n hx hb dX3_letter_13 rfl (lv_at hl 1 rfl) ?_
    refine va_get (D := gD g) (ci := 3) (v := .int (tTaped (mT σ))) (C := RX3) (T := TX3) (N := 33) hx hb hts hi3 hown hK hP 0 rfl rfl 20 (by decide) k1 (fun _ h9 => h9) rfl dX3_letter_14 ?_
    refine lv_bipush (v := 96) hx hb dX3_letter_17 (by decide) ?_
    refine lv_icmp_ne (tgt := 25) hx hb dX3_letter_19 (by decide) (fun c19 => ?_) (fun c19 => ?_)
    · have hv := hv.1 c19
      refine lv_iload_n hx hb dX3_letter_25 rfl (lv_at hl 0 rfl) ?_
      refine lv_if_eq (tgt := 35) hx hb dX3_letter_26 (by decide) (fun c26 => ?_) (fun c26 => ?_)
      · have hv := hv.1 c26
        refine lv_aload_n hx hb dX3_letter_35 rfl (lv_at hl 1 rfl) ?_
        refine va_get (D := gD g) (ci := 3) (v := .ref (ad 12)) (C := RX3) (T := TX3) (N := 33) hx hb hts hi3 hown hK hP 0 rfl rfl 16 (by decide) k0 (fun _ h9 => h9) rfl dX3_letter_36 ?_
        refine lv_aload_n hx hb dX3_letter_39 rfl (lv_at hl 1 rfl) ?_
        refine va_get (D := gD g) (ci := 3) (v := .int (tTaped (mT σ))) (C := RX3) (T := TX3) (N := 33) hx hb hts hi3 hown hK hP 0 rfl rfl 20 (by decide) k1 (fun _ h9 => h9) rfl dX3_letter_40 ?_
        refine lv_iload_n hx hb dX3_letter_43 rfl (lv_at hl 2 rfl) ?_
        have h9 := hv.1
        have hv := hv.2
        refine va_iast (f := (tTape (mT σ))) (n := 96) hx hb hK hP hD hS 12 0 rfl rfl h9 dX3_letter_44 (fun H locs hP hD hS => ?_)
        have hP : va_P (gD g) vwCl (wM g ad ((mS σ), ((upd (tTape (mT σ)) ((tTaped (mT σ))).toNatClampNeg p0), (tLetter (mT σ)), (tLetterAt (mT σ)), (tTold (mT σ)), (tTaped (mT σ)), (tAt (mT σ)), (tStm (mT σ))), (mK σ), (mF σ), (mRow σ), (mRowMany σ), (mLots σ), (mRefused σ))) H := hP
        have hD : va_D (AD ad 0 21) (wM g ad ((mS σ), ((upd (tTape (mT σ)) ((tTaped (mT σ))).toNatClampNeg p0), (tLetter (mT σ)), (tLetterAt (mT σ)), (tTold (mT σ)), (tTaped (mT σ)), (tAt (mT σ)), (tStm (mT σ))), (mK σ), (mF σ), (mRow σ), (mRowMany σ), (mLots σ), (mRefused σ))) := hD
        refine lv_aload_n hx hb dX3_letter_45 rfl (lv_at hl 1 rfl) ?_
        refine lv_dup hx hb dX3_letter_46 rfl ?_
        refine va_get (D := gD g) (ci := 3) (v := .int (tTaped (mT σ))) (C := RX3) (T := TX3) (N := 33) hx hb hts hi3 hown hK hP 0 rfl rfl 20 (by decide) k1 (fun _ h9 => h9) rfl dX3_letter_47 ?_
        refine lv_iconst (v := 1) hx hb dX3_letter_50 (by decide) ?_
        refine lv_iadd hx hb dX3_letter_51 ?_
        refine va_put (D := gD g) (ci := 3) (v := .int ((tTaped (mT σ)) + 1)) (ty := .int) (C := RX3) (T := TX3) (N := 33) hx hb hts hi3 tyX3 tyX3_ok nmX3 hown hK hP hD hS 0 rfl rfl 20 (by decide) k1 (fun _ h9 => h9) rfl (by decide +kernel) rfl rfl (Nat.le_of_ble_eq_true rfl) dX3_letter_52 (fun H locs hP hD hS => ?_)
        have hP : va_P (gD g) vwCl (wM g ad ((mS σ), ((upd (tTape (mT σ)) ((tTaped (mT σ))).toNatClampNeg p0), (tLetter (mT σ)), (tLetterAt (mT σ)), (tTold (mT σ)), ((tTaped (mT σ)) + 1), (tAt (mT σ)), (tStm (mT σ))), (mK σ), (mF σ), (mRow σ), (mRowMany σ), (mLots σ), (mRefused σ))) H := hP
        have hD : va_D (AD ad 0 21) (wM g ad ((mS σ), ((upd (tTape (mT σ)) ((tTaped (mT σ))).toNatClampNeg p0), (tLetter (mT σ)), (tLetterAt (mT σ)), (tTold (mT σ)), ((tTaped (mT σ)) + 1), (tAt (mT σ)), (tStm (mT σ))), (mK σ), (mF σ), (mRow σ), (mRowMany σ), (mLots σ), (mRefused σ))) := hD
        refine lv_aload_n hx hb dX3_letter_55 rfl (lv_at hl 1 rfl) ?_
        refine va_get (D := gD g) (ci := 3) (v := .int ((tTaped (mT σ)) + 1)) (C := RX3) (T := TX3) (N := 33) hx hb hts hi3 hown hK hP 0 rfl rfl 20 (by decide) k1 (fun _ h9 => h9) rfl dX3_letter_56 ?_
        exact W.iret (v := ((tTaped (mT σ)) + 1)) hx hb hr (fun t ht hW => ⟨⟨((tTaped (mT σ)) + 1), ((mS σ), ((upd (tTape (mT σ)) ((tTaped (mT σ))).toNatClampNeg p0), (tLetter (mT σ)), (tLetterAt (mT σ)), (tTold (mT σ)), ((tTaped (mT σ)) + 1), (tAt (mT σ)), (tStm (mT σ))), (mK σ), (mF σ), (mRow σ), (mRowMany σ), (mLots σ), (mRefused σ)), rfl, hv, P_at ht hP⟩, hS.F ht⟩) hS.2.2 dX3_letter_59
      · have hv := hv.2 c26
        refine lv_aload_n hx hb dX3_letter_29 rfl (lv_at hl 1 rfl) ?_
        refine lv_iload_n hx hb dX3_letter_30 rfl (lv_at hl 0 rfl) ?_
        have h8 := hv.1
        have hv := hv.2
        have hPc := hP
        have hDc := hD
        refine rw_int (va_runV (As := [.int (boundI p0 (0 : Int32) (255 : Int32))]) (rest := []) ⟨hx, hb, hml, hown, hts⟩ (h_X3_no g ad σ (boundI p0 (0 : Int32) (255 : Int32)) h8) (cwV 1 hts gX3_letter_X3_no rfl rfl rfl (by decide +kernel) ⟨Nat.le_of_ble_eq_true rfl, Nat.le_of_ble_eq_true rfl⟩) ⟨RW_blind, va_recv hK hP (ci := 3) (q0 := 0) rfl rfl, fun U hU hW => ⟨rfl, by rw [hU]; exact hPc, va_K.moved hW.alike hK, hE.call hW hU hS (fun _ h => h), hDc⟩⟩ rfl rfl hl.1 rfl (lv_room (Nat.le_of_ble_eq_true rfl)) dX3_letter_31 ⟨Nat.le_of_ble_eq_true rfl, Nat.le_of_ble_eq_true rfl⟩) hS (fun _ h => h) (fun r u H1 locs hw hP1 hk hS => ?_)
        obtain ⟨hw1, hw⟩ := hw; subst r; subst u
        have hP := hP1
        generalize H1 = H at hP hS ⊢
        have hP : va_P (gD g) vwCl (wM g ad ((mS σ), (mT σ), (mK σ), (mF σ), (mRow σ), (mRowMany σ), (mLots σ), (refuX (mRefused σ) (boundI p0 (0 : Int32) (255 : Int32))))) H := hP
        have hD : va_D (AD ad 0 21) (wM g ad ((mS σ), (mT σ), (mK σ), (mF σ), (mRow σ), (mRowMany σ), (mLots σ), (refuX (mRefused σ) (boundI p0 (0 : Int32) (255 : Int32))))) := hD.addr (by rfl)
        exact W.iret (v := ((boundI p0 (0 : Int32) (255 : Int32)))) hx hb hr (fun t ht hW => ⟨⟨((boundI p0 (0 : Int32) (255 : Int32))), ((mS σ), (mT σ), (mK σ), (mF σ), (mRow σ), (mRowMany σ), (mLots σ), (refuX (mRefused σ) (boundI p0 (0 : Int32) (255 : Int32)))), rfl, hv, P_at ht hP⟩, hS.F ht⟩) hS.2.2 dX3_letter_34
    · have hv := hv.2 c19
      refine lv_bipush (v := (-6)) hx hb dX3_letter_22 (by decide) ?_
      refine lv_istore_n (lv' := [(2, .int (-6)), (0, .ref (ad 0)), (1, .int p0)]) hx hb dX3_letter_24 rfl hl (by decide) rfl (fun ls hl => ?_)
      refine lv_iload_n hx hb dX3_letter_25 rfl (lv_at hl 0 rfl) ?_
      refine lv_if_eq (tgt := 35) hx hb dX3_letter_26 (by decide) (fun c26 => ?_) (fun c26 => ?_)
      · exact absurd c26 (by decide)
      · refine lv_aload_n hx hb dX3_letter_29 rfl (lv_at hl 1 rfl) ?_
        refine lv_iload_n hx hb dX3_letter_30 rfl (lv_at hl 0 rfl) ?_
        have h8 := hv.1
        have hv := hv.2
        have hPc := hP
        have hDc := hD
        refine rw_int (va_runV (As := [.int (-6)]) (rest := []) ⟨hx, hb, hml, hown, hts⟩ (h_X3_no g ad σ (-6) h8) (cwV 1 hts gX3_letter_X3_no rfl rfl rfl (by decide +kernel) ⟨Nat.le_of_ble_eq_true rfl, Nat.le_of_ble_eq_true rfl⟩) ⟨RW_blind, va_recv hK hP (ci := 3) (q0 := 0) rfl rfl, fun U hU hW => ⟨rfl, by rw [hU]; exact hPc, va_K.moved hW.alike hK, hE.call hW hU hS (fun _ h => h), hDc⟩⟩ rfl rfl hl.1 rfl (lv_room (Nat.le_of_ble_eq_true rfl)) dX3_letter_31 ⟨Nat.le_of_ble_eq_true rfl, Nat.le_of_ble_eq_true rfl⟩) hS (fun _ h => h) (fun r u H1 locs hw hP1 hk hS => ?_)
        obtain ⟨hw1, hw⟩ := hw; subst r; subst u
        have hP := hP1
        generalize H1 = H at hP hS ⊢
        have hP : va_P (gD g) vwCl (wM g ad ((mS σ), (mT σ), (mK σ), (mF σ), (mRow σ), (mRowMany σ), (mLots σ), (refuX (mRefused σ) ((-6) : Int32)))) H := hP
        have hD : va_D (AD ad 0 21) (wM g ad ((mS σ), (mT σ), (mK σ), (mF σ), (mRow σ), (mRowMany σ), (mLots σ), (refuX (mRefused σ) ((-6) : Int32)))) := hD.addr (by rfl)
        exact W.iret (v := (((-6) : Int32))) hx hb hr (fun t ht hW => ⟨⟨(((-6) : Int32)), ((mS σ), (mT σ), (mK σ), (mF σ), (mRow σ), (mRowMany σ), (mLots σ), (refuX (mRefused σ) ((-6) : Int32))), rfl, hv, P_at ht hP⟩, hS.F ht⟩) hS.2.2 dX3_letter_34

set_option maxHeartbeats 4000000 in
set_option maxRecDepth 100000 in
theorem m_X3_isSo (l : Launch) (h_X3_has : C_X3_has l) (g : CX) (ad : Nat → Nat) (σ : KM) (p0 : Int32) (p1 : Int32) (Post : Int32 → Prop) (hv : vc_X3_isSo σ p0 p1 Post) : Met l yX3_isSo wsX3_isSo { frames := 1, cells := 0, slots := 0, locals := 21 } (va_Pc [.ref (ad 0), .int p0, .int p1] (RO g (wM g ad σ))) (va_Qi (fun r (_ : Unit) => Post r) (fun _ _ => True) A0) 0 0 A0 := by
  unfold vc_X3_isSo at hv
  refine Met.ofW (cc := cX3_isSo) (maxL := 5) (ret := (some .boolean)) (by decide) rfl ?_
  intro p e s m args below meth c s₁ B hml hv0
  obtain ⟨rfl, hP, hK, hE⟩ := hv0
  have hx := B.exec
  have hb := B.bytes
  have hr := B.returns
  have hts := atoms_spec (ws := wsX3_isSo) B.pre
  have hown : s.vm.findClass RX3 = some m.cls := findClass_of_methodNamed B.named
  have hlocks := B.notSynchronized
  have hi3 : ∀ w ∈ wsX30, w ∈ wsX3_isSo := by decide +kernel
  have k0 := hts (.fieldLink RX3 16 "JuryHearsAnswersModel" "first" "[I") (by decide +kernel)
  have k1 := hts (.fieldLink RX3 19 "JuryHearsAnswersModel" "second" "[I") (by decide +kernel)
  have k2 := hts (.fieldLink RX3 13 "JuryHearsAnswersModel" "form" "[I") (by decide +kernel)
  have hS : va_S A0 s.heap s.heap [] := va_S.rf
  have hP : va_P (gD g) vwCl (wM g ad σ) s.heap := hP
  have hl := lv_entry ([.ref (ad 0), .int p0, .int p1]) (n := 5) (Nat.le_of_ble_eq_true rfl)
  rw [lg_entry_eq]
  generalize (lg_sl ([.ref (ad 0), .int p0, .int p1]) ++ List.replicate (5 - (lg_sl ([.ref (ad 0), .int p0, .int p1])).length) Slot.unset).toArray = ls at hl ⊢
  have hl : lv_has ls 5 [(0, .ref (ad 0)), (1, .int p0), (2, .int p1)] := hl
  obtain ⟨H, hH⟩ : ∃ z, z = s.heap := ⟨_, rfl⟩
  obtain ⟨locs, hL⟩ : ∃ z : List Loc, z = [] := ⟨_, rfl⟩
  rw [← hL] at hS ⊢
  have hS : va_S A0 s.heap H locs := by rw [hH]; exact hS
  rw [← hH] at hP ⊢
  clear hH hL
  refine lv_iload_n hx hb dX3_isSo_0 rfl (lv_at hl 2 rfl) ?_
  refine lv_aload_n hx hb dX3_isSo_1 rfl (lv_at hl 0 rfl) ?_
  refine va_get (D := gD g) (ci := 3) (v := .ref (ad 3)) (C := RX3) (T := TX3) (N := 33) hx hb hts hi3 hown hK hP 0 rfl rfl 2 (by decide) k0 (fun _ h9 => h9) rfl dX3_isSo_2 ?_
  refine lv_iload_n hx hb dX3_isSo_5 rfl (lv_at hl 1 rfl) ?_
  have h9 := hv.1
  have hv := hv.2
  refine va_iald (f := (sFirst (mS σ))) (n := 8) hx hb hK hP 3 0 rfl rfl h9 dX3_isSo_6 ?_
  have hPc : va_P (gD g) vwCl [] H := fun k q h => by simp at h
  refine ro_int (va_runS (As := [.int p1, .int ((sFirst (mS σ)) (p0).toNatClampNeg)]) (rest := []) ⟨hx, hb, hml, hown, hts⟩ (h_X3_has g p1 ((sFirst (mS σ)) (p0).toNatClampNeg)) (va_cwS 2 hts gX3_isSo_X3_has rfl rfl rfl (by decide +kernel) ⟨Nat.le_of_ble_eq_true rfl, Nat.le_of_ble_eq_true rfl⟩) ⟨RO_blind, fun U hU hW => ⟨rfl, by rw [hU]; exact hPc, va_K.moved hW.alike hK, hE.call hW hU hS (fun _ h => h.elim)⟩⟩ rfl rfl hl.1 rfl (lv_room (Nat.le_of_ble_eq_true rfl)) dX3_isSo_7 ⟨Nat.le_of_ble_eq_true rfl, Nat.le_of_ble_eq_true rfl⟩) hS hP (fun r H locs hw hP hS => ?_)
  subst r
  refine lv_istore_n (lv' := [(3, .int (b2i (hasB p1 ((sFirst (mS σ)) (p0).toNatClampNeg)))), (0, .ref (ad 0)), (1, .int p0), (2, .int p1)]) hx hb dX3_isSo_10 rfl hl (by decide) rfl (fun ls hl => ?_)
  refine lv_iload_n hx hb dX3_isSo_11 rfl (lv_at hl 3 rfl) ?_
  refine lv_aload_n hx hb dX3_isSo_12 rfl (lv_at hl 1 rfl) ?_
  refine va_get (D := gD g) (ci := 3) (v := .ref (ad 4)) (C := RX3) (T := TX3) (N := 33) hx hb hts hi3 hown hK hP 0 rfl rfl 3 (by decide) k1 (fun _ h9 => h9) rfl dX3_isSo_13 ?_
  refine lv_iload_n hx hb dX3_isSo_16 rfl (lv_at hl 2 rfl) ?_
  have h9 := hv.1
  have hv := hv.2
  refine va_iald (f := (sSecond (mS σ))) (n := 8) hx hb hK hP 4 0 rfl rfl h9 dX3_isSo_17 ?_
  have hPc : va_P (gD g) vwCl [] H := fun k q h => by simp at h
  refine ro_int (va_runS (As := [.int p1, .int ((sSecond (mS σ)) (p0).toNatClampNeg)]) (rest := []) ⟨hx, hb, hml, hown, hts⟩ (h_X3_has g p1 ((sSecond (mS σ)) (p0).toNatClampNeg)) (va_cwS 2 hts gX3_isSo_X3_has rfl rfl rfl (by decide +kernel) ⟨Nat.le_of_ble_eq_true rfl, Nat.le_of_ble_eq_true rfl⟩) ⟨RO_blind, fun U hU hW => ⟨rfl, by rw [hU]; exact hPc, va_K.moved hW.alike hK, hE.call hW hU hS (fun _ h => h.elim)⟩⟩ rfl rfl hl.1 rfl (lv_room (Nat.le_of_ble_eq_true rfl)) dX3_isSo_18 ⟨Nat.le_of_ble_eq_true rfl, Nat.le_of_ble_eq_true rfl⟩) hS hP (fun r H locs hw hP hS => ?_)
  subst r
  refine lv_istore (lv' := [(4, .int (b2i (hasB p1 ((sSecond (mS σ)) (p0).toNatClampNeg)))), (3, .int (b2i (hasB p1 ((sFirst (mS σ)) (p0).toNatClampNeg)))), (0, .ref (ad 0)), (1, .int p0), (2, .int p1)]) hx hb dX3_isSo_21 hl (by decide) rfl (fun ls hl => ?_)
  refine lv_aload_n hx hb dX3_isSo_23 rfl (lv_at hl 2 rfl) ?_
  refine va_get (D := gD g) (ci := 3) (v := .ref (ad 2)) (C := RX3) (T := TX3) (N := 33) hx hb hts hi3 hown hK hP 0 rfl rfl 1 (by decide) k2 (fun _ h9 => h9) rfl dX3_isSo_24 ?_
  refine lv_iload_n hx hb dX3_isSo_27 rfl (lv_at hl 3 rfl) ?_
  have h9 := hv.1
  have hv := hv.2
  refine va_iald (f := (sForm (mS σ))) (n := 8) hx hb hK hP 2 0 rfl rfl h9 dX3_isSo_28 ?_
  by_cases d29_0 : ((sForm (mS σ)) (p0).toNatClampNeg) = 0
  · have hv := hv.1 d29_0
    refine lv_tableIn (off := 31) (tgt := 60) hx hb dX3_isSo_29 (by rw [d29_0]; decide) (by rw [d29_0]; decide) (by rw [d29_0]; rfl) (by decide) ?_
    refine lv_iload_n hx hb dX3_isSo_60 rfl (lv_at hl 1 rfl) ?_
    have hn := hv.1
    have hv := hv.2
    exact W.zret (v := (b2i (hasB p1 ((sFirst (mS σ)) (p0).toNatClampNeg)))) hx hb hr hn (fun t ht hW => ⟨⟨(b2i (hasB p1 ((sFirst (mS σ)) (p0).toNatClampNeg))), (), rfl, hv, trivial⟩, hS.F ht⟩) hS.2.2 dX3_isSo_61
  · have hv := hv.2 d29_0
    by_cases d29_1 : ((sForm (mS σ)) (p0).toNatClampNeg) = 1
    · have hv := hv.1 d29_1
      refine lv_tableIn (off := 33) (tgt := 62) hx hb dX3_isSo_29 (by rw [d29_1]; decide) (by rw [d29_1]; decide) (by rw [d29_1]; rfl) (by decide) ?_
      refine lv_iload_n hx hb dX3_isSo_62 rfl (lv_at hl 1 rfl) ?_
      refine lv_if_ne (tgt := 70) hx hb dX3_isSo_63 (by decide) (fun c63 => ?_) (fun c63 => ?_)
      · have hv := hv.1 c63
        refine lv_iconst (v := 0) hx hb dX3_isSo_70 (by decide) ?_
        exact W.zret (v := 0) hx hb hr rfl (fun t ht hW => ⟨⟨0, (), rfl, hv, trivial⟩, hS.F ht⟩) hS.2.2 dX3_isSo_71
      · have hv := hv.2 c63
        refine lv_iconst (v := 1) hx hb dX3_isSo_66 (by decide) ?_
        refine lv_goto (tgt := 71) hx hb dX3_isSo_67 (by decide) ?_
        exact W.zret (v := 1) hx hb hr rfl (fun t ht hW => ⟨⟨1, (), rfl, hv, trivial⟩, hS.F ht⟩) hS.2.2 dX3_isSo_71
    · have hv := hv.2 d29_1
      by_cases d29_2 : ((sForm (mS σ)) (p0).toNatClampNeg) = 2
      · have hv := hv.1 d29_2
        refine lv_tableIn (off := 43) (tgt := 72) hx hb dX3_isSo_29 (by rw [d29_2]; decide) (by rw [d29_2]; decide) (by rw [d29_2]; rfl) (by decide) ?_
        refine lv_iload_n hx hb dX3_isSo_72 rfl (lv_at hl 1 rfl) ?_
        refine lv_if_eq (tgt := 85) hx hb dX3_isSo_73 (by decide) (fun c73 => ?_) (fun c73 => ?_)
        · have hv := hv.1 c73
          refine lv_iconst (v := 0) hx hb dX3_isSo_85 (by decide) ?_
          exact W.zret (v := 0) hx hb hr rfl (fun t ht hW => ⟨⟨0, (), rfl, hv, trivial⟩, hS.F ht⟩) hS.2.2 dX3_isSo_86
        · have hv := hv.2 c73
          refine lv_iload hx hb dX3_isSo_76 (lv_at hl 0 rfl) ?_
          refine lv_if_eq (tgt := 85) hx hb dX3_isSo_78 (by decide) (fun c78 => ?_) (fun c78 => ?_)
          · have hv := hv.1 c78
            refine lv_iconst (v := 0) hx hb dX3_isSo_85 (by decide) ?_
            exact W.zret (v := 0) hx hb hr rfl (fun t ht hW => ⟨⟨0, (), rfl, hv, trivial⟩, hS.F ht⟩) hS.2.2 dX3_isSo_86
          · have hv := hv.2 c78
            refine lv_iconst (v := 1) hx hb dX3_isSo_81 (by decide) ?_
            refine lv_goto (tgt := 86) hx hb dX3_isSo_82 (by decide) ?_
            exact W.zret (v := 1) hx hb hr rfl (fun t ht hW => ⟨⟨1, (), rfl, hv, trivial⟩, hS.F ht⟩) hS.2.2 dX3_isSo_86
      · have hv := hv.2 d29_2
        by_cases d29_3 : ((sForm (mS σ)) (p0).toNatClampNeg) = 3
        · have hv := hv.1 d29_3
          refine lv_tableIn (off := 58) (tgt := 87) hx hb dX3_isSo_29 (by rw [d29_3]; decide) (by rw [d29_3]; decide) (by rw [d29_3]; rfl) (by decide) ?_
          refine lv_iload_n hx hb dX3_isSo_87 rfl (lv_at hl 1 rfl) ?_
          refine lv_if_ne (tgt := 96) hx hb dX3_isSo_88 (by decide) (fun c88 => ?_) (fun c88 => ?_)
          · have hv := hv.1 c88
            refine lv_iconst (v := 1) hx hb dX3_isSo_96 (by decide) ?_
            refine lv_goto (tgt := 101) hx hb dX3_isSo_97 (by decide) ?_
            exact W.zret (v := 1) hx hb hr rfl (fun t ht hW => ⟨⟨1, (), rfl, hv, trivial⟩, hS.F ht⟩) hS.2.2 dX3_isSo_101
          · have hv := hv.2 c88
            refine lv_iload hx hb dX3_isSo_91 (lv_at hl 0 rfl) ?_
            refine lv_if_eq (tgt := 100) hx hb dX3_isSo_93 (by decide) (fun c93 => ?_) (fun c93 => ?_)
            · have hv := hv.1 c93
              refine lv_iconst (v := 0) hx hb dX3_isSo_100 (by decide) ?_
              exact W.zret (v := 0) hx hb hr rfl (fun t ht hW => ⟨⟨0, (), rfl, hv, trivial⟩, hS.F ht⟩) hS.2.2 dX3_isSo_101
            · have hv := hv.2 c93
              refine lv_iconst (v := 1) hx hb dX3_isSo_96 (by decide) ?_
              refine lv_goto (tgt := 101) hx hb dX3_isSo_97 (by decide) ?_
              exact W.zret (v := 1) hx hb hr rfl (fun t ht hW => ⟨⟨1, (), rfl, hv, trivial⟩, hS.F ht⟩) hS.2.2 dX3_isSo_101
        · have hv := hv.2 d29_3
          refine lv_tableOut (tgt := 102) hx hb dX3_isSo_29 (by have n0 := lv_neT (a := 0) d29_0 (by decide); have n1 := lv_neT (a := 1) d29_1 (by decide); have n2 := lv_neT (a := 2) d29_2 (by decide); have n3 := lv_neT (a := 3) d29_3 (by decide); omega) (by decide) ?_
          refine lv_iload_n hx hb dX3_isSo_102 rfl (lv_at hl 1 rfl) ?_
          refine lv_iload hx hb dX3_isSo_103 (lv_at hl 0 rfl) ?_
          refine lv_icmp_ne (tgt := 112) hx hb dX3_isSo_105 (by decide) (fun c105 => ?_) (fun c105 => ?_)
          · have hv := hv.1 c105
            refine lv_iconst (v := 0) hx hb dX3_isSo_112 (by decide) ?_
            exact W.zret (v := 0) hx hb hr rfl (fun t ht hW => ⟨⟨0, (), rfl, hv, trivial⟩, hS.F ht⟩) hS.2.2 dX3_isSo_113
          · have hv := hv.2 c105
            refine lv_iconst (v := 1) hx hb dX3_isSo_108 (by decide) ?_
            refine lv_goto (tgt := 113) hx hb dX3_isSo_109 (by decide) ?_
            exact W.zret (v := 1) hx hb hr rfl (fun t ht hW => ⟨⟨1, (), rfl, hv, trivial⟩, hS.F ht⟩) hS.2.2 dX3_isSo_113

set_option maxHeartbeats 4000000 in
set_option maxRecDepth 100000 in
theorem m_X3_plain (l : Launch) (h_X3_has : C_X3_has l) (h_X3_isSo : C_X3_isSo l) (g : CX) (ad : Nat → Nat) (σ : KM) (p0 : Int32) (p1 : Int32) (p2 : Int32) (Post : Int32 → Prop) (hv : vc_X3_plain σ p0 p1 p2 Post) : Met l yX3_plain wsX3_plain { frames := 2, cells := 0, slots := 0, locals := 45 } (va_Pc [.ref (ad 0), .int p0, .int p1, .int p2] (RO g (wM g ad σ))) (va_Qi (fun r (_ : Unit) => Post r) (fun _ _ => True) A0) 0 0 A0 := by
  unfold vc_X3_plain at hv
  refine Met.ofW (cc := cX3_plain) (maxL := 4) (ret := (some .int)) (by decide) rfl ?_
  intro p e s m args below meth c s₁ B hml hv0
  obtain ⟨rfl, hP, hK, hE⟩ := hv0
  have hx := B.exec
  have hb := B.bytes
  have hr := B.returns
  have hts := atoms_spec (ws := wsX3_plain) B.pre
  have hown : s.vm.findClass RX3 = some m.cls := findClass_of_methodNamed B.named
  have hlocks := B.notSynchronized
  have hi3 : ∀ w ∈ wsX30, w ∈ wsX3_plain := by decide +kernel
  have k0 := hts (.fieldLink RX3 28 "JuryHearsAnswersModel" "knows" "[I") (by decide +kernel)
  have k1 := hts (.fieldLink RX3 16 "JuryHearsAnswersModel" "first" "[I") (by decide +kernel)
  have k2 := hts (.fieldLink RX3 13 "JuryHearsAnswersModel" "form" "[I") (by decide +kernel)
  have k3 := hts (.fieldLink RX3 19 "JuryHearsAnswersModel" "second" "[I") (by decide +kernel)
  have hS : va_S A0 s.heap s.heap [] := va_S.rf
  have hP : va_P (gD g) vwCl (wM g ad σ) s.heap := hP
  have hl := lv_entry ([.ref (ad 0), .int p0, .int p1, .int p2]) (n := 4) (Nat.le_of_ble_eq_true rfl)
  rw [lg_entry_eq]
  generalize (lg_sl ([.ref (ad 0), .int p0, .int p1, .int p2]) ++ List.replicate (4 - (lg_sl ([.ref (ad 0), .int p0, .int p1, .int p2])).length) Slot.unset).toArray = ls at hl ⊢
  have hl : lv_has ls 4 [(0, .ref (ad 0)), (1, .int p0), (2, .int p1), (3, .int p2)] := hl
  obtain ⟨H, hH⟩ : ∃ z, z = s.heap := ⟨_, rfl⟩
  obtain ⟨locs, hL⟩ : ∃ z : List Loc, z = [] := ⟨_, rfl⟩
  rw [← hL] at hS ⊢
  have hS : va_S A0 s.heap H locs := by rw [hH]; exact hS
  rw [← hH] at hP ⊢
  clear hH hL
  refine lv_aload_n hx hb dX3_plain_0 rfl (lv_at hl 0 rfl) ?_
  refine va_get (D := gD g) (ci := 3) (v := .ref (ad 7)) (C := RX3) (T := TX3) (N := 33) hx hb hts hi3 hown hK hP 0 rfl rfl 6 (by decide) k0 (fun _ h9 => h9) rfl dX3_plain_1 ?_
  refine lv_iload_n hx hb dX3_plain_4 rfl (lv_at hl 1 rfl) ?_
  have h9 := hv.1
  have hv := hv.2
  refine va_iald (f := (sKnows (mS σ))) (n := 5) hx hb hK hP 7 0 rfl rfl h9 dX3_plain_5 ?_
  refine lv_aload_n hx hb dX3_plain_6 rfl (lv_at hl 0 rfl) ?_
  refine va_get (D := gD g) (ci := 3) (v := .ref (ad 3)) (C := RX3) (T := TX3) (N := 33) hx hb hts hi3 hown hK hP 0 rfl rfl 2 (by decide) k1 (fun _ h9 => h9) rfl dX3_plain_7 ?_
  refine lv_iload_n hx hb dX3_plain_10 rfl (lv_at hl 2 rfl) ?_
  have h9 := hv.1
  have hv := hv.2
  refine va_iald (f := (sFirst (mS σ))) (n := 8) hx hb hK hP 3 0 rfl rfl h9 dX3_plain_11 ?_
  have hPc : va_P (gD g) vwCl [] H := fun k q h => by simp at h
  refine ro_int (va_runS (As := [.int ((sKnows (mS σ)) (p0).toNatClampNeg), .int ((sFirst (mS σ)) (p1).toNatClampNeg)]) (rest := []) ⟨hx, hb, hml, hown, hts⟩ (h_X3_has g ((sKnows (mS σ)) (p0).toNatClampNeg) ((sFirst (mS σ)) (p1).toNatClampNeg)) (va_cwS 2 hts gX3_plain_X3_has rfl rfl rfl (by decide +kernel) ⟨Nat.le_of_ble_eq_true rfl, Nat.le_of_ble_eq_true rfl⟩) ⟨RO_blind, fun U hU hW => ⟨rfl, by rw [hU]; exact hPc, va_K.moved hW.alike hK, hE.call hW hU hS (fun _ h => h.elim)⟩⟩ rfl rfl hl.1 rfl (lv_room (Nat.le_of_ble_eq_true rfl)) dX3_plain_12 ⟨Nat.le_of_ble_eq_true rfl, Nat.le_of_ble_eq_true rfl⟩) hS hP (fun r H locs hw hP hS => ?_)
  subst r
  refine lv_if_eq (tgt := 46) hx hb dX3_plain_15 (by decide) (fun c15 => ?_) (fun c15 => ?_)
  · have hv := hv.1 c15
    refine lv_iconst (v := 2) hx hb dX3_plain_46 (by decide) ?_
    exact W.iret (v := 2) hx hb hr (fun t ht hW => ⟨⟨2, (), rfl, hv, trivial⟩, hS.F ht⟩) hS.2.2 dX3_plain_47
  · have hv := hv.2 c15
    refine lv_aload_n hx hb dX3_plain_18 rfl (lv_at hl 0 rfl) ?_
    refine va_get (D := gD g) (ci := 3) (v := .ref (ad 2)) (C := RX3) (T := TX3) (N := 33) hx hb hts hi3 hown hK hP 0 rfl rfl 1 (by decide) k2 (fun _ h9 => h9) rfl dX3_plain_19 ?_
    refine lv_iload_n hx hb dX3_plain_22 rfl (lv_at hl 2 rfl) ?_
    have h9 := hv.1
    have hv := hv.2
    refine va_iald (f := (sForm (mS σ))) (n := 8) hx hb hK hP 2 0 rfl rfl h9 dX3_plain_23 ?_
    refine lv_iconst (v := 1) hx hb dX3_plain_24 (by decide) ?_
    refine lv_icmp_le (tgt := 48) hx hb dX3_plain_25 (by decide) (fun c25 => ?_) (fun c25 => ?_)
    · have hv := hv.1 c25
      refine lv_aload_n hx hb dX3_plain_48 rfl (lv_at hl 0 rfl) ?_
      refine lv_iload_n hx hb dX3_plain_49 rfl (lv_at hl 2 rfl) ?_
      refine lv_iload_n hx hb dX3_plain_50 rfl (lv_at hl 3 rfl) ?_
      have h8 := hv.1
      have hv := hv.2
      have hPc := hP
      refine ro_int (va_runV (As := [.int p1, .int p2]) (rest := []) ⟨hx, hb, hml, hown, hts⟩ (h_X3_isSo g ad σ p1 p2 h8) (cwV 2 hts gX3_plain_X3_isSo rfl rfl rfl (by decide +kernel) ⟨Nat.le_of_ble_eq_true rfl, Nat.le_of_ble_eq_true rfl⟩) ⟨RO_blind, va_recv hK hP (ci := 3) (q0 := 0) rfl rfl, fun U hU hW => ⟨rfl, by rw [hU]; exact hPc, va_K.moved hW.alike hK, hE.call hW hU hS (fun _ h => h.elim)⟩⟩ rfl rfl hl.1 rfl (lv_room (Nat.le_of_ble_eq_true rfl)) dX3_plain_51 ⟨Nat.le_of_ble_eq_true rfl, Nat.le_of_ble_eq_true rfl⟩) hS hP (fun r H locs hw hP hS => ?_)
      subst r
      refine lv_if_eq (tgt := 61) hx hb dX3_plain_54 (by decide) (fun c54 => ?_) (fun c54 => ?_)
      · have hv := hv.1 c54
        refine lv_iconst (v := 0) hx hb dX3_plain_61 (by decide) ?_
        exact W.iret (v := 0) hx hb hr (fun t ht hW => ⟨⟨0, (), rfl, hv, trivial⟩, hS.F ht⟩) hS.2.2 dX3_plain_62
      · have hv := hv.2 c54
        refine lv_iconst (v := 1) hx hb dX3_plain_57 (by decide) ?_
        refine lv_goto (tgt := 62) hx hb dX3_plain_58 (by decide) ?_
        exact W.iret (v := 1) hx hb hr (fun t ht hW => ⟨⟨1, (), rfl, hv, trivial⟩, hS.F ht⟩) hS.2.2 dX3_plain_62
    · have hv := hv.2 c25
      refine lv_aload_n hx hb dX3_plain_28 rfl (lv_at hl 0 rfl) ?_
      refine va_get (D := gD g) (ci := 3) (v := .ref (ad 7)) (C := RX3) (T := TX3) (N := 33) hx hb hts hi3 hown hK hP 0 rfl rfl 6 (by decide) k0 (fun _ h9 => h9) rfl dX3_plain_29 ?_
      refine lv_iload_n hx hb dX3_plain_32 rfl (lv_at hl 1 rfl) ?_
      have h9 := hv.1
      have hv := hv.2
      refine va_iald (f := (sKnows (mS σ))) (n := 5) hx hb hK hP 7 0 rfl rfl h9 dX3_plain_33 ?_
      refine lv_aload_n hx hb dX3_plain_34 rfl (lv_at hl 0 rfl) ?_
      refine va_get (D := gD g) (ci := 3) (v := .ref (ad 4)) (C := RX3) (T := TX3) (N := 33) hx hb hts hi3 hown hK hP 0 rfl rfl 3 (by decide) k3 (fun _ h9 => h9) rfl dX3_plain_35 ?_
      refine lv_iload_n hx hb dX3_plain_38 rfl (lv_at hl 2 rfl) ?_
      have h9 := hv.1
      have hv := hv.2
      refine va_iald (f := (sSecond (mS σ))) (n := 8) hx hb hK hP 4 0 rfl rfl h9 dX3_plain_39 ?_
      have hPc : va_P (gD g) vwCl [] H := fun k q h => by simp at h
      refine ro_int (va_runS (As := [.int ((sKnows (mS σ)) (p0).toNatClampNeg), .int ((sSecond (mS σ)) (p1).toNatClampNeg)]) (rest := []) ⟨hx, hb, hml, hown, hts⟩ (h_X3_has g ((sKnows (mS σ)) (p0).toNatClampNeg) ((sSecond (mS σ)) (p1).toNatClampNeg)) (va_cwS 2 hts gX3_plain_X3_has rfl rfl rfl (by decide +kernel) ⟨Nat.le_of_ble_eq_true rfl, Nat.le_of_ble_eq_true rfl⟩) ⟨RO_blind, fun U hU hW => ⟨rfl, by rw [hU]; exact hPc, va_K.moved hW.alike hK, hE.call hW hU hS (fun _ h => h.elim)⟩⟩ rfl rfl hl.1 rfl (lv_room (Nat.le_of_ble_eq_true rfl)) dX3_plain_40 ⟨Nat.le_of_ble_eq_true rfl, Nat.le_of_ble_eq_true rfl⟩) hS hP (fun r H locs hw hP hS => ?_)
      subst r
      refine lv_if_ne (tgt := 48) hx hb dX3_plain_43 (by decide) (fun c43 => ?_) (fun c43 => ?_)
      · have hv := hv.1 c43
        refine lv_aload_n hx hb dX3_plain_48 rfl (lv_at hl 0 rfl) ?_
        refine lv_iload_n hx hb dX3_plain_49 rfl (lv_at hl 2 rfl) ?_
        refine lv_iload_n hx hb dX3_plain_50 rfl (lv_at hl 3 rfl) ?_
        have h8 := hv.1
        have hv := hv.2
        have hPc := hP
        refine ro_int (va_runV (As := [.int p1, .int p2]) (rest := []) ⟨hx, hb, hml, hown, hts⟩ (h_X3_isSo g ad σ p1 p2 h8) (cwV 2 hts gX3_plain_X3_isSo rfl rfl rfl (by decide +kernel) ⟨Nat.le_of_ble_eq_true rfl, Nat.le_of_ble_eq_true rfl⟩) ⟨RO_blind, va_recv hK hP (ci := 3) (q0 := 0) rfl rfl, fun U hU hW => ⟨rfl, by rw [hU]; exact hPc, va_K.moved hW.alike hK, hE.call hW hU hS (fun _ h => h.elim)⟩⟩ rfl rfl hl.1 rfl (lv_room (Nat.le_of_ble_eq_true rfl)) dX3_plain_51 ⟨Nat.le_of_ble_eq_true rfl, Nat.le_of_ble_eq_true rfl⟩) hS hP (fun r H locs hw hP hS => ?_)
        subst r
        refine lv_if_eq (tgt := 61) hx hb dX3_plain_54 (by decide) (fun c54 => ?_) (fun c54 => ?_)
        · have hv := hv.1 c54
          refine lv_iconst (v := 0) hx hb dX3_plain_61 (by decide) ?_
          exact W.iret (v := 0) hx hb hr (fun t ht hW => ⟨⟨0, (), rfl, hv, trivial⟩, hS.F ht⟩) hS.2.2 dX3_plain_62
        · have hv := hv.2 c54
          refine lv_iconst (v := 1) hx hb dX3_plain_57 (by decide) ?_
          refine lv_goto (tgt := 62) hx hb dX3_plain_58 (by decide) ?_
          exact W.iret (v := 1) hx hb hr (fun t ht hW => ⟨⟨1, (), rfl, hv, trivial⟩, hS.F ht⟩) hS.2.2 dX3_plain_62
      · have hv := hv.2 c43
        refine lv_iconst (v := 2) hx hb dX3_plain_46 (by decide) ?_
        exact W.iret (v := 2) hx hb hr (fun t ht hW => ⟨⟨2, (), rfl, hv, trivial⟩, hS.F ht⟩) hS.2.2 dX3_plain_47

set_option maxHeartbeats 4000000 in
set_option maxRecDepth 100000 in
theorem m_X3_answerOf (l : Launch) (h_X3_plain : C_X3_plain l) (g : CX) (ad : Nat → Nat) (σ : KM) (p0 : Int32) (p1 : Int32) (p2 : Int32) (p3 : Int32) (Post : Int32 → Prop) (hv : vc_X3_answerOf σ p0 p1 p2 p3 Post) : Met l yX3_answerOf wsX3_answerOf { frames := 3, cells := 0, slots := 0, locals := 68 } (va_Pc [.ref (ad 0), .int p0, .int p1, .int p2, .int p3] (RO g (wM g ad σ))) (va_Qi (fun r (_ : Unit) => Post r) (fun _ _ => True) A0) 0 0 A0 := by
  unfold vc_X3_answerOf at hv
  refine Met.ofW (cc := cX3_answerOf) (maxL := 6) (ret := (some .int)) (by decide) rfl ?_
  intro p e s m args below meth c s₁ B hml hv0
  obtain ⟨rfl, hP, hK, hE⟩ := hv0
  have hx := B.exec
  have hb := B.bytes
  have hr := B.returns
  have hts := atoms_spec (ws := wsX3_answerOf) B.pre
  have hown : s.vm.findClass RX3 = some m.cls := findClass_of_methodNamed B.named
  have hlocks := B.notSynchronized
  have hi3 : ∀ w ∈ wsX30, w ∈ wsX3_answerOf := by decide +kernel
  have k0 := hts (.fieldLink RX3 22 "JuryHearsAnswersModel" "kind" "[I") (by decide +kernel)
  have k1 := hts (.fieldLink RX3 25 "JuryHearsAnswersModel" "figure" "[I") (by decide +kernel)
  have k2 := hts (.fieldLink RX3 70 "JuryHearsAnswersModel" "questions" "I") (by decide +kernel)
  have hS : va_S A0 s.heap s.heap [] := va_S.rf
  have hP : va_P (gD g) vwCl (wM g ad σ) s.heap := hP
  have hl := lv_entry ([.ref (ad 0), .int p0, .int p1, .int p2, .int p3]) (n := 6) (Nat.le_of_ble_eq_true rfl)
  rw [lg_entry_eq]
  generalize (lg_sl ([.ref (ad 0), .int p0, .int p1, .int p2, .int p3]) ++ List.replicate (6 - (lg_sl ([.ref (ad 0), .int p0, .int p1, .int p2, .int p3])).length) Slot.unset).toArray = ls at hl ⊢
  have hl : lv_has ls 6 [(0, .ref (ad 0)), (1, .int p0), (2, .int p1), (3, .int p2), (4, .int p3)] := hl
  obtain ⟨H, hH⟩ : ∃ z, z = s.heap := ⟨_, rfl⟩
  obtain ⟨locs, hL⟩ : ∃ z : List Loc, z = [] := ⟨_, rfl⟩
  rw [← hL] at hS ⊢
  have hS : va_S A0 s.heap H locs := by rw [hH]; exact hS
  rw [← hH] at hP ⊢
  clear hH hL
  refine lv_aload_n hx hb dX3_answerOf_0 rfl (lv_at hl 0 rfl) ?_
  refine lv_iload_n hx hb dX3_answerOf_1 rfl (lv_at hl 1 rfl) ?_
  refine lv_iload_n hx hb dX3_answerOf_2 rfl (lv_at hl 2 rfl) ?_
  refine lv_iload_n hx hb dX3_answerOf_3 rfl (lv_at hl 3 rfl) ?_
  have h8 := hv.1
  have hv := hv.2
  have hPc := hP
  refine ro_int (va_runV (As := [.int p0, .int p1, .int p2]) (rest := []) ⟨hx, hb, hml, hown, hts⟩ (h_X3_plain g ad σ p0 p1 p2 h8) (cwV 3 hts gX3_answerOf_X3_plain rfl rfl rfl (by decide +kernel) ⟨Nat.le_of_ble_eq_true rfl, Nat.le_of_ble_eq_true rfl⟩) ⟨RO_blind, va_recv hK hP (ci := 3) (q0 := 0) rfl rfl, fun U hU hW => ⟨rfl, by rw [hU]; exact hPc, va_K.moved hW.alike hK, hE.call hW hU hS (fun _ h => h.elim)⟩⟩ rfl rfl hl.1 rfl (lv_room (Nat.le_of_ble_eq_true rfl)) dX3_answerOf_4 ⟨Nat.le_of_ble_eq_true rfl, Nat.le_of_ble_eq_true rfl⟩) hS hP (fun r H locs hw hP hS => ?_)
  subst r
  refine lv_istore (lv' := [(5, .int (plainI (mS σ) p0 p1 p2)), (0, .ref (ad 0)), (1, .int p0), (2, .int p1), (3, .int p2), (4, .int p3)]) hx hb dX3_answerOf_7 hl (by decide) rfl (fun ls hl => ?_)
  refine lv_aload_n hx hb dX3_answerOf_9 rfl (lv_at hl 1 rfl) ?_
  refine va_get (D := gD g) (ci := 3) (v := .ref (ad 5)) (C := RX3) (T := TX3) (N := 33) hx hb hts hi3 hown hK hP 0 rfl rfl 4 (by decide) k0 (fun _ h9 => h9) rfl dX3_answerOf_10 ?_
  refine lv_iload_n hx hb dX3_answerOf_13 rfl (lv_at hl 2 rfl) ?_
  have h9 := hv.1
  have hv := hv.2
  refine va_iald (f := (sKind (mS σ))) (n := 5) hx hb hK hP 5 0 rfl rfl h9 dX3_answerOf_14 ?_
  by_cases d15_1 : ((sKind (mS σ)) (p0).toNatClampNeg) = 1
  · have hv := hv.1 d15_1
    refine lv_tableIn (off := 33) (tgt := 48) hx hb dX3_answerOf_15 (by rw [d15_1]; decide) (by rw [d15_1]; decide) (by rw [d15_1]; rfl) (by decide) ?_
    refine lv_iload hx hb dX3_answerOf_48 (lv_at hl 0 rfl) ?_
    refine lv_iconst (v := 2) hx hb dX3_answerOf_50 (by decide) ?_
    refine lv_icmp_ne (tgt := 59) hx hb dX3_answerOf_51 (by decide) (fun c51 => ?_) (fun c51 => ?_)
    · have hv := hv.1 c51
      refine lv_iconst (v := 1) hx hb dX3_answerOf_59 (by decide) ?_
      refine lv_iload hx hb dX3_answerOf_60 (lv_at hl 0 rfl) ?_
      refine lv_isub hx hb dX3_answerOf_62 ?_
      exact W.iret (v := (1 - (plainI (mS σ) p0 p1 p2))) hx hb hr (fun t ht hW => ⟨⟨(1 - (plainI (mS σ) p0 p1 p2)), (), rfl, hv, trivial⟩, hS.F ht⟩) hS.2.2 dX3_answerOf_63
    · have hv := hv.2 c51
      refine lv_iload hx hb dX3_answerOf_54 (lv_at hl 0 rfl) ?_
      refine lv_goto (tgt := 63) hx hb dX3_answerOf_56 (by decide) ?_
      exact W.iret (v := (plainI (mS σ) p0 p1 p2)) hx hb hr (fun t ht hW => ⟨⟨(plainI (mS σ) p0 p1 p2), (), rfl, hv, trivial⟩, hS.F ht⟩) hS.2.2 dX3_answerOf_63
  · have hv := hv.2 d15_1
    by_cases d15_2 : ((sKind (mS σ)) (p0).toNatClampNeg) = 2
    · have hv := hv.1 d15_2
      refine lv_tableIn (off := 49) (tgt := 64) hx hb dX3_answerOf_15 (by rw [d15_2]; decide) (by rw [d15_2]; decide) (by rw [d15_2]; rfl) (by decide) ?_
      refine lv_iload hx hb dX3_answerOf_64 (lv_at hl 0 rfl) ?_
      refine lv_if_ne (tgt := 73) hx hb dX3_answerOf_66 (by decide) (fun c66 => ?_) (fun c66 => ?_)
      · have hv := hv.1 c66
        refine lv_iload hx hb dX3_answerOf_73 (lv_at hl 0 rfl) ?_
        exact W.iret (v := (plainI (mS σ) p0 p1 p2)) hx hb hr (fun t ht hW => ⟨⟨(plainI (mS σ) p0 p1 p2), (), rfl, hv, trivial⟩, hS.F ht⟩) hS.2.2 dX3_answerOf_75
      · have hv := hv.2 c66
        refine lv_iconst (v := 2) hx hb dX3_answerOf_69 (by decide) ?_
        refine lv_goto (tgt := 75) hx hb dX3_answerOf_70 (by decide) ?_
        exact W.iret (v := 2) hx hb hr (fun t ht hW => ⟨⟨2, (), rfl, hv, trivial⟩, hS.F ht⟩) hS.2.2 dX3_answerOf_75
    · have hv := hv.2 d15_2
      by_cases d15_3 : ((sKind (mS σ)) (p0).toNatClampNeg) = 3
      · have hv := hv.1 d15_3
        refine lv_tableIn (off := 61) (tgt := 76) hx hb dX3_answerOf_15 (by rw [d15_3]; decide) (by rw [d15_3]; decide) (by rw [d15_3]; rfl) (by decide) ?_
        refine lv_iload hx hb dX3_answerOf_76 (lv_at hl 5 rfl) ?_
        refine lv_aload_n hx hb dX3_answerOf_78 rfl (lv_at hl 1 rfl) ?_
        refine va_get (D := gD g) (ci := 3) (v := .ref (ad 6)) (C := RX3) (T := TX3) (N := 33) hx hb hts hi3 hown hK hP 0 rfl rfl 5 (by decide) k1 (fun _ h9 => h9) rfl dX3_answerOf_79 ?_
        refine lv_iload_n hx hb dX3_answerOf_82 rfl (lv_at hl 2 rfl) ?_
        have h9 := hv.1
        have hv := hv.2
        refine va_iald (f := (sFigure (mS σ))) (n := 5) hx hb hK hP 6 0 rfl rfl h9 dX3_answerOf_83 ?_
        refine lv_iconst (v := 1) hx hb dX3_answerOf_84 (by decide) ?_
        refine lv_iadd hx hb dX3_answerOf_85 ?_
        have h0 := hv.1
        have hv := hv.2
        refine lv_irem hx hb dX3_answerOf_86 h0 ?_
        refine lv_if_ne (tgt := 94) hx hb dX3_answerOf_87 (by decide) (fun c87 => ?_) (fun c87 => ?_)
        · have hv := hv.1 c87
          refine lv_iload hx hb dX3_answerOf_94 (lv_at hl 0 rfl) ?_
          exact W.iret (v := (plainI (mS σ) p0 p1 p2)) hx hb hr (fun t ht hW => ⟨⟨(plainI (mS σ) p0 p1 p2), (), rfl, hv, trivial⟩, hS.F ht⟩) hS.2.2 dX3_answerOf_96
        · have hv := hv.2 c87
          refine lv_iconst (v := 2) hx hb dX3_answerOf_90 (by decide) ?_
          refine lv_goto (tgt := 96) hx hb dX3_answerOf_91 (by decide) ?_
          exact W.iret (v := 2) hx hb hr (fun t ht hW => ⟨⟨2, (), rfl, hv, trivial⟩, hS.F ht⟩) hS.2.2 dX3_answerOf_96
      · have hv := hv.2 d15_3
        by_cases d15_4 : ((sKind (mS σ)) (p0).toNatClampNeg) = 4
        · have hv := hv.1 d15_4
          refine lv_tableIn (off := 82) (tgt := 97) hx hb dX3_answerOf_15 (by rw [d15_4]; decide) (by rw [d15_4]; decide) (by rw [d15_4]; rfl) (by decide) ?_
          refine lv_aload_n hx hb dX3_answerOf_97 rfl (lv_at hl 1 rfl) ?_
          refine lv_iload_n hx hb dX3_answerOf_98 rfl (lv_at hl 2 rfl) ?_
          refine lv_iload_n hx hb dX3_answerOf_99 rfl (lv_at hl 3 rfl) ?_
          refine lv_iconst (v := 1) hx hb dX3_answerOf_100 (by decide) ?_
          refine lv_iadd hx hb dX3_answerOf_101 ?_
          refine lv_aload_n hx hb dX3_answerOf_102 rfl (lv_at hl 1 rfl) ?_
          refine va_get (D := gD g) (ci := 3) (v := .int (sNq (mS σ))) (C := RX3) (T := TX3) (N := 33) hx hb hts hi3 hown hK hP 0 rfl rfl 12 (by decide) k2 (fun _ h9 => h9) rfl dX3_answerOf_103 ?_
          have h0 := hv.1
          have hv := hv.2
          refine lv_irem hx hb dX3_answerOf_106 h0 ?_
          refine lv_iload_n hx hb dX3_answerOf_107 rfl (lv_at hl 4 rfl) ?_
          have h8 := hv.1
          have hv := hv.2
          have hPc := hP
          refine ro_int (va_runV (As := [.int p0, .int ((p1 + 1) - (p1 + 1) / (sNq (mS σ)) * (sNq (mS σ))), .int p2]) (rest := []) ⟨hx, hb, hml, hown, hts⟩ (h_X3_plain g ad σ p0 ((p1 + 1) - (p1 + 1) / (sNq (mS σ)) * (sNq (mS σ))) p2 h8) (cwV 3 hts gX3_answerOf_X3_plain rfl rfl rfl (by decide +kernel) ⟨Nat.le_of_ble_eq_true rfl, Nat.le_of_ble_eq_true rfl⟩) ⟨RO_blind, va_recv hK hP (ci := 3) (q0 := 0) rfl rfl, fun U hU hW => ⟨rfl, by rw [hU]; exact hPc, va_K.moved hW.alike hK, hE.call hW hU hS (fun _ h => h.elim)⟩⟩ rfl rfl hl.1 rfl (lv_room (Nat.le_of_ble_eq_true rfl)) dX3_answerOf_108 ⟨Nat.le_of_ble_eq_true rfl, Nat.le_of_ble_eq_true rfl⟩) hS hP (fun r H locs hw hP hS => ?_)
          subst r
          exact W.iret (v := (plainI (mS σ) p0 ((p1 + 1) - (p1 + 1) / (sNq (mS σ)) * (sNq (mS σ))) p2)) hx hb hr (fun t ht hW => ⟨⟨(plainI (mS σ) p0 ((p1 + 1) - (p1 + 1) / (sNq (mS σ)) * (sNq (mS σ))) p2), (), rfl, hv, trivial⟩, hS.F ht⟩) hS.2.2 dX3_answerOf_111
        · have hv := hv.2 d15_4
          by_cases d15_5 : ((sKind (mS σ)) (p0).toNatClampNeg) = 5
          · have hv := hv.1 d15_5
            refine lv_tableIn (off := 97) (tgt := 112) hx hb dX3_answerOf_15 (by rw [d15_5]; decide) (by rw [d15_5]; decide) (by rw [d15_5]; rfl) (by decide) ?_
            refine lv_iconst (v := 1) hx hb dX3_answerOf_112 (by decide) ?_
            exact W.iret (v := 1) hx hb hr (fun t ht hW => ⟨⟨1, (), rfl, hv, trivial⟩, hS.F ht⟩) hS.2.2 dX3_answerOf_113
          · have hv := hv.2 d15_5
            refine lv_tableOut (tgt := 114) hx hb dX3_answerOf_15 (by have n0 := lv_neT (a := 1) d15_1 (by decide); have n1 := lv_neT (a := 2) d15_2 (by decide); have n2 := lv_neT (a := 3) d15_3 (by decide); have n3 := lv_neT (a := 4) d15_4 (by decide); have n4 := lv_neT (a := 5) d15_5 (by decide); omega) (by decide) ?_
            refine lv_iload hx hb dX3_answerOf_114 (lv_at hl 0 rfl) ?_
            exact W.iret (v := (plainI (mS σ) p0 p1 p2)) hx hb hr (fun t ht hW => ⟨⟨(plainI (mS σ) p0 p1 p2), (), rfl, hv, trivial⟩, hS.F ht⟩) hS.2.2 dX3_answerOf_116

set_option maxHeartbeats 4000000 in
set_option maxRecDepth 100000 in
theorem m_X3_asksOne (l : Launch) (h_X3_answerOf : C_X3_answerOf l) (g : CX) (ad : Nat → Nat) (σ : KM) (p0 : Int32) (p1 : Int32) (Post : Int32 → KM → Prop) (hv : vc_X3_asksOne σ p0 p1 Post) : Met l yX3_asksOne wsX3_asksOne { frames := 4, cells := 0, slots := 0, locals := 93 } (va_Pc [.ref (ad 0), .int p0, .int p1] (RW g (AD ad 0 21) (wM g ad σ))) (va_Qi (fun (r : Int32) (u : KM) => Post r u) (fun u t => va_P (gD g) vwCl (wM g ad u) t.heap) (AD ad 0 21)) 0 0 (AD ad 0 21) := by
  unfold vc_X3_asksOne at hv
  refine Met.ofW (cc := cX3_asksOne) (maxL := 4) (ret := (some .int)) (by decide) rfl ?_
  intro p e s m args below meth c s₁ B hml hv0
  obtain ⟨rfl, hP, hK, hE, hD⟩ := hv0
  have hx := B.exec
  have hb := B.bytes
  have hr := B.returns
  have hts := atoms_spec (ws := wsX3_asksOne) B.pre
  have hown : s.vm.findClass RX3 = some m.cls := findClass_of_methodNamed B.named
  have hlocks := B.notSynchronized
  have hi3 : ∀ w ∈ wsX30, w ∈ wsX3_asksOne := by decide +kernel
  have k0 := hts (.fieldLink RX3 127 "JuryHearsAnswersModel" "asked" "I") (by decide +kernel)
  have k1 := hts (.fieldLink RX3 146 "JuryHearsAnswersModel" "heard" "I") (by decide +kernel)
  have k2 := hts (.fieldLink RX3 31 "JuryHearsAnswersModel" "whom" "[I") (by decide +kernel)
  have k3 := hts (.fieldLink RX3 34 "JuryHearsAnswersModel" "what" "[I") (by decide +kernel)
  have k4 := hts (.fieldLink RX3 37 "JuryHearsAnswersModel" "said" "[I") (by decide +kernel)
  have k5 := hts (.fieldLink RX3 134 "JuryHearsAnswersModel" "theCase" "I") (by decide +kernel)
  have k6 := hts (.fieldLink RX3 40 "JuryHearsAnswersModel" "when" "[I") (by decide +kernel)
  have hS : va_S (AD ad 0 21) s.heap s.heap [] := va_S.rf
  have hP : va_P (gD g) vwCl (wM g ad σ) s.heap := hP
  have hl := lv_entry ([.ref (ad 0), .int p0, .int p1]) (n := 4) (Nat.le_of_ble_eq_true rfl)
  rw [lg_entry_eq]
  generalize (lg_sl ([.ref (ad 0), .int p0, .int p1]) ++ List.replicate (4 - (lg_sl ([.ref (ad 0), .int p0, .int p1])).length) Slot.unset).toArray = ls at hl ⊢
  have hl : lv_has ls 4 [(0, .ref (ad 0)), (1, .int p0), (2, .int p1)] := hl
  have hv := hv (fun (x3 : Int32) (s_S_asked : Int32) (s_S_nh : Int32) (s_S_said : FI) (s_S_what : FI) (s_S_when : FI) (s_S_whom : FI) => ∀ (H : Heap) (locs : List Loc) (ls : Array Slot), va_P (gD g) vwCl (wM g ad (((sCase (mS σ)), s_S_asked, (sNq (mS σ)), (sNw (mS σ)), s_S_nh, (sForm (mS σ)), (sFirst (mS σ)), (sSecond (mS σ)), (sKind (mS σ)), (sFigure (mS σ)), (sKnows (mS σ)), s_S_whom, s_S_what, s_S_said, s_S_when), (mT σ), (mK σ), (mF σ), (mRow σ), (mRowMany σ), (mLots σ), (mRefused σ))) H → va_D (AD ad 0 21) (wM g ad (((sCase (mS σ)), s_S_asked, (sNq (mS σ)), (sNw (mS σ)), s_S_nh, (sForm (mS σ)), (sFirst (mS σ)), (sSecond (mS σ)), (sKind (mS σ)), (sFigure (mS σ)), (sKnows (mS σ)), s_S_whom, s_S_what, s_S_said, s_S_when), (mT σ), (mK σ), (mF σ), (mRow σ), (mRowMany σ), (mLots σ), (mRefused σ))) → va_S (AD ad 0 21) s.heap H locs → lv_has ls 4 [(0, .ref (ad 0)), (1, .int p0), (2, .int p1), (3, .int x3)] → W p l e { frames := 4, cells := 0, slots := 0, locals := 93 } s m ([.ref (ad 0), .int p0, .int p1] : List Value).toArray below meth c H locs 0 0 (MQ below (va_Qi (fun (r : Int32) (u : KM) => Post r u) (fun u t => va_P (gD g) vwCl (wM g ad u) t.heap) (AD ad 0 21)) ([.ref (ad 0), .int p0, .int p1] : List Value).toArray s 0 0 (AD ad 0 21)) (F0 m 31 ls []))
  have hv := hv (by
    intro x3 s_S_asked s_S_nh s_S_said s_S_what s_S_when s_S_whom hv H locs ls hP hD hS hl
    refine lv_iload_n hx hb dX3_asksOne_31 rfl (lv_at hl 3 rfl) ?_
    refine lv_aload_n hx hb dX3_asksOne_32 rfl (lv_at hl 0 rfl) ?_
    refine va_get (D := gD g) (ci := 3) (v := .int s_S_nh) (C := RX3) (T := TX3) (N := 33) hx hb hts hi3 hown hK hP 0 rfl rfl 14 (by decide) k1 (fun _ h9 => h9) rfl dX3_asksOne_33 ?_
    refine lv_icmp_ge (tgt := 101) hx hb dX3_asksOne_36 (by decide) (fun c36 => ?_) (fun c36 => ?_)
    · have hv := hv.1 c36
      refine lv_aload_n hx hb dX3_asksOne_101 rfl (lv_at hl 0 rfl) ?_
      refine va_get (D := gD g) (ci := 3) (v := .ref (ad 8)) (C := RX3) (T := TX3) (N := 33) hx hb hts hi3 hown hK hP 0 rfl rfl 7 (by decide) k2 (fun _ h9 => h9) rfl dX3_asksOne_102 ?_
      refine lv_aload_n hx hb dX3_asksOne_105 rfl (lv_at hl 0 rfl) ?_
      refine va_get (D := gD g) (ci := 3) (v := .int s_S_nh) (C := RX3) (T := TX3) (N := 33) hx hb hts hi3 hown hK hP 0 rfl rfl 14 (by decide) k1 (fun _ h9 => h9) rfl dX3_asksOne_106 ?_
      refine lv_iload_n hx hb dX3_asksOne_109 rfl (lv_at hl 1 rfl) ?_
      have h9 := hv.1
      have hv := hv.2
      refine va_iast (f := s_S_whom) (n := 12) hx hb hK hP hD hS 8 0 rfl rfl h9 dX3_asksOne_110 (fun H locs hP hD hS => ?_)
      have hP : va_P (gD g) vwCl (wM g ad (((sCase (mS σ)), s_S_asked, (sNq (mS σ)), (sNw (mS σ)), s_S_nh, (sForm (mS σ)), (sFirst (mS σ)), (sSecond (mS σ)), (sKind (mS σ)), (sFigure (mS σ)), (sKnows (mS σ)), (upd s_S_whom (s_S_nh).toNatClampNeg p0), s_S_what, s_S_said, s_S_when), (mT σ), (mK σ), (mF σ), (mRow σ), (mRowMany σ), (mLots σ), (mRefused σ))) H := hP
      have hD : va_D (AD ad 0 21) (wM g ad (((sCase (mS σ)), s_S_asked, (sNq (mS σ)), (sNw (mS σ)), s_S_nh, (sForm (mS σ)), (sFirst (mS σ)), (sSecond (mS σ)), (sKind (mS σ)), (sFigure (mS σ)), (sKnows (mS σ)), (upd s_S_whom (s_S_nh).toNatClampNeg p0), s_S_what, s_S_said, s_S_when), (mT σ), (mK σ), (mF σ), (mRow σ), (mRowMany σ), (mLots σ), (mRefused σ))) := hD
      refine lv_aload_n hx hb dX3_asksOne_111 rfl (lv_at hl 0 rfl) ?_
      refine va_get (D := gD g) (ci := 3) (v := .ref (ad 9)) (C := RX3) (T := TX3) (N := 33) hx hb hts hi3 hown hK hP 0 rfl rfl 8 (by decide) k3 (fun _ h9 => h9) rfl dX3_asksOne_112 ?_
      refine lv_aload_n hx hb dX3_asksOne_115 rfl (lv_at hl 0 rfl) ?_
      refine va_get (D := gD g) (ci := 3) (v := .int s_S_nh) (C := RX3) (T := TX3) (N := 33) hx hb hts hi3 hown hK hP 0 rfl rfl 14 (by decide) k1 (fun _ h9 => h9) rfl dX3_asksOne_116 ?_
      refine lv_iload_n hx hb dX3_asksOne_119 rfl (lv_at hl 2 rfl) ?_
      have h9 := hv.1
      have hv := hv.2
      refine va_iast (f := s_S_what) (n := 12) hx hb hK hP hD hS 9 0 rfl rfl h9 dX3_asksOne_120 (fun H locs hP hD hS => ?_)
      have hP : va_P (gD g) vwCl (wM g ad (((sCase (mS σ)), s_S_asked, (sNq (mS σ)), (sNw (mS σ)), s_S_nh, (sForm (mS σ)), (sFirst (mS σ)), (sSecond (mS σ)), (sKind (mS σ)), (sFigure (mS σ)), (sKnows (mS σ)), (upd s_S_whom (s_S_nh).toNatClampNeg p0), (upd s_S_what (s_S_nh).toNatClampNeg p1), s_S_said, s_S_when), (mT σ), (mK σ), (mF σ), (mRow σ), (mRowMany σ), (mLots σ), (mRefused σ))) H := hP
      have hD : va_D (AD ad 0 21) (wM g ad (((sCase (mS σ)), s_S_asked, (sNq (mS σ)), (sNw (mS σ)), s_S_nh, (sForm (mS σ)), (sFirst (mS σ)), (sSecond (mS σ)), (sKind (mS σ)), (sFigure (mS σ)), (sKnows (mS σ)), (upd s_S_whom (s_S_nh).toNatClampNeg p0), (upd s_S_what (s_S_nh).toNatClampNeg p1), s_S_said, s_S_when), (mT σ), (mK σ), (mF σ), (mRow σ), (mRowMany σ), (mLots σ), (mRefused σ))) := hD
      refine lv_aload_n hx hb dX3_asksOne_121 rfl (lv_at hl 0 rfl) ?_
      refine va_get (D := gD g) (ci := 3) (v := .ref (ad 10)) (C := RX3) (T := TX3) (N := 33) hx hb hts hi3 hown hK hP 0 rfl rfl 9 (by decide) k4 (fun _ h9 => h9) rfl dX3_asksOne_122 ?_
      refine lv_aload_n hx hb dX3_asksOne_125 rfl (lv_at hl 0 rfl) ?_
      refine va_get (D := gD g) (ci := 3) (v := .int s_S_nh) (C := RX3) (T := TX3) (N := 33) hx hb hts hi3 hown hK hP 0 rfl rfl 14 (by decide) k1 (fun _ h9 => h9) rfl dX3_asksOne_126 ?_
      refine lv_aload_n hx hb dX3_asksOne_129 rfl (lv_at hl 0 rfl) ?_
      refine lv_iload_n hx hb dX3_asksOne_130 rfl (lv_at hl 1 rfl) ?_
      refine lv_iload_n hx hb dX3_asksOne_131 rfl (lv_at hl 2 rfl) ?_
      refine lv_aload_n hx hb dX3_asksOne_132 rfl (lv_at hl 0 rfl) ?_
      refine va_get (D := gD g) (ci := 3) (v := .int (sCase (mS σ))) (C := RX3) (T := TX3) (N := 33) hx hb hts hi3 hown hK hP 0 rfl rfl 11 (by decide) k5 (fun _ h9 => h9) rfl dX3_asksOne_133 ?_
      refine lv_aload_n hx hb dX3_asksOne_136 rfl (lv_at hl 0 rfl) ?_
      refine va_get (D := gD g) (ci := 3) (v := .int s_S_asked) (C := RX3) (T := TX3) (N := 33) hx hb hts hi3 hown hK hP 0 rfl rfl 15 (by decide) k0 (fun _ h9 => h9) rfl dX3_asksOne_137 ?_
      have h8 := hv.1
      have hv := hv.2
      have hPc := hP
      refine ro_int (va_runV (As := [.int p0, .int p1, .int (sCase (mS σ)), .int s_S_asked]) (rest := [.int s_S_nh, .ref (ad 10)]) ⟨hx, hb, hml, hown, hts⟩ (h_X3_answerOf g ad (((sCase (mS σ)), s_S_asked, (sNq (mS σ)), (sNw (mS σ)), s_S_nh, (sForm (mS σ)), (sFirst (mS σ)), (sSecond (mS σ)), (sKind (mS σ)), (sFigure (mS σ)), (sKnows (mS σ)), (upd s_S_whom (s_S_nh).toNatClampNeg p0), (upd s_S_what (s_S_nh).toNatClampNeg p1), s_S_said, s_S_when), (mT σ), (mK σ), (mF σ), (mRow σ), (mRowMany σ), (mLots σ), (mRefused σ)) p0 p1 (sCase (mS σ)) s_S_asked h8) (cwV 4 hts gX3_asksOne_X3_answerOf rfl rfl rfl (by decide +kernel) ⟨Nat.le_of_ble_eq_true rfl, Nat.le_of_ble_eq_true rfl⟩) ⟨RO_blind, va_recv hK hP (ci := 3) (q0 := 0) rfl rfl, fun U hU hW => ⟨rfl, by rw [hU]; exact hPc, va_K.moved hW.alike hK, hE.call hW hU hS (fun _ h => h.elim)⟩⟩ rfl rfl hl.1 rfl (lv_room (Nat.le_of_ble_eq_true rfl)) dX3_asksOne_140 ⟨Nat.le_of_ble_eq_true rfl, Nat.le_of_ble_eq_true rfl⟩) hS hP (fun r H locs hw hP hS => ?_)
      subst r
      have h9 := hv.1
      have hv := hv.2
      refine va_iast (f := s_S_said) (n := 12) hx hb hK hP hD hS 10 0 rfl rfl h9 dX3_asksOne_143 (fun H locs hP hD hS => ?_)
      have hP : va_P (gD g) vwCl (wM g ad (((sCase (mS σ)), s_S_asked, (sNq (mS σ)), (sNw (mS σ)), s_S_nh, (sForm (mS σ)), (sFirst (mS σ)), (sSecond (mS σ)), (sKind (mS σ)), (sFigure (mS σ)), (sKnows (mS σ)), (upd s_S_whom (s_S_nh).toNatClampNeg p0), (upd s_S_what (s_S_nh).toNatClampNeg p1), (upd s_S_said (s_S_nh).toNatClampNeg (ansI ((sCase (mS σ)), s_S_asked, (sNq (mS σ)), (sNw (mS σ)), s_S_nh, (sForm (mS σ)), (sFirst (mS σ)), (sSecond (mS σ)), (sKind (mS σ)), (sFigure (mS σ)), (sKnows (mS σ)), (upd s_S_whom (s_S_nh).toNatClampNeg p0), (upd s_S_what (s_S_nh).toNatClampNeg p1), s_S_said, s_S_when) p0 p1 (sCase (mS σ)) s_S_asked)), s_S_when), (mT σ), (mK σ), (mF σ), (mRow σ), (mRowMany σ), (mLots σ), (mRefused σ))) H := hP
      have hD : va_D (AD ad 0 21) (wM g ad (((sCase (mS σ)), s_S_asked, (sNq (mS σ)), (sNw (mS σ)), s_S_nh, (sForm (mS σ)), (sFirst (mS σ)), (sSecond (mS σ)), (sKind (mS σ)), (sFigure (mS σ)), (sKnows (mS σ)), (upd s_S_whom (s_S_nh).toNatClampNeg p0), (upd s_S_what (s_S_nh).toNatClampNeg p1), (upd s_S_said (s_S_nh).toNatClampNeg (ansI ((sCase (mS σ)), s_S_asked, (sNq (mS σ)), (sNw (mS σ)), s_S_nh, (sForm (mS σ)), (sFirst (mS σ)), (sSecond (mS σ)), (sKind (mS σ)), (sFigure (mS σ)), (sKnows (mS σ)), (upd s_S_whom (s_S_nh).toNatClampNeg p0), (upd s_S_what (s_S_nh).toNatClampNeg p1), s_S_said, s_S_when) p0 p1 (sCase (mS σ)) s_S_asked)), s_S_when), (mT σ), (mK σ), (mF σ), (mRow σ), (mRowMany σ), (mLots σ), (mRefused σ))) := hD
      refine lv_aload_n hx hb dX3_asksOne_144 rfl (lv_at hl 0 rfl) ?_
      refine va_get (D := gD g) (ci := 3) (v := .ref (ad 11)) (C := RX3) (T := TX3) (N := 33) hx hb hts hi3 hown hK hP 0 rfl rfl 10 (by decide) k6 (fun _ h9 => h9) rfl dX3_asksOne_145 ?_
      refine lv_aload_n hx hb dX3_asksOne_148 rfl (lv_at hl 0 rfl) ?_
      refine va_get (D := gD g) (ci := 3) (v := .int s_S_nh) (C := RX3) (T := TX3) (N := 33) hx hb hts hi3 hown hK hP 0 rfl rfl 14 (by decide) k1 (fun _ h9 => h9) rfl dX3_asksOne_149 ?_
      refine lv_aload_n hx hb dX3_asksOne_152 rfl (lv_at hl 0 rfl) ?_
      refine va_get (D := gD g) (ci := 3) (v := .int s_S_asked) (C := RX3) (T := TX3) (N := 33) hx hb hts hi3 hown hK hP 0 rfl rfl 15 (by decide) k0 (fun _ h9 => h9) rfl dX3_asksOne_153 ?_
      have h9 := hv.1
      have hv := hv.2
      refine va_iast (f := s_S_when) (n := 12) hx hb hK hP hD hS 11 0 rfl rfl h9 dX3_asksOne_156 (fun H locs hP hD hS => ?_)
      have hP : va_P (gD g) vwCl (wM g ad (((sCase (mS σ)), s_S_asked, (sNq (mS σ)), (sNw (mS σ)), s_S_nh, (sForm (mS σ)), (sFirst (mS σ)), (sSecond (mS σ)), (sKind (mS σ)), (sFigure (mS σ)), (sKnows (mS σ)), (upd s_S_whom (s_S_nh).toNatClampNeg p0), (upd s_S_what (s_S_nh).toNatClampNeg p1), (upd s_S_said (s_S_nh).toNatClampNeg (ansI ((sCase (mS σ)), s_S_asked, (sNq (mS σ)), (sNw (mS σ)), s_S_nh, (sForm (mS σ)), (sFirst (mS σ)), (sSecond (mS σ)), (sKind (mS σ)), (sFigure (mS σ)), (sKnows (mS σ)), (upd s_S_whom (s_S_nh).toNatClampNeg p0), (upd s_S_what (s_S_nh).toNatClampNeg p1), s_S_said, s_S_when) p0 p1 (sCase (mS σ)) s_S_asked)), (upd s_S_when (s_S_nh).toNatClampNeg s_S_asked)), (mT σ), (mK σ), (mF σ), (mRow σ), (mRowMany σ), (mLots σ), (mRefused σ))) H := hP
      have hD : va_D (AD ad 0 21) (wM g ad (((sCase (mS σ)), s_S_asked, (sNq (mS σ)), (sNw (mS σ)), s_S_nh, (sForm (mS σ)), (sFirst (mS σ)), (sSecond (mS σ)), (sKind (mS σ)), (sFigure (mS σ)), (sKnows (mS σ)), (upd s_S_whom (s_S_nh).toNatClampNeg p0), (upd s_S_what (s_S_nh).toNatClampNeg p1), (upd s_S_said (s_S_nh).toNatClampNeg (ansI ((sCase (mS σ)), s_S_asked, (sNq (mS σ)), (sNw (mS σ)), s_S_nh, (sForm (mS σ)), (sFirst (mS σ)), (sSecond (mS σ)), (sKind (mS σ)), (sFigure (mS σ)), (sKnows (mS σ)), (upd s_S_whom (s_S_nh).toNatClampNeg p0), (upd s_S_what (s_S_nh).toNatClampNeg p1), s_S_said, s_S_when) p0 p1 (sCase (mS σ)) s_S_asked)), (upd s_S_when (s_S_nh).toNatClampNeg s_S_asked)), (mT σ), (mK σ), (mF σ), (mRow σ), (mRowMany σ), (mLots σ), (mRefused σ))) := hD
      refine lv_aload_n hx hb dX3_asksOne_157 rfl (lv_at hl 0 rfl) ?_
      refine lv_dup hx hb dX3_asksOne_158 rfl ?_
      refine va_get (D := gD g) (ci := 3) (v := .int s_S_nh) (C := RX3) (T := TX3) (N := 33) hx hb hts hi3 hown hK hP 0 rfl rfl 14 (by decide) k1 (fun _ h9 => h9) rfl dX3_asksOne_159 ?_
      refine lv_iconst (v := 1) hx hb dX3_asksOne_162 (by decide) ?_
      refine lv_iadd hx hb dX3_asksOne_163 ?_
      refine va_put (D := gD g) (ci := 3) (v := .int (s_S_nh + 1)) (ty := .int) (C := RX3) (T := TX3) (N := 33) hx hb hts hi3 tyX3 tyX3_ok nmX3 hown hK hP hD hS 0 rfl rfl 14 (by decide) k1 (fun _ h9 => h9) rfl (by decide +kernel) rfl rfl (Nat.le_of_ble_eq_true rfl) dX3_asksOne_164 (fun H locs hP hD hS => ?_)
      have hP : va_P (gD g) vwCl (wM g ad (((sCase (mS σ)), s_S_asked, (sNq (mS σ)), (sNw (mS σ)), (s_S_nh + 1), (sForm (mS σ)), (sFirst (mS σ)), (sSecond (mS σ)), (sKind (mS σ)), (sFigure (mS σ)), (sKnows (mS σ)), (upd s_S_whom (s_S_nh).toNatClampNeg p0), (upd s_S_what (s_S_nh).toNatClampNeg p1), (upd s_S_said (s_S_nh).toNatClampNeg (ansI ((sCase (mS σ)), s_S_asked, (sNq (mS σ)), (sNw (mS σ)), s_S_nh, (sForm (mS σ)), (sFirst (mS σ)), (sSecond (mS σ)), (sKind (mS σ)), (sFigure (mS σ)), (sKnows (mS σ)), (upd s_S_whom (s_S_nh).toNatClampNeg p0), (upd s_S_what (s_S_nh).toNatClampNeg p1), s_S_said, s_S_when) p0 p1 (sCase (mS σ)) s_S_asked)), (upd s_S_when (s_S_nh).toNatClampNeg s_S_asked)), (mT σ), (mK σ), (mF σ), (mRow σ), (mRowMany σ), (mLots σ), (mRefused σ))) H := hP
      have hD : va_D (AD ad 0 21) (wM g ad (((sCase (mS σ)), s_S_asked, (sNq (mS σ)), (sNw (mS σ)), (s_S_nh + 1), (sForm (mS σ)), (sFirst (mS σ)), (sSecond (mS σ)), (sKind (mS σ)), (sFigure (mS σ)), (sKnows (mS σ)), (upd s_S_whom (s_S_nh).toNatClampNeg p0), (upd s_S_what (s_S_nh).toNatClampNeg p1), (upd s_S_said (s_S_nh).toNatClampNeg (ansI ((sCase (mS σ)), s_S_asked, (sNq (mS σ)), (sNw (mS σ)), s_S_nh, (sForm (mS σ)), (sFirst (mS σ)), (sSecond (mS σ)), (sKind (mS σ)), (sFigure (mS σ)), (sKnows (mS σ)), (upd s_S_whom (s_S_nh).toNatClampNeg p0), (upd s_S_what (s_S_nh).toNatClampNeg p1), s_S_said, s_S_when) p0 p1 (sCase (mS σ)) s_S_asked)), (upd s_S_when (s_S_nh).toNatClampNeg s_S_asked)), (mT σ), (mK σ), (mF σ), (mRow σ), (mRowMany σ), (mLots σ), (mRefused σ))) := hD
      refine lv_aload_n hx hb dX3_asksOne_167 rfl (lv_at hl 0 rfl) ?_
      refine va_get (D := gD g) (ci := 3) (v := .ref (ad 10)) (C := RX3) (T := TX3) (N := 33) hx hb hts hi3 hown hK hP 0 rfl rfl 9 (by decide) k4 (fun _ h9 => h9) rfl dX3_asksOne_168 ?_
      refine lv_aload_n hx hb dX3_asksOne_171 rfl (lv_at hl 0 rfl) ?_
      refine va_get (D := gD g) (ci := 3) (v := .int (s_S_nh + 1)) (C := RX3) (T := TX3) (N := 33) hx hb hts hi3 hown hK hP 0 rfl rfl 14 (by decide) k1 (fun _ h9 => h9) rfl dX3_asksOne_172 ?_
      refine lv_iconst (v := 1) hx hb dX3_asksOne_175 (by decide) ?_
      refine lv_isub hx hb dX3_asksOne_176 ?_
      have h9 := hv.1
      have hv := hv.2
      refine va_iald (f := (upd s_S_said (s_S_nh).toNatClampNeg (ansI ((sCase (mS σ)), s_S_asked, (sNq (mS σ)), (sNw (mS σ)), s_S_nh, (sForm (mS σ)), (sFirst (mS σ)), (sSecond (mS σ)), (sKind (mS σ)), (sFigure (mS σ)), (sKnows (mS σ)), (upd s_S_whom (s_S_nh).toNatClampNeg p0), (upd s_S_what (s_S_nh).toNatClampNeg p1), s_S_said, s_S_when) p0 p1 (sCase (mS σ)) s_S_asked))) (n := 12) hx hb hK hP 10 0 rfl rfl h9 dX3_asksOne_177 ?_
      exact W.iret (v := ((upd s_S_said (s_S_nh).toNatClampNeg (ansI ((sCase (mS σ)), s_S_asked, (sNq (mS σ)), (sNw (mS σ)), s_S_nh, (sForm (mS σ)), (sFirst (mS σ)), (sSecond (mS σ)), (sKind (mS σ)), (sFigure (mS σ)), (sKnows (mS σ)), (upd s_S_whom (s_S_nh).toNatClampNeg p0), (upd s_S_what (s_S_nh).toNatClampNeg p1), s_S_said, s_S_when) p0 p1 (sCase (mS σ)) s_S_asked)) (((s_S_nh + 1) - 1)).toNatClampNeg)) hx hb hr (fun t ht hW => ⟨⟨((upd s_S_said (s_S_nh).toNatClampNeg (ansI ((sCase (mS σ)), s_S_asked, (sNq (mS σ)), (sNw (mS σ)), s_S_nh, (sForm (mS σ)), (sFirst (mS σ)), (sSecond (mS σ)), (sKind (mS σ)), (sFigure (mS σ)), (sKnows (mS σ)), (upd s_S_whom (s_S_nh).toNatClampNeg p0), (upd s_S_what (s_S_nh).toNatClampNeg p1), s_S_said, s_S_when) p0 p1 (sCase (mS σ)) s_S_asked)) (((s_S_nh + 1) - 1)).toNatClampNeg), (((sCase (mS σ)), s_S_asked, (sNq (mS σ)), (sNw (mS σ)), (s_S_nh + 1), (sForm (mS σ)), (sFirst (mS σ)), (sSecond (mS σ)), (sKind (mS σ)), (sFigure (mS σ)), (sKnows (mS σ)), (upd s_S_whom (s_S_nh).toNatClampNeg p0), (upd s_S_what (s_S_nh).toNatClampNeg p1), (upd s_S_said (s_S_nh).toNatClampNeg (ansI ((sCase (mS σ)), s_S_asked, (sNq (mS σ)), (sNw (mS σ)), s_S_nh, (sForm (mS σ)), (sFirst (mS σ)), (sSecond (mS σ)), (sKind (mS σ)), (sFigure (mS σ)), (sKnows (mS σ)), (upd s_S_whom (s_S_nh).toNatClampNeg p0), (upd s_S_what (s_S_nh).toNatClampNeg p1), s_S_said, s_S_when) p0 p1 (sCase (mS σ)) s_S_asked)), (upd s_S_when (s_S_nh).toNatClampNeg s_S_asked)), (mT σ), (mK σ), (mF σ), (mRow σ), (mRowMany σ), (mLots σ), (mRefused σ)), rfl, hv, P_at ht hP⟩, hS.F ht⟩) hS.2.2 dX3_asksOne_178
    · have hv := hv.2 c36
      refine lv_aload_n hx hb dX3_asksOne_39 rfl (lv_at hl 0 rfl) ?_
      refine va_get (D := gD g) (ci := 3) (v := .ref (ad 8)) (C := RX3) (T := TX3) (N := 33) hx hb hts hi3 hown hK hP 0 rfl rfl 7 (by decide) k2 (fun _ h9 => h9) rfl dX3_asksOne_40 ?_
      refine lv_iload_n hx hb dX3_asksOne_43 rfl (lv_at hl 3 rfl) ?_
      refine lv_aload_n hx hb dX3_asksOne_44 rfl (lv_at hl 0 rfl) ?_
      refine va_get (D := gD g) (ci := 3) (v := .ref (ad 8)) (C := RX3) (T := TX3) (N := 33) hx hb hts hi3 hown hK hP 0 rfl rfl 7 (by decide) k2 (fun _ h9 => h9) rfl dX3_asksOne_45 ?_
      refine lv_iload_n hx hb dX3_asksOne_48 rfl (lv_at hl 3 rfl) ?_
      refine lv_iconst (v := 1) hx hb dX3_asksOne_49 (by decide) ?_
      refine lv_iadd hx hb dX3_asksOne_50 ?_
      have h9 := hv.1
      have hv := hv.2
      refine va_iald (f := s_S_whom) (n := 12) hx hb hK hP 8 0 rfl rfl h9 dX3_asksOne_51 ?_
      have h9 := hv.1
      have hv := hv.2
      refine va_iast (f := s_S_whom) (n := 12) hx hb hK hP hD hS 8 0 rfl rfl h9 dX3_asksOne_52 (fun H locs hP hD hS => ?_)
      have hP : va_P (gD g) vwCl (wM g ad (((sCase (mS σ)), s_S_asked, (sNq (mS σ)), (sNw (mS σ)), s_S_nh, (sForm (mS σ)), (sFirst (mS σ)), (sSecond (mS σ)), (sKind (mS σ)), (sFigure (mS σ)), (sKnows (mS σ)), (upd s_S_whom (x3).toNatClampNeg (s_S_whom ((x3 + 1)).toNatClampNeg)), s_S_what, s_S_said, s_S_when), (mT σ), (mK σ), (mF σ), (mRow σ), (mRowMany σ), (mLots σ), (mRefused σ))) H := hP
      have hD : va_D (AD ad 0 21) (wM g ad (((sCase (mS σ)), s_S_asked, (sNq (mS σ)), (sNw (mS σ)), s_S_nh, (sForm (mS σ)), (sFirst (mS σ)), (sSecond (mS σ)), (sKind (mS σ)), (sFigure (mS σ)), (sKnows (mS σ)), (upd s_S_whom (x3).toNatClampNeg (s_S_whom ((x3 + 1)).toNatClampNeg)), s_S_what, s_S_said, s_S_when), (mT σ), (mK σ), (mF σ), (mRow σ), (mRowMany σ), (mLots σ), (mRefused σ))) := hD
      refine lv_aload_n hx hb dX3_asksOne_53 rfl (lv_at hl 0 rfl) ?_
      refine va_get (D := gD g) (ci := 3) (v := .ref (ad 9)) (C := RX3) (T := TX3) (N := 33) hx hb hts hi3 hown hK hP 0 rfl rfl 8 (by decide) k3 (fun _ h9 => h9) rfl dX3_asksOne_54 ?_
      refine lv_iload_n hx hb dX3_asksOne_57 rfl (lv_at hl 3 rfl) ?_
      refine lv_aload_n hx hb dX3_asksOne_58 rfl (lv_at hl 0 rfl) ?_
      refine va_get (D := gD g) (ci := 3) (v := .ref (ad 9)) (C := RX3) (T := TX3) (N := 33) hx hb hts hi3 hown hK hP 0 rfl rfl 8 (by decide) k3 (fun _ h9 => h9) rfl dX3_asksOne_59 ?_
      refine lv_iload_n hx hb dX3_asksOne_62 rfl (lv_at hl 3 rfl) ?_
      refine lv_iconst (v := 1) hx hb dX3_asksOne_63 (by decide) ?_
      refine lv_iadd hx hb dX3_asksOne_64 ?_
      have h9 := hv.1
      have hv := hv.2
      refine va_iald (f := s_S_what) (n := 12) hx hb hK hP 9 0 rfl rfl h9 dX3_asksOne_65 ?_
      have h9 := hv.1
      have hv := hv.2
      refine va_iast (f := s_S_what) (n := 12) hx hb hK hP hD hS 9 0 rfl rfl h9 dX3_asksOne_66 (fun H locs hP hD hS => ?_)
      have hP : va_P (gD g) vwCl (wM g ad (((sCase (mS σ)), s_S_asked, (sNq (mS σ)), (sNw (mS σ)), s_S_nh, (sForm (mS σ)), (sFirst (mS σ)), (sSecond (mS σ)), (sKind (mS σ)), (sFigure (mS σ)), (sKnows (mS σ)), (upd s_S_whom (x3).toNatClampNeg (s_S_whom ((x3 + 1)).toNatClampNeg)), (upd s_S_what (x3).toNatClampNeg (s_S_what ((x3 + 1)).toNatClampNeg)), s_S_said, s_S_when), (mT σ), (mK σ), (mF σ), (mRow σ), (mRowMany σ), (mLots σ), (mRefused σ))) H := hP
      have hD : va_D (AD ad 0 21) (wM g ad (((sCase (mS σ)), s_S_asked, (sNq (mS σ)), (sNw (mS σ)), s_S_nh, (sForm (mS σ)), (sFirst (mS σ)), (sSecond (mS σ)), (sKind (mS σ)), (sFigure (mS σ)), (sKnows (mS σ)), (upd s_S_whom (x3).toNatClampNeg (s_S_whom ((x3 + 1)).toNatClampNeg)), (upd s_S_what (x3).toNatClampNeg (s_S_what ((x3 + 1)).toNatClampNeg)), s_S_said, s_S_when), (mT σ), (mK σ), (mF σ), (mRow σ), (mRowMany σ), (mLots σ), (mRefused σ))) := hD
      refine lv_aload_n hx hb dX3_asksOne_67 rfl (lv_at hl 0 rfl) ?_
      refine va_get (D := gD g) (ci := 3) (v := .ref (ad 10)) (C := RX3) (T := TX3) (N := 33) hx hb hts hi3 hown hK hP 0 rfl rfl 9 (by decide) k4 (fun _ h9 => h9) rfl dX3_asksOne_68 ?_
      refine lv_iload_n hx hb dX3_asksOne_71 rfl (lv_at hl 3 rfl) ?_
      refine lv_aload_n hx hb dX3_asksOne_72 rfl (lv_at hl 0 rfl) ?_
      refine va_get (D := gD g) (ci := 3) (v := .ref (ad 10)) (C := RX3) (T := TX3) (N := 33) hx hb hts hi3 hown hK hP 0 rfl rfl 9 (by decide) k4 (fun _ h9 => h9) rfl dX3_asksOne_73 ?_
      refine lv_iload_n hx hb dX3_asksOne_76 rfl (lv_at hl 3 rfl) ?_
      refine lv_iconst (v := 1) hx hb dX3_asksOne_77 (by decide) ?_
      refine lv_iadd hx hb dX3_asksOne_78 ?_
      have h9 := hv.1
      have hv := hv.2
      refine va_iald (f := s_S_said) (n := 12) hx hb hK hP 10 0 rfl rfl h9 dX3_asksOne_79 ?_
      have h9 := hv.1
      have hv := hv.2
      refine va_iast (f := s_S_said) (n := 12) hx hb hK hP hD hS 10 0 rfl rfl h9 dX3_asksOne_80 (fun H locs hP hD hS => ?_)
      have hP : va_P (gD g) vwCl (wM g ad (((sCase (mS σ)), s_S_asked, (sNq (mS σ)), (sNw (mS σ)), s_S_nh, (sForm (mS σ)), (sFirst (mS σ)), (sSecond (mS σ)), (sKind (mS σ)), (sFigure (mS σ)), (sKnows (mS σ)), (upd s_S_whom (x3).toNatClampNeg (s_S_whom ((x3 + 1)).toNatClampNeg)), (upd s_S_what (x3).toNatClampNeg (s_S_what ((x3 + 1)).toNatClampNeg)), (upd s_S_said (x3).toNatClampNeg (s_S_said ((x3 + 1)).toNatClampNeg)), s_S_when), (mT σ), (mK σ), (mF σ), (mRow σ), (mRowMany σ), (mLots σ), (mRefused σ))) H := hP
      have hD : va_D (AD ad 0 21) (wM g ad (((sCase (mS σ)), s_S_asked, (sNq (mS σ)), (sNw (mS σ)), s_S_nh, (sForm (mS σ)), (sFirst (mS σ)), (sSecond (mS σ)), (sKind (mS σ)), (sFigure (mS σ)), (sKnows (mS σ)), (upd s_S_whom (x3).toNatClampNeg (s_S_whom ((x3 + 1)).toNatClampNeg)), (upd s_S_what (x3).toNatClampNeg (s_S_what ((x3 + 1)).toNatClampNeg)), (upd s_S_said (x3).toNatClampNeg (s_S_said ((x3 + 1)).toNatClampNeg)), s_S_when), (mT σ), (mK σ), (mF σ), (mRow σ), (mRowMany σ), (mLots σ), (mRefused σ))) := hD
      refine lv_aload_n hx hb dX3_asksOne_81 rfl (lv_at hl 0 rfl) ?_
      refine va_get (D := gD g) (ci := 3) (v := .ref (ad 11)) (C := RX3) (T := TX3) (N := 33) hx hb hts hi3 hown hK hP 0 rfl rfl 10 (by decide) k6 (fun _ h9 => h9) rfl dX3_asksOne_82 ?_
      refine lv_iload_n hx hb dX3_asksOne_85 rfl (lv_at hl 3 rfl) ?_
      refine lv_aload_n hx hb dX3_asksOne_86 rfl (lv_at hl 0 rfl) ?_
      refine va_get (D := gD g) (ci := 3) (v := .ref (ad 11)) (C := RX3) (T := TX3) (N := 33) hx hb hts hi3 hown hK hP 0 rfl rfl 10 (by decide) k6 (fun _ h9 => h9) rfl dX3_asksOne_87 ?_
      refine lv_iload_n hx hb dX3_asksOne_90 rfl (lv_at hl 3 rfl) ?_
      refine lv_iconst (v := 1) hx hb dX3_asksOne_91 (by decide) ?_
      refine lv_iadd hx hb dX3_asksOne_92 ?_
      have h9 := hv.1
      have hv := hv.2
      refine va_iald (f := s_S_when) (n := 12) hx hb hK hP 11 0 rfl rfl h9 dX3_asksOne_93 ?_
      have h9 := hv.1
      have hv := hv.2
      refine va_iast (f := s_S_when) (n := 12) hx hb hK hP hD hS 11 0 rfl rfl h9 dX3_asksOne_94 (fun H locs hP hD hS => ?_)
      have hP : va_P (gD g) vwCl (wM g ad (((sCase (mS σ)), s_S_asked, (sNq (mS σ)), (sNw (mS σ)), s_S_nh, (sForm (mS σ)), (sFirst (mS σ)), (sSecond (mS σ)), (sKind (mS σ)), (sFigure (mS σ)), (sKnows (mS σ)), (upd s_S_whom (x3).toNatClampNeg (s_S_whom ((x3 + 1)).toNatClampNeg)), (upd s_S_what (x3).toNatClampNeg (s_S_what ((x3 + 1)).toNatClampNeg)), (upd s_S_said (x3).toNatClampNeg (s_S_said ((x3 + 1)).toNatClampNeg)), (upd s_S_when (x3).toNatClampNeg (s_S_when ((x3 + 1)).toNatClampNeg))), (mT σ), (mK σ), (mF σ), (mRow σ), (mRowMany σ), (mLots σ), (mRefused σ))) H := hP
      have hD : va_D (AD ad 0 21) (wM g ad (((sCase (mS σ)), s_S_asked, (sNq (mS σ)), (sNw (mS σ)), s_S_nh, (sForm (mS σ)), (sFirst (mS σ)), (sSecond (mS σ)), (sKind (mS σ)), (sFigure (mS σ)), (sKnows (mS σ)), (upd s_S_whom (x3).toNatClampNeg (s_S_whom ((x3 + 1)).toNatClampNeg)), (upd s_S_what (x3).toNatClampNeg (s_S_what ((x3 + 1)).toNatClampNeg)), (upd s_S_said (x3).toNatClampNeg (s_S_said ((x3 + 1)).toNatClampNeg)), (upd s_S_when (x3).toNatClampNeg (s_S_when ((x3 + 1)).toNatClampNeg))), (mT σ), (mK σ), (mF σ), (mRow σ), (mRowMany σ), (mLots σ), (mRefused σ))) := hD
      refine lv_iinc (v := (x3 + 1)) (lv' := [(3, .int (x3 + 1)), (0, .ref (ad 0)), (1, .int p0), (2, .int p1)]) hx hb dX3_asksOne_95 hl (k := 3) rfl (by first | rfl | exact congrArg _ (by decide)) (by decide) rfl (fun ls hl => ?_)
      refine lv_goto (tgt := 31) hx hb dX3_asksOne_98 (by decide) ?_
      exact hv H locs ls hP hD hS (lv_sub hl [1, 2, 3, 0] rfl))
  obtain ⟨H, hH⟩ : ∃ z, z = s.heap := ⟨_, rfl⟩
  obtain ⟨locs, hL⟩ : ∃ z : List Loc, z = [] := ⟨_, rfl⟩
  rw [← hL] at hS ⊢
  have hS : va_S (AD ad 0 21) s.heap H locs := by rw [hH]; exact hS
  rw [← hH] at hP ⊢
  clear hH hL
  refine lv_aload_n hx hb dX3_asksOne_0 rfl (lv_at hl 0 rfl) ?_
  refine lv_dup hx hb dX3_asksOne_1 rfl ?_
  refine va_get (D := gD g) (ci := 3) (v := .int (sAsked (mS σ))) (C := RX3) (T := TX3) (N := 33) hx hb hts hi3 hown hK hP 0 rfl rfl 15 (by decide) k0 (fun _ h9 => h9) rfl dX3_asksOne_2 ?_
  refine lv_iconst (v := 1) hx hb dX3_asksOne_5 (by decide) ?_
  refine lv_iadd hx hb dX3_asksOne_6 ?_
  refine va_put (D := gD g) (ci := 3) (v := .int ((sAsked (mS σ)) + 1)) (ty := .int) (C := RX3) (T := TX3) (N := 33) hx hb hts hi3 tyX3 tyX3_ok nmX3 hown hK hP hD hS 0 rfl rfl 15 (by decide) k0 (fun _ h9 => h9) rfl (by decide +kernel) rfl rfl (Nat.le_of_ble_eq_true rfl) dX3_asksOne_7 (fun H locs hP hD hS => ?_)
  have hP : va_P (gD g) vwCl (wM g ad (((sCase (mS σ)), ((sAsked (mS σ)) + 1), (sNq (mS σ)), (sNw (mS σ)), (sNh (mS σ)), (sForm (mS σ)), (sFirst (mS σ)), (sSecond (mS σ)), (sKind (mS σ)), (sFigure (mS σ)), (sKnows (mS σ)), (sWhom (mS σ)), (sWhat (mS σ)), (sSaid (mS σ)), (sWhen (mS σ))), (mT σ), (mK σ), (mF σ), (mRow σ), (mRowMany σ), (mLots σ), (mRefused σ))) H := hP
  have hD : va_D (AD ad 0 21) (wM g ad (((sCase (mS σ)), ((sAsked (mS σ)) + 1), (sNq (mS σ)), (sNw (mS σ)), (sNh (mS σ)), (sForm (mS σ)), (sFirst (mS σ)), (sSecond (mS σ)), (sKind (mS σ)), (sFigure (mS σ)), (sKnows (mS σ)), (sWhom (mS σ)), (sWhat (mS σ)), (sSaid (mS σ)), (sWhen (mS σ))), (mT σ), (mK σ), (mF σ), (mRow σ), (mRowMany σ), (mLots σ), (mRefused σ))) := hD
  refine lv_aload_n hx hb dX3_asksOne_10 rfl (lv_at hl 0 rfl) ?_
  refine va_get (D := gD g) (ci := 3) (v := .int (sNh (mS σ))) (C := RX3) (T := TX3) (N := 33) hx hb hts hi3 hown hK hP 0 rfl rfl 14 (by decide) k1 (fun _ h9 => h9) rfl dX3_asksOne_11 ?_
  refine lv_bipush (v := 12) hx hb dX3_asksOne_14 (by decide) ?_
  refine lv_icmp_ne (tgt := 101) hx hb dX3_asksOne_16 (by decide) (fun c16 => ?_) (fun c16 => ?_)
  · have hv := hv.1 c16
    refine lv_aload_n hx hb dX3_asksOne_101 rfl (lv_at hl 0 rfl) ?_
    refine va_get (D := gD g) (ci := 3) (v := .ref (ad 8)) (C := RX3) (T := TX3) (N := 33) hx hb hts hi3 hown hK hP 0 rfl rfl 7 (by decide) k2 (fun _ h9 => h9) rfl dX3_asksOne_102 ?_
    refine lv_aload_n hx hb dX3_asksOne_105 rfl (lv_at hl 0 rfl) ?_
    refine va_get (D := gD g) (ci := 3) (v := .int (sNh (mS σ))) (C := RX3) (T := TX3) (N := 33) hx hb hts hi3 hown hK hP 0 rfl rfl 14 (by decide) k1 (fun _ h9 => h9) rfl dX3_asksOne_106 ?_
    refine lv_iload_n hx hb dX3_asksOne_109 rfl (lv_at hl 1 rfl) ?_
    have h9 := hv.1
    have hv := hv.2
    refine va_iast (f := (sWhom (mS σ))) (n := 12) hx hb hK hP hD hS 8 0 rfl rfl h9 dX3_asksOne_110 (fun H locs hP hD hS => ?_)
    have hP : va_P (gD g) vwCl (wM g ad (((sCase (mS σ)), ((sAsked (mS σ)) + 1), (sNq (mS σ)), (sNw (mS σ)), (sNh (mS σ)), (sForm (mS σ)), (sFirst (mS σ)), (sSecond (mS σ)), (sKind (mS σ)), (sFigure (mS σ)), (sKnows (mS σ)), (upd (sWhom (mS σ)) ((sNh (mS σ))).toNatClampNeg p0), (sWhat (mS σ)), (sSaid (mS σ)), (sWhen (mS σ))), (mT σ), (mK σ), (mF σ), (mRow σ), (mRowMany σ), (mLots σ), (mRefused σ))) H := hP
    have hD : va_D (AD ad 0 21) (wM g ad (((sCase (mS σ)), ((sAsked (mS σ)) + 1), (sNq (mS σ)), (sNw (mS σ)), (sNh (mS σ)), (sForm (mS σ)), (sFirst (mS σ)), (sSecond (mS σ)), (sKind (mS σ)), (sFigure (mS σ)), (sKnows (mS σ)), (upd (sWhom (mS σ)) ((sNh (mS σ))).toNatClampNeg p0), (sWhat (mS σ)), (sSaid (mS σ)), (sWhen (mS σ))), (mT σ), (mK σ), (mF σ), (mRow σ), (mRowMany σ), (mLots σ), (mRefused σ))) := hD
    refine lv_aload_n hx hb dX3_asksOne_111 rfl (lv_at hl 0 rfl) ?_
    refine va_get (D := gD g) (ci := 3) (v := .ref (ad 9)) (C := RX3) (T := TX3) (N := 33) hx hb hts hi3 hown hK hP 0 rfl rfl 8 (by decide) k3 (fun _ h9 => h9) rfl dX3_asksOne_112 ?_
    refine lv_aload_n hx hb dX3_asksOne_115 rfl (lv_at hl 0 rfl) ?_
    refine va_get (D := gD g) (ci := 3) (v := .int (sNh (mS σ))) (C := RX3) (T := TX3) (N := 33) hx hb hts hi3 hown hK hP 0 rfl rfl 14 (by decide) k1 (fun _ h9 => h9) rfl dX3_asksOne_116 ?_
    refine lv_iload_n hx hb dX3_asksOne_119 rfl (lv_at hl 2 rfl) ?_
    have h9 := hv.1
    have hv := hv.2
    refine va_iast (f := (sWhat (mS σ))) (n := 12) hx hb hK hP hD hS 9 0 rfl rfl h9 dX3_asksOne_120 (fun H locs hP hD hS => ?_)
    have hP : va_P (gD g) vwCl (wM g ad (((sCase (mS σ)), ((sAsked (mS σ)) + 1), (sNq (mS σ)), (sNw (mS σ)), (sNh (mS σ)), (sForm (mS σ)), (sFirst (mS σ)), (sSecond (mS σ)), (sKind (mS σ)), (sFigure (mS σ)), (sKnows (mS σ)), (upd (sWhom (mS σ)) ((sNh (mS σ))).toNatClampNeg p0), (upd (sWhat (mS σ)) ((sNh (mS σ))).toNatClampNeg p1), (sSaid (mS σ)), (sWhen (mS σ))), (mT σ), (mK σ), (mF σ), (mRow σ), (mRowMany σ), (mLots σ), (mRefused σ))) H := hP
    have hD : va_D (AD ad 0 21) (wM g ad (((sCase (mS σ)), ((sAsked (mS σ)) + 1), (sNq (mS σ)), (sNw (mS σ)), (sNh (mS σ)), (sForm (mS σ)), (sFirst (mS σ)), (sSecond (mS σ)), (sKind (mS σ)), (sFigure (mS σ)), (sKnows (mS σ)), (upd (sWhom (mS σ)) ((sNh (mS σ))).toNatClampNeg p0), (upd (sWhat (mS σ)) ((sNh (mS σ))).toNatClampNeg p1), (sSaid (mS σ)), (sWhen (mS σ))), (mT σ), (mK σ), (mF σ), (mRow σ), (mRowMany σ), (mLots σ), (mRefused σ))) := hD
    refine lv_aload_n hx hb dX3_asksOne_121 rfl (lv_at hl 0 rfl) ?_
    refine va_get (D := gD g) (ci := 3) (v := .ref (ad 10)) (C := RX3) (T := TX3) (N := 33) hx hb hts hi3 hown hK hP 0 rfl rfl 9 (by decide) k4 (fun _ h9 => h9) rfl dX3_asksOne_122 ?_
    refine lv_aload_n hx hb dX3_asksOne_125 rfl (lv_at hl 0 rfl) ?_
    refine va_get (D := gD g) (ci := 3) (v := .int (sNh (mS σ))) (C := RX3) (T := TX3) (N := 33) hx hb hts hi3 hown hK hP 0 rfl rfl 14 (by decide) k1 (fun _ h9 => h9) rfl dX3_asksOne_126 ?_
    refine lv_aload_n hx hb dX3_asksOne_129 rfl (lv_at hl 0 rfl) ?_
    refine lv_iload_n hx hb dX3_asksOne_130 rfl (lv_at hl 1 rfl) ?_
    refine lv_iload_n hx hb dX3_asksOne_131 rfl (lv_at hl 2 rfl) ?_
    refine lv_aload_n hx hb dX3_asksOne_132 rfl (lv_at hl 0 rfl) ?_
    refine va_get (D := gD g) (ci := 3) (v := .int (sCase (mS σ))) (C := RX3) (T := TX3) (N := 33) hx hb hts hi3 hown hK hP 0 rfl rfl 11 (by decide) k5 (fun _ h9 => h9) rfl dX3_asksOne_133 ?_
    refine lv_aload_n hx hb dX3_asksOne_136 rfl (lv_at hl 0 rfl) ?_
    refine va_get (D := gD g) (ci := 3) (v := .int ((sAsked (mS σ)) + 1)) (C := RX3) (T := TX3) (N := 33) hx hb hts hi3 hown hK hP 0 rfl rfl 15 (by decide) k0 (fun _ h9 => h9) rfl dX3_asksOne_137 ?_
    have h8 := hv.1
    have hv := hv.2
    have hPc := hP
    refine ro_int (va_runV (As := [.int p0, .int p1, .int (sCase (mS σ)), .int ((sAsked (mS σ)) + 1)]) (rest := [.int (sNh (mS σ)), .ref (ad 10)]) ⟨hx, hb, hml, hown, hts⟩ (h_X3_answerOf g ad (((sCase (mS σ)), ((sAsked (mS σ)) + 1), (sNq (mS σ)), (sNw (mS σ)), (sNh (mS σ)), (sForm (mS σ)), (sFirst (mS σ)), (sSecond (mS σ)), (sKind (mS σ)), (sFigure (mS σ)), (sKnows (mS σ)), (upd (sWhom (mS σ)) ((sNh (mS σ))).toNatClampNeg p0), (upd (sWhat (mS σ)) ((sNh (mS σ))).toNatClampNeg p1), (sSaid (mS σ)), (sWhen (mS σ))), (mT σ), (mK σ), (mF σ), (mRow σ), (mRowMany σ), (mLots σ), (mRefused σ)) p0 p1 (sCase (mS σ)) ((sAsked (mS σ)) + 1) h8) (cwV 4 hts gX3_asksOne_X3_answerOf rfl rfl rfl (by decide +kernel) ⟨Nat.le_of_ble_eq_true rfl, Nat.le_of_ble_eq_true rfl⟩) ⟨RO_blind, va_recv hK hP (ci := 3) (q0 := 0) rfl rfl, fun U hU hW => ⟨rfl, by rw [hU]; exact hPc, va_K.moved hW.alike hK, hE.call hW hU hS (fun _ h => h.elim)⟩⟩ rfl rfl hl.1 rfl (lv_room (Nat.le_of_ble_eq_true rfl)) dX3_asksOne_140 ⟨Nat.le_of_ble_eq_true rfl, Nat.le_of_ble_eq_true rfl⟩) hS hP (fun r H locs hw hP hS => ?_)
    subst r
    have h9 := hv.1
    have hv := hv.2
    refine va_iast (f := (sSaid (mS σ))) (n := 12) hx hb hK hP hD hS 10 0 rfl rfl h9 dX3_asksOne_143 (fun H locs hP hD hS => ?_)
    have hP : va_P (gD g) vwCl (wM g ad (((sCase (mS σ)), ((sAsked (mS σ)) + 1), (sNq (mS σ)), (sNw (mS σ)), (sNh (mS σ)), (sForm (mS σ)), (sFirst (mS σ)), (sSecond (mS σ)), (sKind (mS σ)), (sFigure (mS σ)), (sKnows (mS σ)), (upd (sWhom (mS σ)) ((sNh (mS σ))).toNatClampNeg p0), (upd (sWhat (mS σ)) ((sNh (mS σ))).toNatClampNeg p1), (upd (sSaid (mS σ)) ((sNh (mS σ))).toNatClampNeg (ansI ((sCase (mS σ)), ((sAsked (mS σ)) + 1), (sNq (mS σ)), (sNw (mS σ)), (sNh (mS σ)), (sForm (mS σ)), (sFirst (mS σ)), (sSecond (mS σ)), (sKind (mS σ)), (sFigure (mS σ)), (sKnows (mS σ)), (upd (sWhom (mS σ)) ((sNh (mS σ))).toNatClampNeg p0), (upd (sWhat (mS σ)) ((sNh (mS σ))).toNatClampNeg p1), (sSaid (mS σ)), (sWhen (mS σ))) p0 p1 (sCase (mS σ)) ((sAsked (mS σ)) + 1))), (sWhen (mS σ))), (mT σ), (mK σ), (mF σ), (mRow σ), (mRowMany σ), (mLots σ), (mRefused σ))) H := hP
    have hD : va_D (AD ad 0 21) (wM g ad (((sCase (mS σ)), ((sAsked (mS σ)) + 1), (sNq (mS σ)), (sNw (mS σ)), (sNh (mS σ)), (sForm (mS σ)), (sFirst (mS σ)), (sSecond (mS σ)), (sKind (mS σ)), (sFigure (mS σ)), (sKnows (mS σ)), (upd (sWhom (mS σ)) ((sNh (mS σ))).toNatClampNeg p0), (upd (sWhat (mS σ)) ((sNh (mS σ))).toNatClampNeg p1), (upd (sSaid (mS σ)) ((sNh (mS σ))).toNatClampNeg (ansI ((sCase (mS σ)), ((sAsked (mS σ)) + 1), (sNq (mS σ)), (sNw (mS σ)), (sNh (mS σ)), (sForm (mS σ)), (sFirst (mS σ)), (sSecond (mS σ)), (sKind (mS σ)), (sFigure (mS σ)), (sKnows (mS σ)), (upd (sWhom (mS σ)) ((sNh (mS σ))).toNatClampNeg p0), (upd (sWhat (mS σ)) ((sNh (mS σ))).toNatClampNeg p1), (sSaid (mS σ)), (sWhen (mS σ))) p0 p1 (sCase (mS σ)) ((sAsked (mS σ)) + 1))), (sWhen (mS σ))), (mT σ), (mK σ), (mF σ), (mRow σ), (mRowMany σ), (mLots σ), (mRefused σ))) := hD
    refine lv_aload_n hx hb dX3_asksOne_144 rfl (lv_at hl 0 rfl) ?_
    refine va_get (D := gD g) (ci := 3) (v := .ref (ad 11)) (C := RX3) (T := TX3) (N := 33) hx hb hts hi3 hown hK hP 0 rfl rfl 10 (by decide) k6 (fun _ h9 => h9) rfl dX3_asksOne_145 ?_
    refine lv_aload_n hx hb dX3_asksOne_148 rfl (lv_at hl 0 rfl) ?_
    refine va_get (D := gD g) (ci := 3) (v := .int (sNh (mS σ))) (C := RX3) (T := TX3) (N := 33) hx hb hts hi3 hown hK hP 0 rfl rfl 14 (by decide) k1 (fun _ h9 => h9) rfl dX3_asksOne_149 ?_
    refine lv_aload_n hx hb dX3_asksOne_152 rfl (lv_at hl 0 rfl) ?_
    refine va_get (D := gD g) (ci := 3) (v := .int ((sAsked (mS σ)) + 1)) (C := RX3) (T := TX3) (N := 33) hx hb hts hi3 hown hK hP 0 rfl rfl 15 (by decide) k0 (fun _ h9 => h9) rfl dX3_asksOne_153 ?_
    have h9 := hv.1
    have hv := hv.2
    refine va_iast (f := (sWhen (mS σ))) (n := 12) hx hb hK hP hD hS 11 0 rfl rfl h9 dX3_asksOne_156 (fun H locs hP hD hS => ?_)
    have hP : va_P (gD g) vwCl (wM g ad (((sCase (mS σ)), ((sAsked (mS σ)) + 1), (sNq (mS σ)), (sNw (mS σ)), (sNh (mS σ)), (sForm (mS σ)), (sFirst (mS σ)), (sSecond (mS σ)), (sKind (mS σ)), (sFigure (mS σ)), (sKnows (mS σ)), (upd (sWhom (mS σ)) ((sNh (mS σ))).toNatClampNeg p0), (upd (sWhat (mS σ)) ((sNh (mS σ))).toNatClampNeg p1), (upd (sSaid (mS σ)) ((sNh (mS σ))).toNatClampNeg (ansI ((sCase (mS σ)), ((sAsked (mS σ)) + 1), (sNq (mS σ)), (sNw (mS σ)), (sNh (mS σ)), (sForm (mS σ)), (sFirst (mS σ)), (sSecond (mS σ)), (sKind (mS σ)), (sFigure (mS σ)), (sKnows (mS σ)), (upd (sWhom (mS σ)) ((sNh (mS σ))).toNatClampNeg p0), (upd (sWhat (mS σ)) ((sNh (mS σ))).toNatClampNeg p1), (sSaid (mS σ)), (sWhen (mS σ))) p0 p1 (sCase (mS σ)) ((sAsked (mS σ)) + 1))), (upd (sWhen (mS σ)) ((sNh (mS σ))).toNatClampNeg ((sAsked (mS σ)) + 1))), (mT σ), (mK σ), (mF σ), (mRow σ), (mRowMany σ), (mLots σ), (mRefused σ))) H := hP
    have hD : va_D (AD ad 0 21) (wM g ad (((sCase (mS σ)), ((sAsked (mS σ)) + 1), (sNq (mS σ)), (sNw (mS σ)), (sNh (mS σ)), (sForm (mS σ)), (sFirst (mS σ)), (sSecond (mS σ)), (sKind (mS σ)), (sFigure (mS σ)), (sKnows (mS σ)), (upd (sWhom (mS σ)) ((sNh (mS σ))).toNatClampNeg p0), (upd (sWhat (mS σ)) ((sNh (mS σ))).toNatClampNeg p1), (upd (sSaid (mS σ)) ((sNh (mS σ))).toNatClampNeg (ansI ((sCase (mS σ)), ((sAsked (mS σ)) + 1), (sNq (mS σ)), (sNw (mS σ)), (sNh (mS σ)), (sForm (mS σ)), (sFirst (mS σ)), (sSecond (mS σ)), (sKind (mS σ)), (sFigure (mS σ)), (sKnows (mS σ)), (upd (sWhom (mS σ)) ((sNh (mS σ))).toNatClampNeg p0), (upd (sWhat (mS σ)) ((sNh (mS σ))).toNatClampNeg p1), (sSaid (mS σ)), (sWhen (mS σ))) p0 p1 (sCase (mS σ)) ((sAsked (mS σ)) + 1))), (upd (sWhen (mS σ)) ((sNh (mS σ))).toNatClampNeg ((sAsked (mS σ)) + 1))), (mT σ), (mK σ), (mF σ), (mRow σ), (mRowMany σ), (mLots σ), (mRefused σ))) := hD
    refine lv_aload_n hx hb dX3_asksOne_157 rfl (lv_at hl 0 rfl) ?_
    refine lv_dup hx hb dX3_asksOne_158 rfl ?_
    refine va_get (D := gD g) (ci := 3) (v := .int (sNh (mS σ))) (C := RX3) (T := TX3) (N := 33) hx hb hts hi3 hown hK hP 0 rfl rfl 14 (by decide) k1 (fun _ h9 => h9) rfl dX3_asksOne_159 ?_
    refine lv_iconst (v := 1) hx hb dX3_asksOne_162 (by decide) ?_
    refine lv_iadd hx hb dX3_asksOne_163 ?_
    refine va_put (D := gD g) (ci := 3) (v := .int ((sNh (mS σ)) + 1)) (ty := .int) (C := RX3) (T := TX3) (N := 33) hx hb hts hi3 tyX3 tyX3_ok nmX3 hown hK hP hD hS 0 rfl rfl 14 (by decide) k1 (fun _ h9 => h9) rfl (by decide +kernel) rfl rfl (Nat.le_of_ble_eq_true rfl) dX3_asksOne_164 (fun H locs hP hD hS => ?_)
    have hP : va_P (gD g) vwCl (wM g ad (((sCase (mS σ)), ((sAsked (mS σ)) + 1), (sNq (mS σ)), (sNw (mS σ)), ((sNh (mS σ)) + 1), (sForm (mS σ)), (sFirst (mS σ)), (sSecond (mS σ)), (sKind (mS σ)), (sFigure (mS σ)), (sKnows (mS σ)), (upd (sWhom (mS σ)) ((sNh (mS σ))).toNatClampNeg p0), (upd (sWhat (mS σ)) ((sNh (mS σ))).toNatClampNeg p1), (upd (sSaid (mS σ)) ((sNh (mS σ))).toNatClampNeg (ansI ((sCase (mS σ)), ((sAsked (mS σ)) + 1), (sNq (mS σ)), (sNw (mS σ)), (sNh (mS σ)), (sForm (mS σ)), (sFirst (mS σ)), (sSecond (mS σ)), (sKind (mS σ)), (sFigure (mS σ)), (sKnows (mS σ)), (upd (sWhom (mS σ)) ((sNh (mS σ))).toNatClampNeg p0), (upd (sWhat (mS σ)) ((sNh (mS σ))).toNatClampNeg p1), (sSaid (mS σ)), (sWhen (mS σ))) p0 p1 (sCase (mS σ)) ((sAsked (mS σ)) + 1))), (upd (sWhen (mS σ)) ((sNh (mS σ))).toNatClampNeg ((sAsked (mS σ)) + 1))), (mT σ), (mK σ), (mF σ), (mRow σ), (mRowMany σ), (mLots σ), (mRefused σ))) H := hP
    have hD : va_D (AD ad 0 21) (wM g ad (((sCase (mS σ)), ((sAsked (mS σ)) + 1), (sNq (mS σ)), (sNw (mS σ)), ((sNh (mS σ)) + 1), (sForm (mS σ)), (sFirst (mS σ)), (sSecond (mS σ)), (sKind (mS σ)), (sFigure (mS σ)), (sKnows (mS σ)), (upd (sWhom (mS σ)) ((sNh (mS σ))).toNatClampNeg p0), (upd (sWhat (mS σ)) ((sNh (mS σ))).toNatClampNeg p1), (upd (sSaid (mS σ)) ((sNh (mS σ))).toNatClampNeg (ansI ((sCase (mS σ)), ((sAsked (mS σ)) + 1), (sNq (mS σ)), (sNw (mS σ)), (sNh (mS σ)), (sForm (mS σ)), (sFirst (mS σ)), (sSecond (mS σ)), (sKind (mS σ)), (sFigure (mS σ)), (sKnows (mS σ)), (upd (sWhom (mS σ)) ((sNh (mS σ))).toNatClampNeg p0), (upd (sWhat (mS σ)) ((sNh (mS σ))).toNatClampNeg p1), (sSaid (mS σ)), (sWhen (mS σ))) p0 p1 (sCase (mS σ)) ((sAsked (mS σ)) + 1))), (upd (sWhen (mS σ)) ((sNh (mS σ))).toNatClampNeg ((sAsked (mS σ)) + 1))), (mT σ), (mK σ), (mF σ), (mRow σ), (mRowMany σ), (mLots σ), (mRefused σ))) := hD
    refine lv_aload_n hx hb dX3_asksOne_167 rfl (lv_at hl 0 rfl) ?_
    refine va_get (D := gD g) (ci := 3) (v := .ref (ad 10)) (C := RX3) (T := TX3) (N := 33) hx hb hts hi3 hown hK hP 0 rfl rfl 9 (by decide) k4 (fun _ h9 => h9) rfl dX3_asksOne_168 ?_
    refine lv_aload_n hx hb dX3_asksOne_171 rfl (lv_at hl 0 rfl) ?_
    refine va_get (D := gD g) (ci := 3) (v := .int ((sNh (mS σ)) + 1)) (C := RX3) (T := TX3) (N := 33) hx hb hts hi3 hown hK hP 0 rfl rfl 14 (by decide) k1 (fun _ h9 => h9) rfl dX3_asksOne_172 ?_
    refine lv_iconst (v := 1) hx hb dX3_asksOne_175 (by decide) ?_
    refine lv_isub hx hb dX3_asksOne_176 ?_
    have h9 := hv.1
    have hv := hv.2
    refine va_iald (f := (upd (sSaid (mS σ)) ((sNh (mS σ))).toNatClampNeg (ansI ((sCase (mS σ)), ((sAsked (mS σ)) + 1), (sNq (mS σ)), (sNw (mS σ)), (sNh (mS σ)), (sForm (mS σ)), (sFirst (mS σ)), (sSecond (mS σ)), (sKind (mS σ)), (sFigure (mS σ)), (sKnows (mS σ)), (upd (sWhom (mS σ)) ((sNh (mS σ))).toNatClampNeg p0), (upd (sWhat (mS σ)) ((sNh (mS σ))).toNatClampNeg p1), (sSaid (mS σ)), (sWhen (mS σ))) p0 p1 (sCase (mS σ)) ((sAsked (mS σ)) + 1)))) (n := 12) hx hb hK hP 10 0 rfl rfl h9 dX3_asksOne_177 ?_
    exact W.iret (v := ((upd (sSaid (mS σ)) ((sNh (mS σ))).toNatClampNeg (ansI ((sCase (mS σ)), ((sAsked (mS σ)) + 1), (sNq (mS σ)), (sNw (mS σ)), (sNh (mS σ)), (sForm (mS σ)), (sFirst (mS σ)), (sSecond (mS σ)), (sKind (mS σ)), (sFigure (mS σ)), (sKnows (mS σ)), (upd (sWhom (mS σ)) ((sNh (mS σ))).toNatClampNeg p0), (upd (sWhat (mS σ)) ((sNh (mS σ))).toNatClampNeg p1), (sSaid (mS σ)), (sWhen (mS σ))) p0 p1 (sCase (mS σ)) ((sAsked (mS σ)) + 1))) ((((sNh (mS σ)) + 1) - 1)).toNatClampNeg)) hx hb hr (fun t ht hW => ⟨⟨((upd (sSaid (mS σ)) ((sNh (mS σ))).toNatClampNeg (ansI ((sCase (mS σ)), ((sAsked (mS σ)) + 1), (sNq (mS σ)), (sNw (mS σ)), (sNh (mS σ)), (sForm (mS σ)), (sFirst (mS σ)), (sSecond (mS σ)), (sKind (mS σ)), (sFigure (mS σ)), (sKnows (mS σ)), (upd (sWhom (mS σ)) ((sNh (mS σ))).toNatClampNeg p0), (upd (sWhat (mS σ)) ((sNh (mS σ))).toNatClampNeg p1), (sSaid (mS σ)), (sWhen (mS σ))) p0 p1 (sCase (mS σ)) ((sAsked (mS σ)) + 1))) ((((sNh (mS σ)) + 1) - 1)).toNatClampNeg), (((sCase (mS σ)), ((sAsked (mS σ)) + 1), (sNq (mS σ)), (sNw (mS σ)), ((sNh (mS σ)) + 1), (sForm (mS σ)), (sFirst (mS σ)), (sSecond (mS σ)), (sKind (mS σ)), (sFigure (mS σ)), (sKnows (mS σ)), (upd (sWhom (mS σ)) ((sNh (mS σ))).toNatClampNeg p0), (upd (sWhat (mS σ)) ((sNh (mS σ))).toNatClampNeg p1), (upd (sSaid (mS σ)) ((sNh (mS σ))).toNatClampNeg (ansI ((sCase (mS σ)), ((sAsked (mS σ)) + 1), (sNq (mS σ)), (sNw (mS σ)), (sNh (mS σ)), (sForm (mS σ)), (sFirst (mS σ)), (sSecond (mS σ)), (sKind (mS σ)), (sFigure (mS σ)), (sKnows (mS σ)), (upd (sWhom (mS σ)) ((sNh (mS σ))).toNatClampNeg p0), (upd (sWhat (mS σ)) ((sNh (mS σ))).toNatClampNeg p1), (sSaid (mS σ)), (sWhen (mS σ))) p0 p1 (sCase (mS σ)) ((sAsked (mS σ)) + 1))), (upd (sWhen (mS σ)) ((sNh (mS σ))).toNatClampNeg ((sAsked (mS σ)) + 1))), (mT σ), (mK σ), (mF σ), (mRow σ), (mRowMany σ), (mLots σ), (mRefused σ)), rfl, hv, P_at ht hP⟩, hS.F ht⟩) hS.2.2 dX3_asksOne_178
  · have hv := hv.2 c16
    refine lv_aload_n hx hb dX3_asksOne_19 rfl (lv_at hl 0 rfl) ?_
    refine lv_dup hx hb dX3_asksOne_20 rfl ?_
    refine va_get (D := gD g) (ci := 3) (v := .int (sNh (mS σ))) (C := RX3) (T := TX3) (N := 33) hx hb hts hi3 hown hK hP 0 rfl rfl 14 (by decide) k1 (fun _ h9 => h9) rfl dX3_asksOne_21 ?_
    refine lv_iconst (v := 1) hx hb dX3_asksOne_24 (by decide) ?_
    refine lv_isub hx hb dX3_asksOne_25 ?_
    refine va_put (D := gD g) (ci := 3) (v := .int ((sNh (mS σ)) - 1)) (ty := .int) (C := RX3) (T := TX3) (N := 33) hx hb hts hi3 tyX3 tyX3_ok nmX3 hown hK hP hD hS 0 rfl rfl 14 (by decide) k1 (fun _ h9 => h9) rfl (by decide +kernel) rfl rfl (Nat.le_of_ble_eq_true rfl) dX3_asksOne_26 (fun H locs hP hD hS => ?_)
    have hP : va_P (gD g) vwCl (wM g ad (((sCase (mS σ)), ((sAsked (mS σ)) + 1), (sNq (mS σ)), (sNw (mS σ)), ((sNh (mS σ)) - 1), (sForm (mS σ)), (sFirst (mS σ)), (sSecond (mS σ)), (sKind (mS σ)), (sFigure (mS σ)), (sKnows (mS σ)), (sWhom (mS σ)), (sWhat (mS σ)), (sSaid (mS σ)), (sWhen (mS σ))), (mT σ), (mK σ), (mF σ), (mRow σ), (mRowMany σ), (mLots σ), (mRefused σ))) H := hP
    have hD : va_D (AD ad 0 21) (wM g ad (((sCase (mS σ)), ((sAsked (mS σ)) + 1), (sNq (mS σ)), (sNw (mS σ)), ((sNh (mS σ)) - 1), (sForm (mS σ)), (sFirst (mS σ)), (sSecond (mS σ)), (sKind (mS σ)), (sFigure (mS σ)), (sKnows (mS σ)), (sWhom (mS σ)), (sWhat (mS σ)), (sSaid (mS σ)), (sWhen (mS σ))), (mT σ), (mK σ), (mF σ), (mRow σ), (mRowMany σ), (mLots σ), (mRefused σ))) := hD
    refine lv_iconst (v := 0) hx hb dX3_asksOne_29 (by decide) ?_
    refine lv_istore_n (lv' := [(3, .int 0), (0, .ref (ad 0)), (1, .int p0), (2, .int p1)]) hx hb dX3_asksOne_30 rfl hl (by decide) rfl (fun ls hl => ?_)
    exact hv H locs ls hP hD hS (lv_sub hl [1, 2, 3, 0] rfl)

set_option maxHeartbeats 4000000 in
set_option maxRecDepth 100000 in
theorem m_X3_fact (l : Launch) (h_X3_isFact : C_X3_isFact l) (h_X3_no : C_X3_no l) (g : CX) (ad : Nat → Nat) (σ : KM) (p0 : Int32) (Post : Int32 → KM → Prop) (hv : vc_X3_fact σ p0 Post) : Met l yX3_fact wsX3_fact { frames := 1, cells := 0, slots := 0, locals := 21 } (va_Pc [.ref (ad 0), .int p0] (RW g (AD ad 0 21) (wM g ad σ))) (va_Qi (fun (r : Int32) (u : KM) => Post r u) (fun u t => va_P (gD g) vwCl (wM g ad u) t.heap) (AD ad 0 21)) 0 0 (AD ad 0 21) := by
  unfold vc_X3_fact at hv
  refine Met.ofW (cc := cX3_fact) (maxL := 2) (ret := (some .int)) (by decide) rfl ?_
  intro p e s m args below meth c s₁ B hml hv0
  obtain ⟨rfl, hP, hK, hE, hD⟩ := hv0
  have hx := B.exec
  have hb := B.bytes
  have hr := B.returns
  have hts := atoms_spec (ws := wsX3_fact) B.pre
  have hown : s.vm.findClass RX3 = some m.cls := findClass_of_methodNamed B.named
  have hlocks := B.notSynchronized
  have hi3 : ∀ w ∈ wsX30, w ∈ wsX3_fact := by decide +kernel
  have k0 := hts (.fieldLink RX3 134 "JuryHearsAnswersModel" "theCase" "I") (by decide +kernel)
  have hS : va_S (AD ad 0 21) s.heap s.heap [] := va_S.rf
  have hP : va_P (gD g) vwCl (wM g ad σ) s.heap := hP
  have hl := lv_entry ([.ref (ad 0), .int p0]) (n := 2) (Nat.le_of_ble_eq_true rfl)
  rw [lg_entry_eq]
  generalize (lg_sl ([.ref (ad 0), .int p0]) ++ List.replicate (2 - (lg_sl ([.ref (ad 0), .int p0])).length) Slot.unset).toArray = ls at hl ⊢
  have hl : lv_has ls 2 [(0, .ref (ad 0)), (1, .int p0)] := hl
  obtain ⟨H, hH⟩ : ∃ z, z = s.heap := ⟨_, rfl⟩
  obtain ⟨locs, hL⟩ : ∃ z : List Loc, z = [] := ⟨_, rfl⟩
  rw [← hL] at hS ⊢
  have hS : va_S (AD ad 0 21) s.heap H locs := by rw [hH]; exact hS
  rw [← hH] at hP ⊢
  clear hH hL
  refine lv_iload_n hx hb dX3_fact_0 rfl (lv_at hl 1 rfl) ?_
  have hPc : va_P (gD g) vwCl [] H := fun k q h => by simp at h
  refine ro_int (va_runS (As := [.int p0]) (rest := []) ⟨hx, hb, hml, hown, hts⟩ (h_X3_isFact g p0) (va_cwS 1 hts gX3_fact_X3_isFact rfl rfl rfl (by decide +kernel) ⟨Nat.le_of_ble_eq_true rfl, Nat.le_of_ble_eq_true rfl⟩) ⟨RO_blind, fun U hU hW => ⟨rfl, by rw [hU]; exact hPc, va_K.moved hW.alike hK, hE.call hW hU hS (fun _ h => h.elim)⟩⟩ rfl rfl hl.1 rfl (lv_room (Nat.le_of_ble_eq_true rfl)) dX3_fact_1 ⟨Nat.le_of_ble_eq_true rfl, Nat.le_of_ble_eq_true rfl⟩) hS hP (fun r H locs hw hP hS => ?_)
  subst r
  refine lv_if_eq (tgt := 18) hx hb dX3_fact_4 (by decide) (fun c4 => ?_) (fun c4 => ?_)
  · have hv := hv.1 c4
    refine lv_aload_n hx hb dX3_fact_18 rfl (lv_at hl 0 rfl) ?_
    refine lv_iconst (v := (-1)) hx hb dX3_fact_19 (by decide) ?_
    have h8 := hv.1
    have hv := hv.2
    have hPc := hP
    have hDc := hD
    refine rw_int (va_runV (As := [.int (-1)]) (rest := []) ⟨hx, hb, hml, hown, hts⟩ (h_X3_no g ad σ (-1) h8) (cwV 1 hts gX3_fact_X3_no rfl rfl rfl (by decide +kernel) ⟨Nat.le_of_ble_eq_true rfl, Nat.le_of_ble_eq_true rfl⟩) ⟨RW_blind, va_recv hK hP (ci := 3) (q0 := 0) rfl rfl, fun U hU hW => ⟨rfl, by rw [hU]; exact hPc, va_K.moved hW.alike hK, hE.call hW hU hS (fun _ h => h), hDc⟩⟩ rfl rfl hl.1 rfl (lv_room (Nat.le_of_ble_eq_true rfl)) dX3_fact_20 ⟨Nat.le_of_ble_eq_true rfl, Nat.le_of_ble_eq_true rfl⟩) hS (fun _ h => h) (fun r u H1 locs hw hP1 hk hS => ?_)
    obtain ⟨hw1, hw⟩ := hw; subst r; subst u
    have hP := hP1
    generalize H1 = H at hP hS ⊢
    have hP : va_P (gD g) vwCl (wM g ad ((mS σ), (mT σ), (mK σ), (mF σ), (mRow σ), (mRowMany σ), (mLots σ), (refuX (mRefused σ) ((-1) : Int32)))) H := hP
    have hD : va_D (AD ad 0 21) (wM g ad ((mS σ), (mT σ), (mK σ), (mF σ), (mRow σ), (mRowMany σ), (mLots σ), (refuX (mRefused σ) ((-1) : Int32)))) := hD.addr (by rfl)
    exact W.iret (v := (((-1) : Int32))) hx hb hr (fun t ht hW => ⟨⟨(((-1) : Int32)), ((mS σ), (mT σ), (mK σ), (mF σ), (mRow σ), (mRowMany σ), (mLots σ), (refuX (mRefused σ) ((-1) : Int32))), rfl, hv, P_at ht hP⟩, hS.F ht⟩) hS.2.2 dX3_fact_23
  · have hv := hv.2 c4
    refine lv_aload_n hx hb dX3_fact_7 rfl (lv_at hl 0 rfl) ?_
    refine va_get (D := gD g) (ci := 3) (v := .int (sCase (mS σ))) (C := RX3) (T := TX3) (N := 33) hx hb hts hi3 hown hK hP 0 rfl rfl 11 (by decide) k0 (fun _ h9 => h9) rfl dX3_fact_8 ?_
    refine lv_iload_n hx hb dX3_fact_11 rfl (lv_at hl 1 rfl) ?_
    refine lv_ishr hx hb dX3_fact_12 ?_
    refine lv_iconst (v := 1) hx hb dX3_fact_13 (by decide) ?_
    refine lv_iand hx hb dX3_fact_14 ?_
    refine lv_goto (tgt := 23) hx hb dX3_fact_15 (by decide) ?_
    exact W.iret (v := (((sCase (mS σ)) >>> (p0 &&& 31)) &&& 1)) hx hb hr (fun t ht hW => ⟨⟨(((sCase (mS σ)) >>> (p0 &&& 31)) &&& 1), σ, rfl, hv, P_at ht hP⟩, hS.F ht⟩) hS.2.2 dX3_fact_23

set_option maxHeartbeats 4000000 in
set_option maxRecDepth 100000 in
theorem m_X3_question (l : Launch) (h_X3_isQuestion : C_X3_isQuestion l) (h_X3_isSo : C_X3_isSo l) (h_X3_no : C_X3_no l) (g : CX) (ad : Nat → Nat) (σ : KM) (p0 : Int32) (p1 : Int32) (Post : Int32 → KM → Prop) (hv : vc_X3_question σ p0 p1 Post) : Met l yX3_question wsX3_question { frames := 2, cells := 0, slots := 0, locals := 45 } (va_Pc [.ref (ad 0), .int p0, .int p1] (RW g (AD ad 0 21) (wM g ad σ))) (va_Qi (fun (r : Int32) (u : KM) => Post r u) (fun u t => va_P (gD g) vwCl (wM g ad u) t.heap) (AD ad 0 21)) 0 0 (AD ad 0 21) := by
  unfold vc_X3_question at hv
  refine Met.ofW (cc := cX3_question) (maxL := 3) (ret := (some .int)) (by decide) rfl ?_
  intro p e s m args below meth c s₁ B hml hv0
  obtain ⟨rfl, hP, hK, hE, hD⟩ := hv0
  have hx := B.exec
  have hb := B.bytes
  have hr := B.returns
  have hts := atoms_spec (ws := wsX3_question) B.pre
  have hown : s.vm.findClass RX3 = some m.cls := findClass_of_methodNamed B.named
  have hlocks := B.notSynchronized
  have hi3 : ∀ w ∈ wsX30, w ∈ wsX3_question := by decide +kernel
  have k0 := hts (.fieldLink RX3 13 "JuryHearsAnswersModel" "form" "[I") (by decide +kernel)
  have k1 := hts (.fieldLink RX3 16 "JuryHearsAnswersModel" "first" "[I") (by decide +kernel)
  have k2 := hts (.fieldLink RX3 19 "JuryHearsAnswersModel" "second" "[I") (by decide +kernel)
  have k3 := hts (.fieldLink RX3 134 "JuryHearsAnswersModel" "theCase" "I") (by decide +kernel)
  have hS : va_S (AD ad 0 21) s.heap s.heap [] := va_S.rf
  have hP : va_P (gD g) vwCl (wM g ad σ) s.heap := hP
  have hl := lv_entry ([.ref (ad 0), .int p0, .int p1]) (n := 3) (Nat.le_of_ble_eq_true rfl)
  rw [lg_entry_eq]
  generalize (lg_sl ([.ref (ad 0), .int p0, .int p1]) ++ List.replicate (3 - (lg_sl ([.ref (ad 0), .int p0, .int p1])).length) Slot.unset).toArray = ls at hl ⊢
  have hl : lv_has ls 3 [(0, .ref (ad 0)), (1, .int p0), (2, .int p1)] := hl
  obtain ⟨H, hH⟩ : ∃ z, z = s.heap := ⟨_, rfl⟩
  obtain ⟨locs, hL⟩ : ∃ z : List Loc, z = [] := ⟨_, rfl⟩
  rw [← hL] at hS ⊢
  have hS : va_S (AD ad 0 21) s.heap H locs := by rw [hH]; exact hS
  rw [← hH] at hP ⊢
  clear hH hL
  refine lv_aload_n hx hb dX3_question_0 rfl (lv_at hl 0 rfl) ?_
  refine lv_iload_n hx hb dX3_question_1 rfl (lv_at hl 1 rfl) ?_
  have hPc := hP
  refine ro_int (va_runV (As := [.int p0]) (rest := []) ⟨hx, hb, hml, hown, hts⟩ (h_X3_isQuestion g ad σ p0) (cwV 1 hts gX3_question_X3_isQuestion rfl rfl rfl (by decide +kernel) ⟨Nat.le_of_ble_eq_true rfl, Nat.le_of_ble_eq_true rfl⟩) ⟨RO_blind, va_recv hK hP (ci := 3) (q0 := 0) rfl rfl, fun U hU hW => ⟨rfl, by rw [hU]; exact hPc, va_K.moved hW.alike hK, hE.call hW hU hS (fun _ h => h.elim)⟩⟩ rfl rfl hl.1 rfl (lv_room (Nat.le_of_ble_eq_true rfl)) dX3_question_2 ⟨Nat.le_of_ble_eq_true rfl, Nat.le_of_ble_eq_true rfl⟩) hS hP (fun r H locs hw hP hS => ?_)
  subst r
  refine lv_if_ne (tgt := 14) hx hb dX3_question_5 (by decide) (fun c5 => ?_) (fun c5 => ?_)
  · have hv := hv.1 c5
    refine lv_iload_n hx hb dX3_question_14 rfl (lv_at hl 2 rfl) ?_
    by_cases d15_0 : p1 = 0
    · have hv := hv.1 d15_0
      refine lv_tableIn (off := 29) (tgt := 44) hx hb dX3_question_15 (by rw [d15_0]; decide) (by rw [d15_0]; decide) (by rw [d15_0]; rfl) (by decide) ?_
      refine lv_aload_n hx hb dX3_question_44 rfl (lv_at hl 0 rfl) ?_
      refine va_get (D := gD g) (ci := 3) (v := .ref (ad 2)) (C := RX3) (T := TX3) (N := 33) hx hb hts hi3 hown hK hP 0 rfl rfl 1 (by decide) k0 (fun _ h9 => h9) rfl dX3_question_45 ?_
      refine lv_iload_n hx hb dX3_question_48 rfl (lv_at hl 1 rfl) ?_
      have h9 := hv.1
      have hv := hv.2
      refine va_iald (f := (sForm (mS σ))) (n := 8) hx hb hK hP 2 0 rfl rfl h9 dX3_question_49 ?_
      exact W.iret (v := ((sForm (mS σ)) (p0).toNatClampNeg)) hx hb hr (fun t ht hW => ⟨⟨((sForm (mS σ)) (p0).toNatClampNeg), σ, rfl, hv, P_at ht hP⟩, hS.F ht⟩) hS.2.2 dX3_question_50
    · have hv := hv.2 d15_0
      by_cases d15_1 : p1 = 1
      · have hv := hv.1 d15_1
        refine lv_tableIn (off := 36) (tgt := 51) hx hb dX3_question_15 (by rw [d15_1]; decide) (by rw [d15_1]; decide) (by rw [d15_1]; rfl) (by decide) ?_
        refine lv_aload_n hx hb dX3_question_51 rfl (lv_at hl 0 rfl) ?_
        refine va_get (D := gD g) (ci := 3) (v := .ref (ad 3)) (C := RX3) (T := TX3) (N := 33) hx hb hts hi3 hown hK hP 0 rfl rfl 2 (by decide) k1 (fun _ h9 => h9) rfl dX3_question_52 ?_
        refine lv_iload_n hx hb dX3_question_55 rfl (lv_at hl 1 rfl) ?_
        have h9 := hv.1
        have hv := hv.2
        refine va_iald (f := (sFirst (mS σ))) (n := 8) hx hb hK hP 3 0 rfl rfl h9 dX3_question_56 ?_
        exact W.iret (v := ((sFirst (mS σ)) (p0).toNatClampNeg)) hx hb hr (fun t ht hW => ⟨⟨((sFirst (mS σ)) (p0).toNatClampNeg), σ, rfl, hv, P_at ht hP⟩, hS.F ht⟩) hS.2.2 dX3_question_57
      · have hv := hv.2 d15_1
        by_cases d15_2 : p1 = 2
        · have hv := hv.1 d15_2
          refine lv_tableIn (off := 43) (tgt := 58) hx hb dX3_question_15 (by rw [d15_2]; decide) (by rw [d15_2]; decide) (by rw [d15_2]; rfl) (by decide) ?_
          refine lv_aload_n hx hb dX3_question_58 rfl (lv_at hl 0 rfl) ?_
          refine va_get (D := gD g) (ci := 3) (v := .ref (ad 4)) (C := RX3) (T := TX3) (N := 33) hx hb hts hi3 hown hK hP 0 rfl rfl 3 (by decide) k2 (fun _ h9 => h9) rfl dX3_question_59 ?_
          refine lv_iload_n hx hb dX3_question_62 rfl (lv_at hl 1 rfl) ?_
          have h9 := hv.1
          have hv := hv.2
          refine va_iald (f := (sSecond (mS σ))) (n := 8) hx hb hK hP 4 0 rfl rfl h9 dX3_question_63 ?_
          exact W.iret (v := ((sSecond (mS σ)) (p0).toNatClampNeg)) hx hb hr (fun t ht hW => ⟨⟨((sSecond (mS σ)) (p0).toNatClampNeg), σ, rfl, hv, P_at ht hP⟩, hS.F ht⟩) hS.2.2 dX3_question_64
        · have hv := hv.2 d15_2
          by_cases d15_3 : p1 = 3
          · have hv := hv.1 d15_3
            refine lv_tableIn (off := 50) (tgt := 65) hx hb dX3_question_15 (by rw [d15_3]; decide) (by rw [d15_3]; decide) (by rw [d15_3]; rfl) (by decide) ?_
            refine lv_aload_n hx hb dX3_question_65 rfl (lv_at hl 0 rfl) ?_
            refine lv_iload_n hx hb dX3_question_66 rfl (lv_at hl 1 rfl) ?_
            refine lv_aload_n hx hb dX3_question_67 rfl (lv_at hl 0 rfl) ?_
            refine va_get (D := gD g) (ci := 3) (v := .int (sCase (mS σ))) (C := RX3) (T := TX3) (N := 33) hx hb hts hi3 hown hK hP 0 rfl rfl 11 (by decide) k3 (fun _ h9 => h9) rfl dX3_question_68 ?_
            have h8 := hv.1
            have hv := hv.2
            have hPc := hP
            refine ro_int (va_runV (As := [.int p0, .int (sCase (mS σ))]) (rest := []) ⟨hx, hb, hml, hown, hts⟩ (h_X3_isSo g ad σ p0 (sCase (mS σ)) h8) (cwV 2 hts gX3_question_X3_isSo rfl rfl rfl (by decide +kernel) ⟨Nat.le_of_ble_eq_true rfl, Nat.le_of_ble_eq_true rfl⟩) ⟨RO_blind, va_recv hK hP (ci := 3) (q0 := 0) rfl rfl, fun U hU hW => ⟨rfl, by rw [hU]; exact hPc, va_K.moved hW.alike hK, hE.call hW hU hS (fun _ h => h.elim)⟩⟩ rfl rfl hl.1 rfl (lv_room (Nat.le_of_ble_eq_true rfl)) dX3_question_71 ⟨Nat.le_of_ble_eq_true rfl, Nat.le_of_ble_eq_true rfl⟩) hS hP (fun r H locs hw hP hS => ?_)
            subst r
            refine lv_if_eq (tgt := 81) hx hb dX3_question_74 (by decide) (fun c74 => ?_) (fun c74 => ?_)
            · have hv := hv.1 c74
              refine lv_iconst (v := 0) hx hb dX3_question_81 (by decide) ?_
              exact W.iret (v := 0) hx hb hr (fun t ht hW => ⟨⟨0, σ, rfl, hv, P_at ht hP⟩, hS.F ht⟩) hS.2.2 dX3_question_82
            · have hv := hv.2 c74
              refine lv_iconst (v := 1) hx hb dX3_question_77 (by decide) ?_
              refine lv_goto (tgt := 82) hx hb dX3_question_78 (by decide) ?_
              exact W.iret (v := 1) hx hb hr (fun t ht hW => ⟨⟨1, σ, rfl, hv, P_at ht hP⟩, hS.F ht⟩) hS.2.2 dX3_question_82
          · have hv := hv.2 d15_3
            refine lv_tableOut (tgt := 83) hx hb dX3_question_15 (by have n0 := lv_neT (a := 0) d15_0 (by decide); have n1 := lv_neT (a := 1) d15_1 (by decide); have n2 := lv_neT (a := 2) d15_2 (by decide); have n3 := lv_neT (a := 3) d15_3 (by decide); omega) (by decide) ?_
            refine lv_aload_n hx hb dX3_question_83 rfl (lv_at hl 0 rfl) ?_
            refine lv_bipush (v := (-2)) hx hb dX3_question_84 (by decide) ?_
            have h8 := hv.1
            have hv := hv.2
            have hPc := hP
            have hDc := hD
            refine rw_int (va_runV (As := [.int (-2)]) (rest := []) ⟨hx, hb, hml, hown, hts⟩ (h_X3_no g ad σ (-2) h8) (cwV 1 hts gX3_question_X3_no rfl rfl rfl (by decide +kernel) ⟨Nat.le_of_ble_eq_true rfl, Nat.le_of_ble_eq_true rfl⟩) ⟨RW_blind, va_recv hK hP (ci := 3) (q0 := 0) rfl rfl, fun U hU hW => ⟨rfl, by rw [hU]; exact hPc, va_K.moved hW.alike hK, hE.call hW hU hS (fun _ h => h), hDc⟩⟩ rfl rfl hl.1 rfl (lv_room (Nat.le_of_ble_eq_true rfl)) dX3_question_86 ⟨Nat.le_of_ble_eq_true rfl, Nat.le_of_ble_eq_true rfl⟩) hS (fun _ h => h) (fun r u H1 locs hw hP1 hk hS => ?_)
            obtain ⟨hw1, hw⟩ := hw; subst r; subst u
            have hP := hP1
            generalize H1 = H at hP hS ⊢
            have hP : va_P (gD g) vwCl (wM g ad ((mS σ), (mT σ), (mK σ), (mF σ), (mRow σ), (mRowMany σ), (mLots σ), (refuX (mRefused σ) ((-2) : Int32)))) H := hP
            have hD : va_D (AD ad 0 21) (wM g ad ((mS σ), (mT σ), (mK σ), (mF σ), (mRow σ), (mRowMany σ), (mLots σ), (refuX (mRefused σ) ((-2) : Int32)))) := hD.addr (by rfl)
            exact W.iret (v := (((-2) : Int32))) hx hb hr (fun t ht hW => ⟨⟨(((-2) : Int32)), ((mS σ), (mT σ), (mK σ), (mF σ), (mRow σ), (mRowMany σ), (mLots σ), (refuX (mRefused σ) ((-2) : Int32))), rfl, hv, P_at ht hP⟩, hS.F ht⟩) hS.2.2 dX3_question_89
  · have hv := hv.2 c5
    refine lv_aload_n hx hb dX3_question_8 rfl (lv_at hl 0 rfl) ?_
    refine lv_iconst (v := (-1)) hx hb dX3_question_9 (by decide) ?_
    have h8 := hv.1
    have hv := hv.2
    have hPc := hP
    have hDc := hD
    refine rw_int (va_runV (As := [.int (-1)]) (rest := []) ⟨hx, hb, hml, hown, hts⟩ (h_X3_no g ad σ (-1) h8) (cwV 1 hts gX3_question_X3_no rfl rfl rfl (by decide +kernel) ⟨Nat.le_of_ble_eq_true rfl, Nat.le_of_ble_eq_true rfl⟩) ⟨RW_blind, va_recv hK hP (ci := 3) (q0 := 0) rfl rfl, fun U hU hW => ⟨rfl, by rw [hU]; exact hPc, va_K.moved hW.alike hK, hE.call hW hU hS (fun _ h => h), hDc⟩⟩ rfl rfl hl.1 rfl (lv_room (Nat.le_of_ble_eq_true rfl)) dX3_question_10 ⟨Nat.le_of_ble_eq_true rfl, Nat.le_of_ble_eq_true rfl⟩) hS (fun _ h => h) (fun r u H1 locs hw hP1 hk hS => ?_)
    obtain ⟨hw1, hw⟩ := hw; subst r; subst u
    have hP := hP1
    generalize H1 = H at hP hS ⊢
    have hP : va_P (gD g) vwCl (wM g ad ((mS σ), (mT σ), (mK σ), (mF σ), (mRow σ), (mRowMany σ), (mLots σ), (refuX (mRefused σ) ((-1) : Int32)))) H := hP
    have hD : va_D (AD ad 0 21) (wM g ad ((mS σ), (mT σ), (mK σ), (mF σ), (mRow σ), (mRowMany σ), (mLots σ), (refuX (mRefused σ) ((-1) : Int32)))) := hD.addr (by rfl)
    exact W.iret (v := (((-1) : Int32))) hx hb hr (fun t ht hW => ⟨⟨(((-1) : Int32)), ((mS σ), (mT σ), (mK σ), (mF σ), (mRow σ), (mRowMany σ), (mLots σ), (refuX (mRefused σ) ((-1) : Int32))), rfl, hv, P_at ht hP⟩, hS.F ht⟩) hS.2.2 dX3_question_13

set_option maxHeartbeats 4000000 in
set_option maxRecDepth 100000 in
theorem m_X3_witness (l : Launch) (h_X3_isWitness : C_X3_isWitness l) (h_X3_no : C_X3_no l) (g : CX) (ad : Nat → Nat) (σ : KM) (p0 : Int32) (p1 : Int32) (Post : Int32 → KM → Prop) (hv : vc_X3_witness σ p0 p1 Post) : Met l yX3_witness wsX3_witness { frames := 1, cells := 0, slots := 0, locals := 21 } (va_Pc [.ref (ad 0), .int p0, .int p1] (RW g (AD ad 0 21) (wM g ad σ))) (va_Qi (fun (r : Int32) (u : KM) => Post r u) (fun u t => va_P (gD g) vwCl (wM g ad u) t.heap) (AD ad 0 21)) 0 0 (AD ad 0 21) := by
  unfold vc_X3_witness at hv
  refine Met.ofW (cc := cX3_witness) (maxL := 3) (ret := (some .int)) (by decide) rfl ?_
  intro p e s m args below meth c s₁ B hml hv0
  obtain ⟨rfl, hP, hK, hE, hD⟩ := hv0
  have hx := B.exec
  have hb := B.bytes
  have hr := B.returns
  have hts := atoms_spec (ws := wsX3_witness) B.pre
  have hown : s.vm.findClass RX3 = some m.cls := findClass_of_methodNamed B.named
  have hlocks := B.notSynchronized
  have hi3 : ∀ w ∈ wsX30, w ∈ wsX3_witness := by decide +kernel
  have k0 := hts (.fieldLink RX3 28 "JuryHearsAnswersModel" "knows" "[I") (by decide +kernel)
  have k1 := hts (.fieldLink RX3 25 "JuryHearsAnswersModel" "figure" "[I") (by decide +kernel)
  have k2 := hts (.fieldLink RX3 22 "JuryHearsAnswersModel" "kind" "[I") (by decide +kernel)
  have hS : va_S (AD ad 0 21) s.heap s.heap [] := va_S.rf
  have hP : va_P (gD g) vwCl (wM g ad σ) s.heap := hP
  have hl := lv_entry ([.ref (ad 0), .int p0, .int p1]) (n := 3) (Nat.le_of_ble_eq_true rfl)
  rw [lg_entry_eq]
  generalize (lg_sl ([.ref (ad 0), .int p0, .int p1]) ++ List.replicate (3 - (lg_sl ([.ref (ad 0), .int p0, .int p1])).length) Slot.unset).toArray = ls at hl ⊢
  have hl : lv_has ls 3 [(0, .ref (ad 0)), (1, .int p0), (2, .int p1)] := hl
  obtain ⟨H, hH⟩ : ∃ z, z = s.heap := ⟨_, rfl⟩
  obtain ⟨locs, hL⟩ : ∃ z : List Loc, z = [] := ⟨_, rfl⟩
  rw [← hL] at hS ⊢
  have hS : va_S (AD ad 0 21) s.heap H locs := by rw [hH]; exact hS
  rw [← hH] at hP ⊢
  clear hH hL
  refine lv_aload_n hx hb dX3_witness_0 rfl (lv_at hl 0 rfl) ?_
  refine lv_iload_n hx hb dX3_witness_1 rfl (lv_at hl 1 rfl) ?_
  have hPc := hP
  refine ro_int (va_runV (As := [.int p0]) (rest := []) ⟨hx, hb, hml, hown, hts⟩ (h_X3_isWitness g ad σ p0) (cwV 1 hts gX3_witness_X3_isWitness rfl rfl rfl (by decide +kernel) ⟨Nat.le_of_ble_eq_true rfl, Nat.le_of_ble_eq_true rfl⟩) ⟨RO_blind, va_recv hK hP (ci := 3) (q0 := 0) rfl rfl, fun U hU hW => ⟨rfl, by rw [hU]; exact hPc, va_K.moved hW.alike hK, hE.call hW hU hS (fun _ h => h.elim)⟩⟩ rfl rfl hl.1 rfl (lv_room (Nat.le_of_ble_eq_true rfl)) dX3_witness_2 ⟨Nat.le_of_ble_eq_true rfl, Nat.le_of_ble_eq_true rfl⟩) hS hP (fun r H locs hw hP hS => ?_)
  subst r
  refine lv_if_ne (tgt := 14) hx hb dX3_witness_5 (by decide) (fun c5 => ?_) (fun c5 => ?_)
  · have hv := hv.1 c5
    refine lv_iload_n hx hb dX3_witness_14 rfl (lv_at hl 2 rfl) ?_
    refine lv_if_ne (tgt := 27) hx hb dX3_witness_15 (by decide) (fun c15 => ?_) (fun c15 => ?_)
    · have hv := hv.1 c15
      refine lv_iload_n hx hb dX3_witness_27 rfl (lv_at hl 2 rfl) ?_
      refine lv_iconst (v := 1) hx hb dX3_witness_28 (by decide) ?_
      refine lv_icmp_ne (tgt := 41) hx hb dX3_witness_29 (by decide) (fun c29 => ?_) (fun c29 => ?_)
      · have hv := hv.1 c29
        refine lv_iload_n hx hb dX3_witness_41 rfl (lv_at hl 2 rfl) ?_
        refine lv_iconst (v := 2) hx hb dX3_witness_42 (by decide) ?_
        refine lv_icmp_ne (tgt := 55) hx hb dX3_witness_43 (by decide) (fun c43 => ?_) (fun c43 => ?_)
        · have hv := hv.1 c43
          refine lv_aload_n hx hb dX3_witness_55 rfl (lv_at hl 0 rfl) ?_
          refine lv_bipush (v := (-2)) hx hb dX3_witness_56 (by decide) ?_
          have h8 := hv.1
          have hv := hv.2
          have hPc := hP
          have hDc := hD
          refine rw_int (va_runV (As := [.int (-2)]) (rest := []) ⟨hx, hb, hml, hown, hts⟩ (h_X3_no g ad σ (-2) h8) (cwV 1 hts gX3_witness_X3_no rfl rfl rfl (by decide +kernel) ⟨Nat.le_of_ble_eq_true rfl, Nat.le_of_ble_eq_true rfl⟩) ⟨RW_blind, va_recv hK hP (ci := 3) (q0 := 0) rfl rfl, fun U hU hW => ⟨rfl, by rw [hU]; exact hPc, va_K.moved hW.alike hK, hE.call hW hU hS (fun _ h => h), hDc⟩⟩ rfl rfl hl.1 rfl (lv_room (Nat.le_of_ble_eq_true rfl)) dX3_witness_58 ⟨Nat.le_of_ble_eq_true rfl, Nat.le_of_ble_eq_true rfl⟩) hS (fun _ h => h) (fun r u H1 locs hw hP1 hk hS => ?_)
          obtain ⟨hw1, hw⟩ := hw; subst r; subst u
          have hP := hP1
          generalize H1 = H at hP hS ⊢
          have hP : va_P (gD g) vwCl (wM g ad ((mS σ), (mT σ), (mK σ), (mF σ), (mRow σ), (mRowMany σ), (mLots σ), (refuX (mRefused σ) ((-2) : Int32)))) H := hP
          have hD : va_D (AD ad 0 21) (wM g ad ((mS σ), (mT σ), (mK σ), (mF σ), (mRow σ), (mRowMany σ), (mLots σ), (refuX (mRefused σ) ((-2) : Int32)))) := hD.addr (by rfl)
          exact W.iret (v := (((-2) : Int32))) hx hb hr (fun t ht hW => ⟨⟨(((-2) : Int32)), ((mS σ), (mT σ), (mK σ), (mF σ), (mRow σ), (mRowMany σ), (mLots σ), (refuX (mRefused σ) ((-2) : Int32))), rfl, hv, P_at ht hP⟩, hS.F ht⟩) hS.2.2 dX3_witness_61
        · have hv := hv.2 c43
          refine lv_aload_n hx hb dX3_witness_46 rfl (lv_at hl 0 rfl) ?_
          refine va_get (D := gD g) (ci := 3) (v := .ref (ad 7)) (C := RX3) (T := TX3) (N := 33) hx hb hts hi3 hown hK hP 0 rfl rfl 6 (by decide) k0 (fun _ h9 => h9) rfl dX3_witness_47 ?_
          refine lv_iload_n hx hb dX3_witness_50 rfl (lv_at hl 1 rfl) ?_
          have h9 := hv.1
          have hv := hv.2
          refine va_iald (f := (sKnows (mS σ))) (n := 5) hx hb hK hP 7 0 rfl rfl h9 dX3_witness_51 ?_
          refine lv_goto (tgt := 61) hx hb dX3_witness_52 (by decide) ?_
          exact W.iret (v := ((sKnows (mS σ)) (p0).toNatClampNeg)) hx hb hr (fun t ht hW => ⟨⟨((sKnows (mS σ)) (p0).toNatClampNeg), σ, rfl, hv, P_at ht hP⟩, hS.F ht⟩) hS.2.2 dX3_witness_61
      · have hv := hv.2 c29
        refine lv_aload_n hx hb dX3_witness_32 rfl (lv_at hl 0 rfl) ?_
        refine va_get (D := gD g) (ci := 3) (v := .ref (ad 6)) (C := RX3) (T := TX3) (N := 33) hx hb hts hi3 hown hK hP 0 rfl rfl 5 (by decide) k1 (fun _ h9 => h9) rfl dX3_witness_33 ?_
        refine lv_iload_n hx hb dX3_witness_36 rfl (lv_at hl 1 rfl) ?_
        have h9 := hv.1
        have hv := hv.2
        refine va_iald (f := (sFigure (mS σ))) (n := 5) hx hb hK hP 6 0 rfl rfl h9 dX3_witness_37 ?_
        refine lv_goto (tgt := 61) hx hb dX3_witness_38 (by decide) ?_
        exact W.iret (v := ((sFigure (mS σ)) (p0).toNatClampNeg)) hx hb hr (fun t ht hW => ⟨⟨((sFigure (mS σ)) (p0).toNatClampNeg), σ, rfl, hv, P_at ht hP⟩, hS.F ht⟩) hS.2.2 dX3_witness_61
    · have hv := hv.2 c15
      refine lv_aload_n hx hb dX3_witness_18 rfl (lv_at hl 0 rfl) ?_
      refine va_get (D := gD g) (ci := 3) (v := .ref (ad 5)) (C := RX3) (T := TX3) (N := 33) hx hb hts hi3 hown hK hP 0 rfl rfl 4 (by decide) k2 (fun _ h9 => h9) rfl dX3_witness_19 ?_
      refine lv_iload_n hx hb dX3_witness_22 rfl (lv_at hl 1 rfl) ?_
      have h9 := hv.1
      have hv := hv.2
      refine va_iald (f := (sKind (mS σ))) (n := 5) hx hb hK hP 5 0 rfl rfl h9 dX3_witness_23 ?_
      refine lv_goto (tgt := 61) hx hb dX3_witness_24 (by decide) ?_
      exact W.iret (v := ((sKind (mS σ)) (p0).toNatClampNeg)) hx hb hr (fun t ht hW => ⟨⟨((sKind (mS σ)) (p0).toNatClampNeg), σ, rfl, hv, P_at ht hP⟩, hS.F ht⟩) hS.2.2 dX3_witness_61
  · have hv := hv.2 c5
    refine lv_aload_n hx hb dX3_witness_8 rfl (lv_at hl 0 rfl) ?_
    refine lv_iconst (v := (-1)) hx hb dX3_witness_9 (by decide) ?_
    have h8 := hv.1
    have hv := hv.2
    have hPc := hP
    have hDc := hD
    refine rw_int (va_runV (As := [.int (-1)]) (rest := []) ⟨hx, hb, hml, hown, hts⟩ (h_X3_no g ad σ (-1) h8) (cwV 1 hts gX3_witness_X3_no rfl rfl rfl (by decide +kernel) ⟨Nat.le_of_ble_eq_true rfl, Nat.le_of_ble_eq_true rfl⟩) ⟨RW_blind, va_recv hK hP (ci := 3) (q0 := 0) rfl rfl, fun U hU hW => ⟨rfl, by rw [hU]; exact hPc, va_K.moved hW.alike hK, hE.call hW hU hS (fun _ h => h), hDc⟩⟩ rfl rfl hl.1 rfl (lv_room (Nat.le_of_ble_eq_true rfl)) dX3_witness_10 ⟨Nat.le_of_ble_eq_true rfl, Nat.le_of_ble_eq_true rfl⟩) hS (fun _ h => h) (fun r u H1 locs hw hP1 hk hS => ?_)
    obtain ⟨hw1, hw⟩ := hw; subst r; subst u
    have hP := hP1
    generalize H1 = H at hP hS ⊢
    have hP : va_P (gD g) vwCl (wM g ad ((mS σ), (mT σ), (mK σ), (mF σ), (mRow σ), (mRowMany σ), (mLots σ), (refuX (mRefused σ) ((-1) : Int32)))) H := hP
    have hD : va_D (AD ad 0 21) (wM g ad ((mS σ), (mT σ), (mK σ), (mF σ), (mRow σ), (mRowMany σ), (mLots σ), (refuX (mRefused σ) ((-1) : Int32)))) := hD.addr (by rfl)
    exact W.iret (v := (((-1) : Int32))) hx hb hr (fun t ht hW => ⟨⟨(((-1) : Int32)), ((mS σ), (mT σ), (mK σ), (mF σ), (mRow σ), (mRowMany σ), (mLots σ), (refuX (mRefused σ) ((-1) : Int32))), rfl, hv, P_at ht hP⟩, hS.F ht⟩) hS.2.2 dX3_witness_13

set_option maxHeartbeats 4000000 in
set_option maxRecDepth 100000 in
theorem m_X3_asks (l : Launch) (h_X3_asksOne : C_X3_asksOne l) (h_X3_isQuestion : C_X3_isQuestion l) (h_X3_isWitness : C_X3_isWitness l) (h_X3_no : C_X3_no l) (g : CX) (ad : Nat → Nat) (σ : KM) (p0 : Int32) (p1 : Int32) (Post : Int32 → KM → Prop) (hv : vc_X3_asks σ p0 p1 Post) : Met l yX3_asks wsX3_asks { frames := 5, cells := 0, slots := 0, locals := 116 } (va_Pc [.ref (ad 0), .int p0, .int p1] (RW g (AD ad 0 21) (wM g ad σ))) (va_Qi (fun (r : Int32) (u : KM) => Post r u) (fun u t => va_P (gD g) vwCl (wM g ad u) t.heap) (AD ad 0 21)) 0 0 (AD ad 0 21) := by
  unfold vc_X3_asks at hv
  refine Met.ofW (cc := cX3_asks) (maxL := 4) (ret := (some .int)) (by decide) rfl ?_
  intro p e s m args below meth c s₁ B hml hv0
  obtain ⟨rfl, hP, hK, hE, hD⟩ := hv0
  have hx := B.exec
  have hb := B.bytes
  have hr := B.returns
  have hts := atoms_spec (ws := wsX3_asks) B.pre
  have hown : s.vm.findClass RX3 = some m.cls := findClass_of_methodNamed B.named
  have hlocks := B.notSynchronized
  have hi3 : ∀ w ∈ wsX30, w ∈ wsX3_asks := by decide +kernel
  have k0 := hts (.fieldLink RX3 127 "JuryHearsAnswersModel" "asked" "I") (by decide +kernel)
  have hS : va_S (AD ad 0 21) s.heap s.heap [] := va_S.rf
  have hP : va_P (gD g) vwCl (wM g ad σ) s.heap := hP
  have hl := lv_entry ([.ref (ad 0), .int p0, .int p1]) (n := 4) (Nat.le_of_ble_eq_true rfl)
  rw [lg_entry_eq]
  generalize (lg_sl ([.ref (ad 0), .int p0, .int p1]) ++ List.replicate (4 - (lg_sl ([.ref (ad 0), .int p0, .int p1])).length) Slot.unset).toArray = ls at hl ⊢
  have hl : lv_has ls 4 [(0, .ref (ad 0)), (1, .int p0), (2, .int p1)] := hl
  obtain ⟨H, hH⟩ : ∃ z, z = s.heap := ⟨_, rfl⟩
  obtain ⟨locs, hL⟩ : ∃ z : List Loc, z = [] := ⟨_, rfl⟩
  rw [← hL] at hS ⊢
  have hS : va_S (AD ad 0 21) s.heap H locs := by rw [hH]; exact hS
  rw [← hH] at hP ⊢
  clear hH hL
  refine lv_aload_n hx hb dX3_asks_0 rfl (lv_at hl 0 rfl) ?_
  refine lv_iload_n hx hb dX3_asks_1 rfl (lv_at hl 1 rfl) ?_
  have hPc := hP
  refine ro_int (va_runV (As := [.int p0]) (rest := []) ⟨hx, hb, hml, hown, hts⟩ (h_X3_isWitness g ad σ p0) (cwV 1 hts gX3_asks_X3_isWitness rfl rfl rfl (by decide +kernel) ⟨Nat.le_of_ble_eq_true rfl, Nat.le_of_ble_eq_true rfl⟩) ⟨RO_blind, va_recv hK hP (ci := 3) (q0 := 0) rfl rfl, fun U hU hW => ⟨rfl, by rw [hU]; exact hPc, va_K.moved hW.alike hK, hE.call hW hU hS (fun _ h => h.elim)⟩⟩ rfl rfl hl.1 rfl (lv_room (Nat.le_of_ble_eq_true rfl)) dX3_asks_2 ⟨Nat.le_of_ble_eq_true rfl, Nat.le_of_ble_eq_true rfl⟩) hS hP (fun r H locs hw hP hS => ?_)
  subst r
  refine lv_if_eq (tgt := 16) hx hb dX3_asks_5 (by decide) (fun c5 => ?_) (fun c5 => ?_)
  · have hv := hv.1 c5
    refine lv_iconst (v := (-1)) hx hb dX3_asks_16 (by decide) ?_
    refine lv_goto (tgt := 36) hx hb dX3_asks_17 (by decide) ?_
    refine lv_istore_n (lv' := [(3, .int (-1)), (0, .ref (ad 0)), (1, .int p0), (2, .int p1)]) hx hb dX3_asks_36 rfl hl (by decide) rfl (fun ls hl => ?_)
    refine lv_iload_n hx hb dX3_asks_37 rfl (lv_at hl 0 rfl) ?_
    refine lv_if_eq (tgt := 49) hx hb dX3_asks_38 (by decide) (fun c38 => ?_) (fun c38 => ?_)
    · exact absurd c38 (by decide)
    · refine lv_aload_n hx hb dX3_asks_41 rfl (lv_at hl 1 rfl) ?_
      refine lv_iload_n hx hb dX3_asks_42 rfl (lv_at hl 0 rfl) ?_
      have h8 := hv.1
      have hv := hv.2
      have hPc := hP
      have hDc := hD
      refine rw_int (va_runV (As := [.int (-1)]) (rest := []) ⟨hx, hb, hml, hown, hts⟩ (h_X3_no g ad σ (-1) h8) (cwV 1 hts gX3_asks_X3_no rfl rfl rfl (by decide +kernel) ⟨Nat.le_of_ble_eq_true rfl, Nat.le_of_ble_eq_true rfl⟩) ⟨RW_blind, va_recv hK hP (ci := 3) (q0 := 0) rfl rfl, fun U hU hW => ⟨rfl, by rw [hU]; exact hPc, va_K.moved hW.alike hK, hE.call hW hU hS (fun _ h => h), hDc⟩⟩ rfl rfl hl.1 rfl (lv_room (Nat.le_of_ble_eq_true rfl)) dX3_asks_43 ⟨Nat.le_of_ble_eq_true rfl, Nat.le_of_ble_eq_true rfl⟩) hS (fun _ h => h) (fun r u H1 locs hw hP1 hk hS => ?_)
      obtain ⟨hw1, hw⟩ := hw; subst r; subst u
      have hP := hP1
      generalize H1 = H at hP hS ⊢
      have hP : va_P (gD g) vwCl (wM g ad ((mS σ), (mT σ), (mK σ), (mF σ), (mRow σ), (mRowMany σ), (mLots σ), (refuX (mRefused σ) ((-1) : Int32)))) H := hP
      have hD : va_D (AD ad 0 21) (wM g ad ((mS σ), (mT σ), (mK σ), (mF σ), (mRow σ), (mRowMany σ), (mLots σ), (refuX (mRefused σ) ((-1) : Int32)))) := hD.addr (by rfl)
      refine lv_goto (tgt := 55) hx hb dX3_asks_46 (by decide) ?_
      exact W.iret (v := (((-1) : Int32))) hx hb hr (fun t ht hW => ⟨⟨(((-1) : Int32)), ((mS σ), (mT σ), (mK σ), (mF σ), (mRow σ), (mRowMany σ), (mLots σ), (refuX (mRefused σ) ((-1) : Int32))), rfl, hv, P_at ht hP⟩, hS.F ht⟩) hS.2.2 dX3_asks_55
  · have hv := hv.2 c5
    refine lv_aload_n hx hb dX3_asks_8 rfl (lv_at hl 0 rfl) ?_
    refine lv_iload_n hx hb dX3_asks_9 rfl (lv_at hl 2 rfl) ?_
    have hPc := hP
    refine ro_int (va_runV (As := [.int p1]) (rest := []) ⟨hx, hb, hml, hown, hts⟩ (h_X3_isQuestion g ad σ p1) (cwV 1 hts gX3_asks_X3_isQuestion rfl rfl rfl (by decide +kernel) ⟨Nat.le_of_ble_eq_true rfl, Nat.le_of_ble_eq_true rfl⟩) ⟨RO_blind, va_recv hK hP (ci := 3) (q0 := 0) rfl rfl, fun U hU hW => ⟨rfl, by rw [hU]; exact hPc, va_K.moved hW.alike hK, hE.call hW hU hS (fun _ h => h.elim)⟩⟩ rfl rfl hl.1 rfl (lv_room (Nat.le_of_ble_eq_true rfl)) dX3_asks_10 ⟨Nat.le_of_ble_eq_true rfl, Nat.le_of_ble_eq_true rfl⟩) hS hP (fun r H locs hw hP hS => ?_)
    subst r
    refine lv_if_ne (tgt := 20) hx hb dX3_asks_13 (by decide) (fun c13 => ?_) (fun c13 => ?_)
    · have hv := hv.1 c13
      refine lv_aload_n hx hb dX3_asks_20 rfl (lv_at hl 0 rfl) ?_
      refine va_get (D := gD g) (ci := 3) (v := .int (sAsked (mS σ))) (C := RX3) (T := TX3) (N := 33) hx hb hts hi3 hown hK hP 0 rfl rfl 15 (by decide) k0 (fun _ h9 => h9) rfl dX3_asks_21 ?_
      refine lv_sipush (v := 999) hx hb dX3_asks_24 (by decide) ?_
      refine lv_icmp_ne (tgt := 35) hx hb dX3_asks_27 (by decide) (fun c27 => ?_) (fun c27 => ?_)
      · have hv := hv.1 c27
        refine lv_iconst (v := 0) hx hb dX3_asks_35 (by decide) ?_
        refine lv_istore_n (lv' := [(3, .int 0), (0, .ref (ad 0)), (1, .int p0), (2, .int p1)]) hx hb dX3_asks_36 rfl hl (by decide) rfl (fun ls hl => ?_)
        refine lv_iload_n hx hb dX3_asks_37 rfl (lv_at hl 0 rfl) ?_
        refine lv_if_eq (tgt := 49) hx hb dX3_asks_38 (by decide) (fun c38 => ?_) (fun c38 => ?_)
        · refine lv_aload_n hx hb dX3_asks_49 rfl (lv_at hl 1 rfl) ?_
          refine lv_iload_n hx hb dX3_asks_50 rfl (lv_at hl 2 rfl) ?_
          refine lv_iload_n hx hb dX3_asks_51 rfl (lv_at hl 3 rfl) ?_
          have h8 := hv.1
          have hv := hv.2
          have hPc := hP
          have hDc := hD
          refine rw_int (va_runV (As := [.int p0, .int p1]) (rest := []) ⟨hx, hb, hml, hown, hts⟩ (h_X3_asksOne g ad σ p0 p1 h8) (cwV 2 hts gX3_asks_X3_asksOne rfl rfl rfl (by decide +kernel) ⟨Nat.le_of_ble_eq_true rfl, Nat.le_of_ble_eq_true rfl⟩) ⟨RW_blind, va_recv hK hP (ci := 3) (q0 := 0) rfl rfl, fun U hU hW => ⟨rfl, by rw [hU]; exact hPc, va_K.moved hW.alike hK, hE.call hW hU hS (fun _ h => h), hDc⟩⟩ rfl rfl hl.1 rfl (lv_room (Nat.le_of_ble_eq_true rfl)) dX3_asks_52 ⟨Nat.le_of_ble_eq_true rfl, Nat.le_of_ble_eq_true rfl⟩) hS (fun _ h => h) (fun r u H1 locs hw hP1 hk hS => ?_)
          obtain ⟨hw1, hw⟩ := hw; subst r; subst u
          have hP := hP1
          generalize H1 = H at hP hS ⊢
          have hP : va_P (gD g) vwCl (wM g ad ((askS (mS σ) p0 p1), (mT σ), (mK σ), (mF σ), (mRow σ), (mRowMany σ), (mLots σ), (mRefused σ))) H := hP
          have hD : va_D (AD ad 0 21) (wM g ad ((askS (mS σ) p0 p1), (mT σ), (mK σ), (mF σ), (mRow σ), (mRowMany σ), (mLots σ), (mRefused σ))) := hD.addr (by rfl)
          exact W.iret (v := (askV (mS σ) p0 p1)) hx hb hr (fun t ht hW => ⟨⟨(askV (mS σ) p0 p1), ((askS (mS σ) p0 p1), (mT σ), (mK σ), (mF σ), (mRow σ), (mRowMany σ), (mLots σ), (mRefused σ)), rfl, hv, P_at ht hP⟩, hS.F ht⟩) hS.2.2 dX3_asks_55
        · exact (c38 (by decide)).elim
      · have hv := hv.2 c27
        refine lv_bipush (v := (-6)) hx hb dX3_asks_30 (by decide) ?_
        refine lv_goto (tgt := 36) hx hb dX3_asks_32 (by decide) ?_
        refine lv_istore_n (lv' := [(3, .int (-6)), (0, .ref (ad 0)), (1, .int p0), (2, .int p1)]) hx hb dX3_asks_36 rfl hl (by decide) rfl (fun ls hl => ?_)
        refine lv_iload_n hx hb dX3_asks_37 rfl (lv_at hl 0 rfl) ?_
        refine lv_if_eq (tgt := 49) hx hb dX3_asks_38 (by decide) (fun c38 => ?_) (fun c38 => ?_)
        · exact absurd c38 (by decide)
        · refine lv_aload_n hx hb dX3_asks_41 rfl (lv_at hl 1 rfl) ?_
          refine lv_iload_n hx hb dX3_asks_42 rfl (lv_at hl 0 rfl) ?_
          have h8 := hv.1
          have hv := hv.2
          have hPc := hP
          have hDc := hD
          refine rw_int (va_runV (As := [.int (-6)]) (rest := []) ⟨hx, hb, hml, hown, hts⟩ (h_X3_no g ad σ (-6) h8) (cwV 1 hts gX3_asks_X3_no rfl rfl rfl (by decide +kernel) ⟨Nat.le_of_ble_eq_true rfl, Nat.le_of_ble_eq_true rfl⟩) ⟨RW_blind, va_recv hK hP (ci := 3) (q0 := 0) rfl rfl, fun U hU hW => ⟨rfl, by rw [hU]; exact hPc, va_K.moved hW.alike hK, hE.call hW hU hS (fun _ h => h), hDc⟩⟩ rfl rfl hl.1 rfl (lv_room (Nat.le_of_ble_eq_true rfl)) dX3_asks_43 ⟨Nat.le_of_ble_eq_true rfl, Nat.le_of_ble_eq_true rfl⟩) hS (fun _ h => h) (fun r u H1 locs hw hP1 hk hS => ?_)
          obtain ⟨hw1, hw⟩ := hw; subst r; subst u
          have hP := hP1
          generalize H1 = H at hP hS ⊢
          have hP : va_P (gD g) vwCl (wM g ad ((mS σ), (mT σ), (mK σ), (mF σ), (mRow σ), (mRowMany σ), (mLots σ), (refuX (mRefused σ) ((-6) : Int32)))) H := hP
          have hD : va_D (AD ad 0 21) (wM g ad ((mS σ), (mT σ), (mK σ), (mF σ), (mRow σ), (mRowMany σ), (mLots σ), (refuX (mRefused σ) ((-6) : Int32)))) := hD.addr (by rfl)
          refine lv_goto (tgt := 55) hx hb dX3_asks_46 (by decide) ?_
          exact W.iret (v := (((-6) : Int32))) hx hb hr (fun t ht hW => ⟨⟨(((-6) : Int32)), ((mS σ), (mT σ), (mK σ), (mF σ), (mRow σ), (mRowMany σ), (mLots σ), (refuX (mRefused σ) ((-6) : Int32))), rfl, hv, P_at ht hP⟩, hS.F ht⟩) hS.2.2 dX3_asks_55
    · have hv := hv.2 c13
      refine lv_iconst (v := (-1)) hx hb dX3_asks_16 (by decide) ?_
      refine lv_goto (tgt := 36) hx hb dX3_asks_17 (by decide) ?_
      refine lv_istore_n (lv' := [(3, .int (-1)), (0, .ref (ad 0)), (1, .int p0), (2, .int p1)]) hx hb dX3_asks_36 rfl hl (by decide) rfl (fun ls hl => ?_)
      refine lv_iload_n hx hb dX3_asks_37 rfl (lv_at hl 0 rfl) ?_
      refine lv_if_eq (tgt := 49) hx hb dX3_asks_38 (by decide) (fun c38 => ?_) (fun c38 => ?_)
      · exact absurd c38 (by decide)
      · refine lv_aload_n hx hb dX3_asks_41 rfl (lv_at hl 1 rfl) ?_
        refine lv_iload_n hx hb dX3_asks_42 rfl (lv_at hl 0 rfl) ?_
        have h8 := hv.1
        have hv := hv.2
        have hPc := hP
        have hDc := hD
        refine rw_int (va_runV (As := [.int (-1)]) (rest := []) ⟨hx, hb, hml, hown, hts⟩ (h_X3_no g ad σ (-1) h8) (cwV 1 hts gX3_asks_X3_no rfl rfl rfl (by decide +kernel) ⟨Nat.le_of_ble_eq_true rfl, Nat.le_of_ble_eq_true rfl⟩) ⟨RW_blind, va_recv hK hP (ci := 3) (q0 := 0) rfl rfl, fun U hU hW => ⟨rfl, by rw [hU]; exact hPc, va_K.moved hW.alike hK, hE.call hW hU hS (fun _ h => h), hDc⟩⟩ rfl rfl hl.1 rfl (lv_room (Nat.le_of_ble_eq_true rfl)) dX3_asks_43 ⟨Nat.le_of_ble_eq_true rfl, Nat.le_of_ble_eq_true rfl⟩) hS (fun _ h => h) (fun r u H1 locs hw hP1 hk hS => ?_)
        obtain ⟨hw1, hw⟩ := hw; subst r; subst u
        have hP := hP1
        generalize H1 = H at hP hS ⊢
        have hP : va_P (gD g) vwCl (wM g ad ((mS σ), (mT σ), (mK σ), (mF σ), (mRow σ), (mRowMany σ), (mLots σ), (refuX (mRefused σ) ((-1) : Int32)))) H := hP
        have hD : va_D (AD ad 0 21) (wM g ad ((mS σ), (mT σ), (mK σ), (mF σ), (mRow σ), (mRowMany σ), (mLots σ), (refuX (mRefused σ) ((-1) : Int32)))) := hD.addr (by rfl)
        refine lv_goto (tgt := 55) hx hb dX3_asks_46 (by decide) ?_
        exact W.iret (v := (((-1) : Int32))) hx hb hr (fun t ht hW => ⟨⟨(((-1) : Int32)), ((mS σ), (mT σ), (mK σ), (mF σ), (mRow σ), (mRowMany σ), (mLots σ), (refuX (mRefused σ) ((-1) : Int32))), rfl, hv, P_at ht hP⟩, hS.F ht⟩) hS.2.2 dX3_asks_55

set_option maxHeartbeats 4000000 in
set_option maxRecDepth 100000 in
theorem m_X3_heard (l : Launch) (h_X3_no : C_X3_no l) (g : CX) (ad : Nat → Nat) (σ : KM) (p0 : Int32) (p1 : Int32) (Post : Int32 → KM → Prop) (hv : vc_X3_heard σ p0 p1 Post) : Met l yX3_heard wsX3_heard { frames := 1, cells := 0, slots := 0, locals := 21 } (va_Pc [.ref (ad 0), .int p0, .int p1] (RW g (AD ad 0 21) (wM g ad σ))) (va_Qi (fun (r : Int32) (u : KM) => Post r u) (fun u t => va_P (gD g) vwCl (wM g ad u) t.heap) (AD ad 0 21)) 0 0 (AD ad 0 21) := by
  unfold vc_X3_heard at hv
  refine Met.ofW (cc := cX3_heard) (maxL := 3) (ret := (some .int)) (by decide) rfl ?_
  intro p e s m args below meth c s₁ B hml hv0
  obtain ⟨rfl, hP, hK, hE, hD⟩ := hv0
  have hx := B.exec
  have hb := B.bytes
  have hr := B.returns
  have hts := atoms_spec (ws := wsX3_heard) B.pre
  have hown : s.vm.findClass RX3 = some m.cls := findClass_of_methodNamed B.named
  have hlocks := B.notSynchronized
  have hi3 : ∀ w ∈ wsX30, w ∈ wsX3_heard := by decide +kernel
  have k0 := hts (.fieldLink RX3 146 "JuryHearsAnswersModel" "heard" "I") (by decide +kernel)
  have k1 := hts (.fieldLink RX3 31 "JuryHearsAnswersModel" "whom" "[I") (by decide +kernel)
  have k2 := hts (.fieldLink RX3 34 "JuryHearsAnswersModel" "what" "[I") (by decide +kernel)
  have k3 := hts (.fieldLink RX3 37 "JuryHearsAnswersModel" "said" "[I") (by decide +kernel)
  have k4 := hts (.fieldLink RX3 40 "JuryHearsAnswersModel" "when" "[I") (by decide +kernel)
  have hS : va_S (AD ad 0 21) s.heap s.heap [] := va_S.rf
  have hP : va_P (gD g) vwCl (wM g ad σ) s.heap := hP
  have hl := lv_entry ([.ref (ad 0), .int p0, .int p1]) (n := 3) (Nat.le_of_ble_eq_true rfl)
  rw [lg_entry_eq]
  generalize (lg_sl ([.ref (ad 0), .int p0, .int p1]) ++ List.replicate (3 - (lg_sl ([.ref (ad 0), .int p0, .int p1])).length) Slot.unset).toArray = ls at hl ⊢
  have hl : lv_has ls 3 [(0, .ref (ad 0)), (1, .int p0), (2, .int p1)] := hl
  obtain ⟨H, hH⟩ : ∃ z, z = s.heap := ⟨_, rfl⟩
  obtain ⟨locs, hL⟩ : ∃ z : List Loc, z = [] := ⟨_, rfl⟩
  rw [← hL] at hS ⊢
  have hS : va_S (AD ad 0 21) s.heap H locs := by rw [hH]; exact hS
  rw [← hH] at hP ⊢
  clear hH hL
  refine lv_iload_n hx hb dX3_heard_0 rfl (lv_at hl 1 rfl) ?_
  refine lv_if_lt (tgt := 12) hx hb dX3_heard_1 (by decide) (fun c1 => ?_) (fun c1 => ?_)
  · have hv := hv.1 c1
    refine lv_aload_n hx hb dX3_heard_12 rfl (lv_at hl 0 rfl) ?_
    refine lv_iconst (v := (-1)) hx hb dX3_heard_13 (by decide) ?_
    have h8 := hv.1
    have hv := hv.2
    have hPc := hP
    have hDc := hD
    refine rw_int (va_runV (As := [.int (-1)]) (rest := []) ⟨hx, hb, hml, hown, hts⟩ (h_X3_no g ad σ (-1) h8) (cwV 1 hts gX3_heard_X3_no rfl rfl rfl (by decide +kernel) ⟨Nat.le_of_ble_eq_true rfl, Nat.le_of_ble_eq_true rfl⟩) ⟨RW_blind, va_recv hK hP (ci := 3) (q0 := 0) rfl rfl, fun U hU hW => ⟨rfl, by rw [hU]; exact hPc, va_K.moved hW.alike hK, hE.call hW hU hS (fun _ h => h), hDc⟩⟩ rfl rfl hl.1 rfl (lv_room (Nat.le_of_ble_eq_true rfl)) dX3_heard_14 ⟨Nat.le_of_ble_eq_true rfl, Nat.le_of_ble_eq_true rfl⟩) hS (fun _ h => h) (fun r u H1 locs hw hP1 hk hS => ?_)
    obtain ⟨hw1, hw⟩ := hw; subst r; subst u
    have hP := hP1
    generalize H1 = H at hP hS ⊢
    have hP : va_P (gD g) vwCl (wM g ad ((mS σ), (mT σ), (mK σ), (mF σ), (mRow σ), (mRowMany σ), (mLots σ), (refuX (mRefused σ) ((-1) : Int32)))) H := hP
    have hD : va_D (AD ad 0 21) (wM g ad ((mS σ), (mT σ), (mK σ), (mF σ), (mRow σ), (mRowMany σ), (mLots σ), (refuX (mRefused σ) ((-1) : Int32)))) := hD.addr (by rfl)
    exact W.iret (v := (((-1) : Int32))) hx hb hr (fun t ht hW => ⟨⟨(((-1) : Int32)), ((mS σ), (mT σ), (mK σ), (mF σ), (mRow σ), (mRowMany σ), (mLots σ), (refuX (mRefused σ) ((-1) : Int32))), rfl, hv, P_at ht hP⟩, hS.F ht⟩) hS.2.2 dX3_heard_17
  · have hv := hv.2 c1
    refine lv_iload_n hx hb dX3_heard_4 rfl (lv_at hl 1 rfl) ?_
    refine lv_aload_n hx hb dX3_heard_5 rfl (lv_at hl 0 rfl) ?_
    refine va_get (D := gD g) (ci := 3) (v := .int (sNh (mS σ))) (C := RX3) (T := TX3) (N := 33) hx hb hts hi3 hown hK hP 0 rfl rfl 14 (by decide) k0 (fun _ h9 => h9) rfl dX3_heard_6 ?_
    refine lv_icmp_lt (tgt := 18) hx hb dX3_heard_9 (by decide) (fun c9 => ?_) (fun c9 => ?_)
    · have hv := hv.1 c9
      refine lv_iload_n hx hb dX3_heard_18 rfl (lv_at hl 2 rfl) ?_
      by_cases d19_0 : p1 = 0
      · have hv := hv.1 d19_0
        refine lv_tableIn (off := 29) (tgt := 48) hx hb dX3_heard_19 (by rw [d19_0]; decide) (by rw [d19_0]; decide) (by rw [d19_0]; rfl) (by decide) ?_
        refine lv_aload_n hx hb dX3_heard_48 rfl (lv_at hl 0 rfl) ?_
        refine va_get (D := gD g) (ci := 3) (v := .ref (ad 8)) (C := RX3) (T := TX3) (N := 33) hx hb hts hi3 hown hK hP 0 rfl rfl 7 (by decide) k1 (fun _ h9 => h9) rfl dX3_heard_49 ?_
        refine lv_iload_n hx hb dX3_heard_52 rfl (lv_at hl 1 rfl) ?_
        have h9 := hv.1
        have hv := hv.2
        refine va_iald (f := (sWhom (mS σ))) (n := 12) hx hb hK hP 8 0 rfl rfl h9 dX3_heard_53 ?_
        exact W.iret (v := ((sWhom (mS σ)) (p0).toNatClampNeg)) hx hb hr (fun t ht hW => ⟨⟨((sWhom (mS σ)) (p0).toNatClampNeg), σ, rfl, hv, P_at ht hP⟩, hS.F ht⟩) hS.2.2 dX3_heard_54
      · have hv := hv.2 d19_0
        by_cases d19_1 : p1 = 1
        · have hv := hv.1 d19_1
          refine lv_tableIn (off := 36) (tgt := 55) hx hb dX3_heard_19 (by rw [d19_1]; decide) (by rw [d19_1]; decide) (by rw [d19_1]; rfl) (by decide) ?_
          refine lv_aload_n hx hb dX3_heard_55 rfl (lv_at hl 0 rfl) ?_
          refine va_get (D := gD g) (ci := 3) (v := .ref (ad 9)) (C := RX3) (T := TX3) (N := 33) hx hb hts hi3 hown hK hP 0 rfl rfl 8 (by decide) k2 (fun _ h9 => h9) rfl dX3_heard_56 ?_
          refine lv_iload_n hx hb dX3_heard_59 rfl (lv_at hl 1 rfl) ?_
          have h9 := hv.1
          have hv := hv.2
          refine va_iald (f := (sWhat (mS σ))) (n := 12) hx hb hK hP 9 0 rfl rfl h9 dX3_heard_60 ?_
          exact W.iret (v := ((sWhat (mS σ)) (p0).toNatClampNeg)) hx hb hr (fun t ht hW => ⟨⟨((sWhat (mS σ)) (p0).toNatClampNeg), σ, rfl, hv, P_at ht hP⟩, hS.F ht⟩) hS.2.2 dX3_heard_61
        · have hv := hv.2 d19_1
          by_cases d19_2 : p1 = 2
          · have hv := hv.1 d19_2
            refine lv_tableIn (off := 43) (tgt := 62) hx hb dX3_heard_19 (by rw [d19_2]; decide) (by rw [d19_2]; decide) (by rw [d19_2]; rfl) (by decide) ?_
            refine lv_aload_n hx hb dX3_heard_62 rfl (lv_at hl 0 rfl) ?_
            refine va_get (D := gD g) (ci := 3) (v := .ref (ad 10)) (C := RX3) (T := TX3) (N := 33) hx hb hts hi3 hown hK hP 0 rfl rfl 9 (by decide) k3 (fun _ h9 => h9) rfl dX3_heard_63 ?_
            refine lv_iload_n hx hb dX3_heard_66 rfl (lv_at hl 1 rfl) ?_
            have h9 := hv.1
            have hv := hv.2
            refine va_iald (f := (sSaid (mS σ))) (n := 12) hx hb hK hP 10 0 rfl rfl h9 dX3_heard_67 ?_
            exact W.iret (v := ((sSaid (mS σ)) (p0).toNatClampNeg)) hx hb hr (fun t ht hW => ⟨⟨((sSaid (mS σ)) (p0).toNatClampNeg), σ, rfl, hv, P_at ht hP⟩, hS.F ht⟩) hS.2.2 dX3_heard_68
          · have hv := hv.2 d19_2
            by_cases d19_3 : p1 = 3
            · have hv := hv.1 d19_3
              refine lv_tableIn (off := 50) (tgt := 69) hx hb dX3_heard_19 (by rw [d19_3]; decide) (by rw [d19_3]; decide) (by rw [d19_3]; rfl) (by decide) ?_
              refine lv_aload_n hx hb dX3_heard_69 rfl (lv_at hl 0 rfl) ?_
              refine va_get (D := gD g) (ci := 3) (v := .ref (ad 11)) (C := RX3) (T := TX3) (N := 33) hx hb hts hi3 hown hK hP 0 rfl rfl 10 (by decide) k4 (fun _ h9 => h9) rfl dX3_heard_70 ?_
              refine lv_iload_n hx hb dX3_heard_73 rfl (lv_at hl 1 rfl) ?_
              have h9 := hv.1
              have hv := hv.2
              refine va_iald (f := (sWhen (mS σ))) (n := 12) hx hb hK hP 11 0 rfl rfl h9 dX3_heard_74 ?_
              exact W.iret (v := ((sWhen (mS σ)) (p0).toNatClampNeg)) hx hb hr (fun t ht hW => ⟨⟨((sWhen (mS σ)) (p0).toNatClampNeg), σ, rfl, hv, P_at ht hP⟩, hS.F ht⟩) hS.2.2 dX3_heard_75
            · have hv := hv.2 d19_3
              refine lv_tableOut (tgt := 76) hx hb dX3_heard_19 (by have n0 := lv_neT (a := 0) d19_0 (by decide); have n1 := lv_neT (a := 1) d19_1 (by decide); have n2 := lv_neT (a := 2) d19_2 (by decide); have n3 := lv_neT (a := 3) d19_3 (by decide); omega) (by decide) ?_
              refine lv_aload_n hx hb dX3_heard_76 rfl (lv_at hl 0 rfl) ?_
              refine lv_bipush (v := (-2)) hx hb dX3_heard_77 (by decide) ?_
              have h8 := hv.1
              have hv := hv.2
              have hPc := hP
              have hDc := hD
              refine rw_int (va_runV (As := [.int (-2)]) (rest := []) ⟨hx, hb, hml, hown, hts⟩ (h_X3_no g ad σ (-2) h8) (cwV 1 hts gX3_heard_X3_no rfl rfl rfl (by decide +kernel) ⟨Nat.le_of_ble_eq_true rfl, Nat.le_of_ble_eq_true rfl⟩) ⟨RW_blind, va_recv hK hP (ci := 3) (q0 := 0) rfl rfl, fun U hU hW => ⟨rfl, by rw [hU]; exact hPc, va_K.moved hW.alike hK, hE.call hW hU hS (fun _ h => h), hDc⟩⟩ rfl rfl hl.1 rfl (lv_room (Nat.le_of_ble_eq_true rfl)) dX3_heard_79 ⟨Nat.le_of_ble_eq_true rfl, Nat.le_of_ble_eq_true rfl⟩) hS (fun _ h => h) (fun r u H1 locs hw hP1 hk hS => ?_)
              obtain ⟨hw1, hw⟩ := hw; subst r; subst u
              have hP := hP1
              generalize H1 = H at hP hS ⊢
              have hP : va_P (gD g) vwCl (wM g ad ((mS σ), (mT σ), (mK σ), (mF σ), (mRow σ), (mRowMany σ), (mLots σ), (refuX (mRefused σ) ((-2) : Int32)))) H := hP
              have hD : va_D (AD ad 0 21) (wM g ad ((mS σ), (mT σ), (mK σ), (mF σ), (mRow σ), (mRowMany σ), (mLots σ), (refuX (mRefused σ) ((-2) : Int32)))) := hD.addr (by rfl)
              exact W.iret (v := (((-2) : Int32))) hx hb hr (fun t ht hW => ⟨⟨(((-2) : Int32)), ((mS σ), (mT σ), (mK σ), (mF σ), (mRow σ), (mRowMany σ), (mLots σ), (refuX (mRefused σ) ((-2) : Int32))), rfl, hv, P_at ht hP⟩, hS.F ht⟩) hS.2.2 dX3_heard_82
    · have hv := hv.2 c9
      refine lv_aload_n hx hb dX3_heard_12 rfl (lv_at hl 0 rfl) ?_
      refine lv_iconst (v := (-1)) hx hb dX3_heard_13 (by decide) ?_
      have h8 := hv.1
      have hv := hv.2
      have hPc := hP
      have hDc := hD
      refine rw_int (va_runV (As := [.int (-1)]) (rest := []) ⟨hx, hb, hml, hown, hts⟩ (h_X3_no g ad σ (-1) h8) (cwV 1 hts gX3_heard_X3_no rfl rfl rfl (by decide +kernel) ⟨Nat.le_of_ble_eq_true rfl, Nat.le_of_ble_eq_true rfl⟩) ⟨RW_blind, va_recv hK hP (ci := 3) (q0 := 0) rfl rfl, fun U hU hW => ⟨rfl, by rw [hU]; exact hPc, va_K.moved hW.alike hK, hE.call hW hU hS (fun _ h => h), hDc⟩⟩ rfl rfl hl.1 rfl (lv_room (Nat.le_of_ble_eq_true rfl)) dX3_heard_14 ⟨Nat.le_of_ble_eq_true rfl, Nat.le_of_ble_eq_true rfl⟩) hS (fun _ h => h) (fun r u H1 locs hw hP1 hk hS => ?_)
      obtain ⟨hw1, hw⟩ := hw; subst r; subst u
      have hP := hP1
      generalize H1 = H at hP hS ⊢
      have hP : va_P (gD g) vwCl (wM g ad ((mS σ), (mT σ), (mK σ), (mF σ), (mRow σ), (mRowMany σ), (mLots σ), (refuX (mRefused σ) ((-1) : Int32)))) H := hP
      have hD : va_D (AD ad 0 21) (wM g ad ((mS σ), (mT σ), (mK σ), (mF σ), (mRow σ), (mRowMany σ), (mLots σ), (refuX (mRefused σ) ((-1) : Int32)))) := hD.addr (by rfl)
      exact W.iret (v := (((-1) : Int32))) hx hb hr (fun t ht hW => ⟨⟨(((-1) : Int32)), ((mS σ), (mT σ), (mK σ), (mF σ), (mRow σ), (mRowMany σ), (mLots σ), (refuX (mRefused σ) ((-1) : Int32))), rfl, hv, P_at ht hP⟩, hS.F ht⟩) hS.2.2 dX3_heard_17

set_option maxHeartbeats 4000000 in
set_option maxRecDepth 100000 in
theorem m_X3_sets (l : Launch) (h_X3_bound : C_X3_bound l) (h_X3_no : C_X3_no l) (g : CX) (ad : Nat → Nat) (σ : KM) (p0 : Int32) (Post : Int32 → KM → Prop) (hv : vc_X3_sets σ p0 Post) : Met l yX3_sets wsX3_sets { frames := 1, cells := 0, slots := 0, locals := 22 } (va_Pc [.ref (ad 0), .int p0] (RW g (AD ad 0 21) (wM g ad σ))) (va_Qi (fun (r : Int32) (u : KM) => Post r u) (fun u t => va_P (gD g) vwCl (wM g ad u) t.heap) (AD ad 0 21)) 0 0 (AD ad 0 21) := by
  unfold vc_X3_sets at hv
  refine Met.ofW (cc := cX3_sets) (maxL := 4) (ret := (some .int)) (by decide) rfl ?_
  intro p e s m args below meth c s₁ B hml hv0
  obtain ⟨rfl, hP, hK, hE, hD⟩ := hv0
  have hx := B.exec
  have hb := B.bytes
  have hr := B.returns
  have hts := atoms_spec (ws := wsX3_sets) B.pre
  have hown : s.vm.findClass RX3 = some m.cls := findClass_of_methodNamed B.named
  have hlocks := B.notSynchronized
  have hi3 : ∀ w ∈ wsX30, w ∈ wsX3_sets := by decide +kernel
  have k0 := hts (.fieldLink RX3 134 "JuryHearsAnswersModel" "theCase" "I") (by decide +kernel)
  have hS : va_S (AD ad 0 21) s.heap s.heap [] := va_S.rf
  have hP : va_P (gD g) vwCl (wM g ad σ) s.heap := hP
  have hl := lv_entry ([.ref (ad 0), .int p0]) (n := 4) (Nat.le_of_ble_eq_true rfl)
  rw [lg_entry_eq]
  generalize (lg_sl ([.ref (ad 0), .int p0]) ++ List.replicate (4 - (lg_sl ([.ref (ad 0), .int p0])).length) Slot.unset).toArray = ls at hl ⊢
  have hl : lv_has ls 4 [(0, .ref (ad 0)), (1, .int p0)] := hl
  obtain ⟨H, hH⟩ : ∃ z, z = s.heap := ⟨_, rfl⟩
  obtain ⟨locs, hL⟩ : ∃ z : List Loc, z = [] := ⟨_, rfl⟩
  rw [← hL] at hS ⊢
  have hS : va_S (AD ad 0 21) s.heap H locs := by rw [hH]; exact hS
  rw [← hH] at hP ⊢
  clear hH hL
  refine lv_iload_n hx hb dX3_sets_0 rfl (lv_at hl 1 rfl) ?_
  refine lv_iconst (v := 0) hx hb dX3_sets_1 (by decide) ?_
  refine lv_bipush (v := 63) hx hb dX3_sets_2 (by decide) ?_
  have hPc : va_P (gD g) vwCl [] H := fun k q h => by simp at h
  refine ro_int (va_runS (As := [.int p0, .int 0, .int 63]) (rest := []) ⟨hx, hb, hml, hown, hts⟩ (h_X3_bound g p0 0 63) (va_cwS 3 hts gX3_sets_X3_bound rfl rfl rfl (by decide +kernel) ⟨Nat.le_of_ble_eq_true rfl, Nat.le_of_ble_eq_true rfl⟩) ⟨RO_blind, fun U hU hW => ⟨rfl, by rw [hU]; exact hPc, va_K.moved hW.alike hK, hE.call hW hU hS (fun _ h => h.elim)⟩⟩ rfl rfl hl.1 rfl (lv_room (Nat.le_of_ble_eq_true rfl)) dX3_sets_4 ⟨Nat.le_of_ble_eq_true rfl, Nat.le_of_ble_eq_true rfl⟩) hS hP (fun r H locs hw hP hS => ?_)
  subst r
  refine lv_istore_n (lv' := [(2, .int (boundI p0 (0 : Int32) (63 : Int32))), (0, .ref (ad 0)), (1, .int p0)]) hx hb dX3_sets_7 rfl hl (by decide) rfl (fun ls hl => ?_)
  refine lv_iload_n hx hb dX3_sets_8 rfl (lv_at hl 0 rfl) ?_
  refine lv_if_eq (tgt := 18) hx hb dX3_sets_9 (by decide) (fun c9 => ?_) (fun c9 => ?_)
  · have hv := hv.1 c9
    refine lv_aload_n hx hb dX3_sets_18 rfl (lv_at hl 1 rfl) ?_
    refine va_get (D := gD g) (ci := 3) (v := .int (sCase (mS σ))) (C := RX3) (T := TX3) (N := 33) hx hb hts hi3 hown hK hP 0 rfl rfl 11 (by decide) k0 (fun _ h9 => h9) rfl dX3_sets_19 ?_
    refine lv_istore_n (lv' := [(3, .int (sCase (mS σ))), (2, .int (boundI p0 (0 : Int32) (63 : Int32))), (0, .ref (ad 0)), (1, .int p0)]) hx hb dX3_sets_22 rfl hl (by decide) rfl (fun ls hl => ?_)
    refine lv_aload_n hx hb dX3_sets_23 rfl (lv_at hl 2 rfl) ?_
    refine lv_iload_n hx hb dX3_sets_24 rfl (lv_at hl 3 rfl) ?_
    refine va_put (D := gD g) (ci := 3) (v := .int p0) (ty := .int) (C := RX3) (T := TX3) (N := 33) hx hb hts hi3 tyX3 tyX3_ok nmX3 hown hK hP hD hS 0 rfl rfl 11 (by decide) k0 (fun _ h9 => h9) rfl (by decide +kernel) rfl rfl (Nat.le_of_ble_eq_true rfl) dX3_sets_25 (fun H locs hP hD hS => ?_)
    have hP : va_P (gD g) vwCl (wM g ad ((p0, (sAsked (mS σ)), (sNq (mS σ)), (sNw (mS σ)), (sNh (mS σ)), (sForm (mS σ)), (sFirst (mS σ)), (sSecond (mS σ)), (sKind (mS σ)), (sFigure (mS σ)), (sKnows (mS σ)), (sWhom (mS σ)), (sWhat (mS σ)), (sSaid (mS σ)), (sWhen (mS σ))), (mT σ), (mK σ), (mF σ), (mRow σ), (mRowMany σ), (mLots σ), (mRefused σ))) H := hP
    have hD : va_D (AD ad 0 21) (wM g ad ((p0, (sAsked (mS σ)), (sNq (mS σ)), (sNw (mS σ)), (sNh (mS σ)), (sForm (mS σ)), (sFirst (mS σ)), (sSecond (mS σ)), (sKind (mS σ)), (sFigure (mS σ)), (sKnows (mS σ)), (sWhom (mS σ)), (sWhat (mS σ)), (sSaid (mS σ)), (sWhen (mS σ))), (mT σ), (mK σ), (mF σ), (mRow σ), (mRowMany σ), (mLots σ), (mRefused σ))) := hD
    refine lv_iload_n hx hb dX3_sets_28 rfl (lv_at hl 0 rfl) ?_
    exact W.iret (v := (sCase (mS σ))) hx hb hr (fun t ht hW => ⟨⟨(sCase (mS σ)), ((p0, (sAsked (mS σ)), (sNq (mS σ)), (sNw (mS σ)), (sNh (mS σ)), (sForm (mS σ)), (sFirst (mS σ)), (sSecond (mS σ)), (sKind (mS σ)), (sFigure (mS σ)), (sKnows (mS σ)), (sWhom (mS σ)), (sWhat (mS σ)), (sSaid (mS σ)), (sWhen (mS σ))), (mT σ), (mK σ), (mF σ), (mRow σ), (mRowMany σ), (mLots σ), (mRefused σ)), rfl, hv, P_at ht hP⟩, hS.F ht⟩) hS.2.2 dX3_sets_29
  · have hv := hv.2 c9
    refine lv_aload_n hx hb dX3_sets_12 rfl (lv_at hl 1 rfl) ?_
    refine lv_iload_n hx hb dX3_sets_13 rfl (lv_at hl 0 rfl) ?_
    have h8 := hv.1
    have hv := hv.2
    have hPc := hP
    have hDc := hD
    refine rw_int (va_runV (As := [.int (boundI p0 (0 : Int32) (63 : Int32))]) (rest := []) ⟨hx, hb, hml, hown, hts⟩ (h_X3_no g ad σ (boundI p0 (0 : Int32) (63 : Int32)) h8) (cwV 1 hts gX3_sets_X3_no rfl rfl rfl (by decide +kernel) ⟨Nat.le_of_ble_eq_true rfl, Nat.le_of_ble_eq_true rfl⟩) ⟨RW_blind, va_recv hK hP (ci := 3) (q0 := 0) rfl rfl, fun U hU hW => ⟨rfl, by rw [hU]; exact hPc, va_K.moved hW.alike hK, hE.call hW hU hS (fun _ h => h), hDc⟩⟩ rfl rfl hl.1 rfl (lv_room (Nat.le_of_ble_eq_true rfl)) dX3_sets_14 ⟨Nat.le_of_ble_eq_true rfl, Nat.le_of_ble_eq_true rfl⟩) hS (fun _ h => h) (fun r u H1 locs hw hP1 hk hS => ?_)
    obtain ⟨hw1, hw⟩ := hw; subst r; subst u
    have hP := hP1
    generalize H1 = H at hP hS ⊢
    have hP : va_P (gD g) vwCl (wM g ad ((mS σ), (mT σ), (mK σ), (mF σ), (mRow σ), (mRowMany σ), (mLots σ), (refuX (mRefused σ) (boundI p0 (0 : Int32) (63 : Int32))))) H := hP
    have hD : va_D (AD ad 0 21) (wM g ad ((mS σ), (mT σ), (mK σ), (mF σ), (mRow σ), (mRowMany σ), (mLots σ), (refuX (mRefused σ) (boundI p0 (0 : Int32) (63 : Int32))))) := hD.addr (by rfl)
    exact W.iret (v := ((boundI p0 (0 : Int32) (63 : Int32)))) hx hb hr (fun t ht hW => ⟨⟨((boundI p0 (0 : Int32) (63 : Int32))), ((mS σ), (mT σ), (mK σ), (mF σ), (mRow σ), (mRowMany σ), (mLots σ), (refuX (mRefused σ) (boundI p0 (0 : Int32) (63 : Int32)))), rfl, hv, P_at ht hP⟩, hS.F ht⟩) hS.2.2 dX3_sets_17

