set_option maxHeartbeats 4000000 in
set_option maxRecDepth 100000 in
theorem m_X3_readsAll (l : Launch) (h_X3_readsDigits : C_X3_readsDigits l) (h_X3_readsWitness : C_X3_readsWitness l) (g : CX) (ad : Nat → Nat) (σ : KM) (p0 : Int32) (p1 : Int32) (Post : Int32 → KM → Prop) (hv : vc_X3_readsAll σ p0 p1 Post) : Met l yX3_readsAll wsX3_readsAll { frames := 3, cells := 0, slots := 0, locals := 67 } (va_Pc [.ref (ad 0), .int p0, .int p1] (RW g (AD ad 0 21) (wM g ad σ))) (va_Qi (fun (r : Int32) (u : KM) => Post r u) (fun u t => va_P (gD g) vwCl (wM g ad u) t.heap) (AD ad 0 21)) 0 0 (AD ad 0 21) := by
  unfold vc_X3_readsAll at hv
  refine Met.ofW (cc := cX3_readsAll) (maxL := 3) (ret := (some .boolean)) (by decide) rfl ?_
  intro p e s m args below meth c s₁ B hml hv0
  obtain ⟨rfl, hP, hK, hE, hD⟩ := hv0
  have hx := B.exec
  have hb := B.bytes
  have hr := B.returns
  have hts := atoms_spec (ws := wsX3_readsAll) B.pre
  have hown : s.vm.findClass RX3 = some m.cls := findClass_of_methodNamed B.named
  have hlocks := B.notSynchronized
  have hS : va_S (AD ad 0 21) s.heap s.heap [] := va_S.rf
  have hP : va_P (gD g) vwCl (wM g ad σ) s.heap := hP
  have hl := lv_entry ([.ref (ad 0), .int p0, .int p1]) (n := 3) (Nat.le_of_ble_eq_true rfl)
  rw [lg_entry_eq]
  generalize (lg_sl ([.ref (ad 0), .int p0, .int p1]) ++ List.replicate (3 - (lg_sl ([.ref (ad 0), .int p0, .int p1])).length) Slot.unset).toArray = ls at hl ⊢
  have hl : lv_has ls 3 [(0, .ref (ad 0)), (1, .int p0), (2, .int p1)] := hl
  obtain ⟨H, hH⟩ : ∃ z, z = s.heap := ⟨_, rfl⟩
  obtain ⟨locs, hL⟩ : ∃ z : List Loc, z = [] := ⟨_, rfl⟩
  rw [← hL] at hS ⊢
  have hS : va_S (AD ad 0 21) s.heap H locs := by rw [hH]; exact hS
  rw [← hH] at hP ⊢
  clear hH hL
  refine lv_iload_n hx hb dX3_readsAll_0 rfl (lv_at hl 1 rfl) ?_
  by_cases d1_102 : p0 = 102
  · have hv := hv.1 d1_102
    refine lv_lookup (off := 43) (tgt := 44) hx hb dX3_readsAll_1 (by decide +kernel) (by rw [d1_102]; decide +kernel) (by decide) ?_
    refine lv_aload_n hx hb dX3_readsAll_44 rfl (lv_at hl 0 rfl) ?_
    refine lv_iload_n hx hb dX3_readsAll_45 rfl (lv_at hl 2 rfl) ?_
    refine lv_iconst (v := 1) hx hb dX3_readsAll_46 (by decide) ?_
    have h8 := hv.1
    have hv := hv.2
    have hPc := hP
    have hDc := hD
    refine rw_int (va_runV (As := [.int p1, .int 1]) (rest := []) ⟨hx, hb, hml, hown, hts⟩ (h_X3_readsDigits g ad σ p1 1 h8) (cwV 2 hts gX3_readsAll_X3_readsDigits rfl rfl rfl (by decide +kernel) ⟨Nat.le_of_ble_eq_true rfl, Nat.le_of_ble_eq_true rfl⟩) ⟨RW_blind, va_recv hK hP (ci := 3) (q0 := 0) rfl rfl, fun U hU hW => ⟨rfl, by rw [hU]; exact hPc, va_K.moved hW.alike hK, hE.call hW hU hS (fun _ h => h), hDc⟩⟩ rfl rfl hl.1 rfl (lv_room (Nat.le_of_ble_eq_true rfl)) dX3_readsAll_47 ⟨Nat.le_of_ble_eq_true rfl, Nat.le_of_ble_eq_true rfl⟩) hS (fun _ h => h) (fun r u47 H1 locs hw hP1 hk hS => ?_)
    obtain ⟨hw1, hw⟩ := hw; subst r
    have hv := hv u47 hw
    have hP := hP1
    generalize H1 = H at hP hS ⊢
    have hP : va_P (gD g) vwCl (wM g ad u47) H := hP
    have hD : va_D (AD ad 0 21) (wM g ad u47) := hD.addr (by rfl)
    have hn := hv.1
    have hv := hv.2
    exact W.zret (v := ((rdD (mT σ) p1 (1 : Int32)).1)) hx hb hr hn (fun t ht hW => ⟨⟨((rdD (mT σ) p1 (1 : Int32)).1), u47, rfl, hv, P_at ht hP⟩, hS.F ht⟩) hS.2.2 dX3_readsAll_50
  · have hv := hv.2 d1_102
    by_cases d1_110 : p0 = 110
    · have hv := hv.1 d1_110
      refine lv_lookup (off := 93) (tgt := 94) hx hb dX3_readsAll_1 (by decide +kernel) (by rw [d1_110]; decide +kernel) (by decide) ?_
      refine lv_iconst (v := 1) hx hb dX3_readsAll_94 (by decide) ?_
      exact W.zret (v := 1) hx hb hr rfl (fun t ht hW => ⟨⟨1, σ, rfl, hv, P_at ht hP⟩, hS.F ht⟩) hS.2.2 dX3_readsAll_95
    · have hv := hv.2 d1_110
      by_cases d1_113 : p0 = 113
      · have hv := hv.1 d1_113
        refine lv_lookup (off := 50) (tgt := 51) hx hb dX3_readsAll_1 (by decide +kernel) (by rw [d1_113]; decide +kernel) (by decide) ?_
        refine lv_aload_n hx hb dX3_readsAll_51 rfl (lv_at hl 0 rfl) ?_
        refine lv_iload_n hx hb dX3_readsAll_52 rfl (lv_at hl 2 rfl) ?_
        refine lv_iconst (v := 1) hx hb dX3_readsAll_53 (by decide) ?_
        have h8 := hv.1
        have hv := hv.2
        have hPc := hP
        have hDc := hD
        refine rw_int (va_runV (As := [.int p1, .int 1]) (rest := []) ⟨hx, hb, hml, hown, hts⟩ (h_X3_readsDigits g ad σ p1 1 h8) (cwV 2 hts gX3_readsAll_X3_readsDigits rfl rfl rfl (by decide +kernel) ⟨Nat.le_of_ble_eq_true rfl, Nat.le_of_ble_eq_true rfl⟩) ⟨RW_blind, va_recv hK hP (ci := 3) (q0 := 0) rfl rfl, fun U hU hW => ⟨rfl, by rw [hU]; exact hPc, va_K.moved hW.alike hK, hE.call hW hU hS (fun _ h => h), hDc⟩⟩ rfl rfl hl.1 rfl (lv_room (Nat.le_of_ble_eq_true rfl)) dX3_readsAll_54 ⟨Nat.le_of_ble_eq_true rfl, Nat.le_of_ble_eq_true rfl⟩) hS (fun _ h => h) (fun r u54 H1 locs hw hP1 hk hS => ?_)
        obtain ⟨hw1, hw⟩ := hw; subst r
        have hv := hv u54 hw
        have hP := hP1
        generalize H1 = H at hP hS ⊢
        have hP : va_P (gD g) vwCl (wM g ad u54) H := hP
        have hD : va_D (AD ad 0 21) (wM g ad u54) := hD.addr (by rfl)
        refine lv_if_eq (tgt := 86) hx hb dX3_readsAll_57 (by decide) (fun c57 => ?_) (fun c57 => ?_)
        · have hv := hv.1 c57
          refine lv_iconst (v := 0) hx hb dX3_readsAll_86 (by decide) ?_
          exact W.zret (v := 0) hx hb hr rfl (fun t ht hW => ⟨⟨0, u54, rfl, hv, P_at ht hP⟩, hS.F ht⟩) hS.2.2 dX3_readsAll_87
        · have hv := hv.2 c57
          refine lv_aload_n hx hb dX3_readsAll_60 rfl (lv_at hl 0 rfl) ?_
          refine lv_iload_n hx hb dX3_readsAll_61 rfl (lv_at hl 2 rfl) ?_
          refine lv_iconst (v := 1) hx hb dX3_readsAll_62 (by decide) ?_
          refine lv_iadd hx hb dX3_readsAll_63 ?_
          refine lv_iconst (v := 1) hx hb dX3_readsAll_64 (by decide) ?_
          have h8 := hv.1
          have hv := hv.2
          have hPc := hP
          have hDc := hD
          refine rw_int (va_runV (As := [.int (p1 + 1), .int 1]) (rest := []) ⟨hx, hb, hml, hown, hts⟩ (h_X3_readsDigits g ad u54 (p1 + 1) 1 h8) (cwV 2 hts gX3_readsAll_X3_readsDigits rfl rfl rfl (by decide +kernel) ⟨Nat.le_of_ble_eq_true rfl, Nat.le_of_ble_eq_true rfl⟩) ⟨RW_blind, va_recv hK hP (ci := 3) (q0 := 0) rfl rfl, fun U hU hW => ⟨rfl, by rw [hU]; exact hPc, va_K.moved hW.alike hK, hE.call hW hU hS (fun _ h => h), hDc⟩⟩ rfl rfl hl.1 rfl (lv_room (Nat.le_of_ble_eq_true rfl)) dX3_readsAll_65 ⟨Nat.le_of_ble_eq_true rfl, Nat.le_of_ble_eq_true rfl⟩) hS (fun _ h => h) (fun r u65 H1 locs hw hP1 hk hS => ?_)
          obtain ⟨hw1, hw⟩ := hw; subst r
          have hv := hv u65 hw
          have hP := hP1
          generalize H1 = H at hP hS ⊢
          have hP : va_P (gD g) vwCl (wM g ad u65) H := hP
          have hD : va_D (AD ad 0 21) (wM g ad u65) := hD.addr (by rfl)
          refine lv_if_eq (tgt := 86) hx hb dX3_readsAll_68 (by decide) (fun c68 => ?_) (fun c68 => ?_)
          · have hv := hv.1 c68
            refine lv_iconst (v := 0) hx hb dX3_readsAll_86 (by decide) ?_
            exact W.zret (v := 0) hx hb hr rfl (fun t ht hW => ⟨⟨0, u65, rfl, hv, P_at ht hP⟩, hS.F ht⟩) hS.2.2 dX3_readsAll_87
          · have hv := hv.2 c68
            refine lv_aload_n hx hb dX3_readsAll_71 rfl (lv_at hl 0 rfl) ?_
            refine lv_iload_n hx hb dX3_readsAll_72 rfl (lv_at hl 2 rfl) ?_
            refine lv_iconst (v := 2) hx hb dX3_readsAll_73 (by decide) ?_
            refine lv_iadd hx hb dX3_readsAll_74 ?_
            refine lv_iconst (v := 1) hx hb dX3_readsAll_75 (by decide) ?_
            have h8 := hv.1
            have hv := hv.2
            have hPc := hP
            have hDc := hD
            refine rw_int (va_runV (As := [.int (p1 + 2), .int 1]) (rest := []) ⟨hx, hb, hml, hown, hts⟩ (h_X3_readsDigits g ad u65 (p1 + 2) 1 h8) (cwV 2 hts gX3_readsAll_X3_readsDigits rfl rfl rfl (by decide +kernel) ⟨Nat.le_of_ble_eq_true rfl, Nat.le_of_ble_eq_true rfl⟩) ⟨RW_blind, va_recv hK hP (ci := 3) (q0 := 0) rfl rfl, fun U hU hW => ⟨rfl, by rw [hU]; exact hPc, va_K.moved hW.alike hK, hE.call hW hU hS (fun _ h => h), hDc⟩⟩ rfl rfl hl.1 rfl (lv_room (Nat.le_of_ble_eq_true rfl)) dX3_readsAll_76 ⟨Nat.le_of_ble_eq_true rfl, Nat.le_of_ble_eq_true rfl⟩) hS (fun _ h => h) (fun r u76 H1 locs hw hP1 hk hS => ?_)
            obtain ⟨hw1, hw⟩ := hw; subst r
            have hv := hv u76 hw
            have hP := hP1
            generalize H1 = H at hP hS ⊢
            have hP : va_P (gD g) vwCl (wM g ad u76) H := hP
            have hD : va_D (AD ad 0 21) (wM g ad u76) := hD.addr (by rfl)
            refine lv_if_eq (tgt := 86) hx hb dX3_readsAll_79 (by decide) (fun c79 => ?_) (fun c79 => ?_)
            · have hv := hv.1 c79
              refine lv_iconst (v := 0) hx hb dX3_readsAll_86 (by decide) ?_
              exact W.zret (v := 0) hx hb hr rfl (fun t ht hW => ⟨⟨0, u76, rfl, hv, P_at ht hP⟩, hS.F ht⟩) hS.2.2 dX3_readsAll_87
            · have hv := hv.2 c79
              refine lv_iconst (v := 1) hx hb dX3_readsAll_82 (by decide) ?_
              refine lv_goto (tgt := 87) hx hb dX3_readsAll_83 (by decide) ?_
              exact W.zret (v := 1) hx hb hr rfl (fun t ht hW => ⟨⟨1, u76, rfl, hv, P_at ht hP⟩, hS.F ht⟩) hS.2.2 dX3_readsAll_87
      · have hv := hv.2 d1_113
        by_cases d1_119 : p0 = 119
        · have hv := hv.1 d1_119
          refine lv_lookup (off := 87) (tgt := 88) hx hb dX3_readsAll_1 (by decide +kernel) (by rw [d1_119]; decide +kernel) (by decide) ?_
          refine lv_aload_n hx hb dX3_readsAll_88 rfl (lv_at hl 0 rfl) ?_
          refine lv_iload_n hx hb dX3_readsAll_89 rfl (lv_at hl 2 rfl) ?_
          have h8 := hv.1
          have hv := hv.2
          have hPc := hP
          have hDc := hD
          refine rw_int (va_runV (As := [.int p1]) (rest := []) ⟨hx, hb, hml, hown, hts⟩ (h_X3_readsWitness g ad σ p1 h8) (cwV 1 hts gX3_readsAll_X3_readsWitness rfl rfl rfl (by decide +kernel) ⟨Nat.le_of_ble_eq_true rfl, Nat.le_of_ble_eq_true rfl⟩) ⟨RW_blind, va_recv hK hP (ci := 3) (q0 := 0) rfl rfl, fun U hU hW => ⟨rfl, by rw [hU]; exact hPc, va_K.moved hW.alike hK, hE.call hW hU hS (fun _ h => h), hDc⟩⟩ rfl rfl hl.1 rfl (lv_room (Nat.le_of_ble_eq_true rfl)) dX3_readsAll_90 ⟨Nat.le_of_ble_eq_true rfl, Nat.le_of_ble_eq_true rfl⟩) hS (fun _ h => h) (fun r u90 H1 locs hw hP1 hk hS => ?_)
          obtain ⟨hw1, hw⟩ := hw; subst r
          have hv := hv u90 hw
          have hP := hP1
          generalize H1 = H at hP hS ⊢
          have hP : va_P (gD g) vwCl (wM g ad u90) H := hP
          have hD : va_D (AD ad 0 21) (wM g ad u90) := hD.addr (by rfl)
          have hn := hv.1
          have hv := hv.2
          exact W.zret (v := ((rdW (mT σ) p1).1)) hx hb hr hn (fun t ht hW => ⟨⟨((rdW (mT σ) p1).1), u90, rfl, hv, P_at ht hP⟩, hS.F ht⟩) hS.2.2 dX3_readsAll_93
        · have hv := hv.2 d1_119
          refine lv_lookup (off := 95) (tgt := 96) hx hb dX3_readsAll_1 (by decide +kernel) (by first | (rw [lv_osw d1_102 (by decide), lv_osw d1_110 (by decide), lv_osw d1_113 (by decide), lv_osw d1_119 (by decide)]; rfl) | (show Op.lookupswitch.offset [(102, 43), (110, 93), (113, 50), (119, 87)] 95 _ = _; rw [lv_osw d1_102 (by decide), lv_osw d1_110 (by decide), lv_osw d1_113 (by decide), lv_osw d1_119 (by decide)]; rfl)) (by decide) ?_
          refine lv_aload_n hx hb dX3_readsAll_96 rfl (lv_at hl 0 rfl) ?_
          refine lv_iload_n hx hb dX3_readsAll_97 rfl (lv_at hl 2 rfl) ?_
          refine lv_iconst (v := 1) hx hb dX3_readsAll_98 (by decide) ?_
          have h8 := hv.1
          have hv := hv.2
          have hPc := hP
          have hDc := hD
          refine rw_int (va_runV (As := [.int p1, .int 1]) (rest := []) ⟨hx, hb, hml, hown, hts⟩ (h_X3_readsDigits g ad σ p1 1 h8) (cwV 2 hts gX3_readsAll_X3_readsDigits rfl rfl rfl (by decide +kernel) ⟨Nat.le_of_ble_eq_true rfl, Nat.le_of_ble_eq_true rfl⟩) ⟨RW_blind, va_recv hK hP (ci := 3) (q0 := 0) rfl rfl, fun U hU hW => ⟨rfl, by rw [hU]; exact hPc, va_K.moved hW.alike hK, hE.call hW hU hS (fun _ h => h), hDc⟩⟩ rfl rfl hl.1 rfl (lv_room (Nat.le_of_ble_eq_true rfl)) dX3_readsAll_99 ⟨Nat.le_of_ble_eq_true rfl, Nat.le_of_ble_eq_true rfl⟩) hS (fun _ h => h) (fun r u99 H1 locs hw hP1 hk hS => ?_)
          obtain ⟨hw1, hw⟩ := hw; subst r
          have hv := hv u99 hw
          have hP := hP1
          generalize H1 = H at hP hS ⊢
          have hP : va_P (gD g) vwCl (wM g ad u99) H := hP
          have hD : va_D (AD ad 0 21) (wM g ad u99) := hD.addr (by rfl)
          refine lv_if_eq (tgt := 120) hx hb dX3_readsAll_102 (by decide) (fun c102 => ?_) (fun c102 => ?_)
          · have hv := hv.1 c102
            refine lv_iconst (v := 0) hx hb dX3_readsAll_120 (by decide) ?_
            exact W.zret (v := 0) hx hb hr rfl (fun t ht hW => ⟨⟨0, u99, rfl, hv, P_at ht hP⟩, hS.F ht⟩) hS.2.2 dX3_readsAll_121
          · have hv := hv.2 c102
            refine lv_aload_n hx hb dX3_readsAll_105 rfl (lv_at hl 0 rfl) ?_
            refine lv_iload_n hx hb dX3_readsAll_106 rfl (lv_at hl 2 rfl) ?_
            refine lv_iconst (v := 1) hx hb dX3_readsAll_107 (by decide) ?_
            refine lv_iadd hx hb dX3_readsAll_108 ?_
            refine lv_iconst (v := 1) hx hb dX3_readsAll_109 (by decide) ?_
            have h8 := hv.1
            have hv := hv.2
            have hPc := hP
            have hDc := hD
            refine rw_int (va_runV (As := [.int (p1 + 1), .int 1]) (rest := []) ⟨hx, hb, hml, hown, hts⟩ (h_X3_readsDigits g ad u99 (p1 + 1) 1 h8) (cwV 2 hts gX3_readsAll_X3_readsDigits rfl rfl rfl (by decide +kernel) ⟨Nat.le_of_ble_eq_true rfl, Nat.le_of_ble_eq_true rfl⟩) ⟨RW_blind, va_recv hK hP (ci := 3) (q0 := 0) rfl rfl, fun U hU hW => ⟨rfl, by rw [hU]; exact hPc, va_K.moved hW.alike hK, hE.call hW hU hS (fun _ h => h), hDc⟩⟩ rfl rfl hl.1 rfl (lv_room (Nat.le_of_ble_eq_true rfl)) dX3_readsAll_110 ⟨Nat.le_of_ble_eq_true rfl, Nat.le_of_ble_eq_true rfl⟩) hS (fun _ h => h) (fun r u110 H1 locs hw hP1 hk hS => ?_)
            obtain ⟨hw1, hw⟩ := hw; subst r
            have hv := hv u110 hw
            have hP := hP1
            generalize H1 = H at hP hS ⊢
            have hP : va_P (gD g) vwCl (wM g ad u110) H := hP
            have hD : va_D (AD ad 0 21) (wM g ad u110) := hD.addr (by rfl)
            refine lv_if_eq (tgt := 120) hx hb dX3_readsAll_113 (by decide) (fun c113 => ?_) (fun c113 => ?_)
            · have hv := hv.1 c113
              refine lv_iconst (v := 0) hx hb dX3_readsAll_120 (by decide) ?_
              exact W.zret (v := 0) hx hb hr rfl (fun t ht hW => ⟨⟨0, u110, rfl, hv, P_at ht hP⟩, hS.F ht⟩) hS.2.2 dX3_readsAll_121
            · have hv := hv.2 c113
              refine lv_iconst (v := 1) hx hb dX3_readsAll_116 (by decide) ?_
              refine lv_goto (tgt := 121) hx hb dX3_readsAll_117 (by decide) ?_
              exact W.zret (v := 1) hx hb hr rfl (fun t ht hW => ⟨⟨1, u110, rfl, hv, P_at ht hP⟩, hS.F ht⟩) hS.2.2 dX3_readsAll_121

