set_option maxHeartbeats 4000000 in
set_option maxRecDepth 100000 in
theorem lc_trueOf {p : Program} {e : Env} {s : State} {m : MethodId} {args : Array Value} {below : List Frame} {meth : Method} {c : Code} {H : Heap} {locs : List Loc} {Q : State → Prop} {ls : Array Slot} {g : CX} {b L i : Nat} {xs : Nat → Int32} {ax am : Nat → Nat} {σ : KX} {τ : KM} (l : Launch) (C0 : LawAt p s m args meth c g b L xs) (hL : L ≤ 2560) (hi : i + 5 ≤ L) (h : Rel σ τ) (hP : va_P (gD g) vwCl (wL2 g ax am σ τ) H) (hD : va_D (fun q => s.heap.size ≤ q) (wL2 g ax am σ τ)) (hS : va_S (fun q => s.heap.size ≤ q) s.heap H locs) (hl : lv_has ls 4 [(3, .int (nI i)), (2, .ref (am 0)), (1, .ref (ax 0)), (0, .ref b)])
    (kk : ∀ (H1 : Heap) (locs1 : List Loc) (σ1 : KX) (τ1 : KM), Rel σ1 τ1 → va_P (gD g) vwCl (wL2 g ax am σ1 τ1) H1 → va_S (fun q => s.heap.size ≤ q) s.heap H1 locs1 → W p l e room_1 s m args below meth c H1 locs1 600000 7302249 Q (F0 m 1197 ls [])) : W p l e room_1 s m args below meth c H locs 600000 7302249 Q (F0 m 740 ls []) := by
  have hx := C0.1
  have hb := C0.2.1
  have hX := C0.2.2.2.2.2.2.2.1
  have hbl := C0.2.2.2.2.2.2.2.2
  have hts := C0.2.2.2.2.1
  have hbA : ¬ (fun q : Nat => s.heap.size ≤ q) b := Nat.not_le.mpr hbl
  have hv0 : vp_in (nI i) L := vp_in_nI (by omega) (by omega)
  have hv1 : vp_in (nI i + 1) L := by rw [show (1 : Int32) = nI 1 from rfl, nI_add]; exact vp_in_nI (by omega) (by omega)
  have hv2 : vp_in (nI i + 2) L := by rw [show (2 : Int32) = nI 2 from rfl, nI_add]; exact vp_in_nI (by omega) (by omega)
  have hv3 : vp_in (nI i + 3) L := by rw [show (3 : Int32) = nI 3 from rfl, nI_add]; exact vp_in_nI (by omega) (by omega)
  have hv4 : vp_in (nI i + 4) L := by rw [show (4 : Int32) = nI 4 from rfl, nI_add]; exact vp_in_nI (by omega) (by omega)
  refine lv_aload_n hx hb dL_law_740 rfl (lv_at hl 2 rfl) ?_
  refine lv_aload_n hx hb dL_law_741 rfl (lv_at hl 3 rfl) ?_
  refine lv_iload_n hx hb dL_law_742 rfl (lv_at hl 0 rfl) ?_
  refine lv_iconst (v := 1) hx hb dL_law_743 (by decide) ?_
  refine lv_iadd hx hb dL_law_744 ?_
  refine va_sld hx hb hX hbl hbA hS hv1 dL_law_745 ?_
  refine W.eq (g2 := F0 m 746 ls (([.int (xs (nI i + 1).toNatClampNeg)] : List Value).reverse ++ .ref (ax 0) :: [])) rfl ?_
  refine cx_int C0 hl.1 (As := [.int (xs (nI i + 1).toNatClampNeg)]) (rest := []) (c_X2_trueOf l g ax σ (xs (nI i + 1).toNatClampNeg) h.1) (cwV 1 hts gL_law_X2_trueOf rfl rfl rfl (by decide +kernel) ⟨Nat.le_of_ble_eq_true rfl, Nat.le_of_ble_eq_true rfl⟩) rfl (Nat.le_of_ble_eq_true rfl) dL_law_746 hP hD hS (fun r0 u0 H locs w0 hP hS => ?_)
  have hD := hD.addr (wL2_addr (σ' := u0) (τ' := τ))
  refine lv_aload_n hx hb dL_law_749 rfl (lv_at hl 1 rfl) ?_
  refine lv_aload_n hx hb dL_law_750 rfl (lv_at hl 3 rfl) ?_
  refine lv_iload_n hx hb dL_law_751 rfl (lv_at hl 0 rfl) ?_
  refine lv_iconst (v := 1) hx hb dL_law_752 (by decide) ?_
  refine lv_iadd hx hb dL_law_753 ?_
  refine va_sld hx hb hX hbl hbA hS hv1 dL_law_754 ?_
  refine W.eq (g2 := F0 m 755 ls (([.int (xs (nI i + 1).toNatClampNeg)] : List Value).reverse ++ .ref (am 0) :: [.int r0])) rfl ?_
  refine cm_int C0 hl.1 (As := [.int (xs (nI i + 1).toNatClampNeg)]) (rest := [.int r0]) (c_X3_trueOf l g am τ (xs (nI i + 1).toNatClampNeg) h.S.1) (cwV 1 hts gL_law_X3_trueOf rfl rfl rfl (by decide +kernel) ⟨Nat.le_of_ble_eq_true rfl, Nat.le_of_ble_eq_true rfl⟩) rfl (Nat.le_of_ble_eq_true rfl) dL_law_755 hP hD hS (fun r1 u1 H locs w1 hP hS => ?_)
  have hD := hD.addr (wL2_addr (σ' := u0) (τ' := u1))
  obtain ⟨er, hR⟩ := s_trueOf h (xs (nI i + 1).toNatClampNeg) r0 u0 r1 u1 w0 w1
  exact lv_icmp_eq (tgt := 1197) hx hb dL_law_758 (by decide) (fun _ => kk H locs u0 u1 hR hP hS) (fun cn => absurd er cn)
set_option maxHeartbeats 4000000 in
set_option maxRecDepth 100000 in
theorem lc_talker {p : Program} {e : Env} {s : State} {m : MethodId} {args : Array Value} {below : List Frame} {meth : Method} {c : Code} {H : Heap} {locs : List Loc} {Q : State → Prop} {ls : Array Slot} {g : CX} {b L i : Nat} {xs : Nat → Int32} {ax am : Nat → Nat} {σ : KX} {τ : KM} (l : Launch) (C0 : LawAt p s m args meth c g b L xs) (hL : L ≤ 2560) (hi : i + 5 ≤ L) (h : Rel σ τ) (hP : va_P (gD g) vwCl (wL2 g ax am σ τ) H) (hD : va_D (fun q => s.heap.size ≤ q) (wL2 g ax am σ τ)) (hS : va_S (fun q => s.heap.size ≤ q) s.heap H locs) (hl : lv_has ls 4 [(3, .int (nI i)), (2, .ref (am 0)), (1, .ref (ax 0)), (0, .ref b)])
    (kk : ∀ (H1 : Heap) (locs1 : List Loc) (σ1 : KX) (τ1 : KM), Rel σ1 τ1 → va_P (gD g) vwCl (wL2 g ax am σ1 τ1) H1 → va_S (fun q => s.heap.size ≤ q) s.heap H1 locs1 → W p l e room_1 s m args below meth c H1 locs1 600000 7302249 Q (F0 m 1197 ls [])) : W p l e room_1 s m args below meth c H locs 600000 7302249 Q (F0 m 763 ls []) := by
  have hx := C0.1
  have hb := C0.2.1
  have hX := C0.2.2.2.2.2.2.2.1
  have hbl := C0.2.2.2.2.2.2.2.2
  have hts := C0.2.2.2.2.1
  have hbA : ¬ (fun q : Nat => s.heap.size ≤ q) b := Nat.not_le.mpr hbl
  have hv0 : vp_in (nI i) L := vp_in_nI (by omega) (by omega)
  have hv1 : vp_in (nI i + 1) L := by rw [show (1 : Int32) = nI 1 from rfl, nI_add]; exact vp_in_nI (by omega) (by omega)
  have hv2 : vp_in (nI i + 2) L := by rw [show (2 : Int32) = nI 2 from rfl, nI_add]; exact vp_in_nI (by omega) (by omega)
  have hv3 : vp_in (nI i + 3) L := by rw [show (3 : Int32) = nI 3 from rfl, nI_add]; exact vp_in_nI (by omega) (by omega)
  have hv4 : vp_in (nI i + 4) L := by rw [show (4 : Int32) = nI 4 from rfl, nI_add]; exact vp_in_nI (by omega) (by omega)
  refine lv_aload_n hx hb dL_law_763 rfl (lv_at hl 2 rfl) ?_
  refine W.eq (g2 := F0 m 764 ls (([] : List Value).reverse ++ .ref (ax 0) :: [])) rfl ?_
  refine cx_ro C0 hl.1 (As := []) (rest := []) (c_X2_talker l g ax σ h.1) (cwV 0 hts gL_law_X2_talker rfl rfl rfl (by decide +kernel) ⟨Nat.le_of_ble_eq_true rfl, Nat.le_of_ble_eq_true rfl⟩) rfl (Nat.le_of_ble_eq_true rfl) dL_law_764 hP hS (fun r0 H locs w0 hP hS => ?_)
  refine lv_aload_n hx hb dL_law_767 rfl (lv_at hl 1 rfl) ?_
  refine W.eq (g2 := F0 m 768 ls (([] : List Value).reverse ++ .ref (am 0) :: [.int r0])) rfl ?_
  refine cm_ro C0 hl.1 (As := []) (rest := [.int r0]) (c_X3_talker l g am τ h.S.1) (cwV 0 hts gL_law_X3_talker rfl rfl rfl (by decide +kernel) ⟨Nat.le_of_ble_eq_true rfl, Nat.le_of_ble_eq_true rfl⟩) rfl (Nat.le_of_ble_eq_true rfl) dL_law_768 hP hS (fun r1 H locs w1 hP hS => ?_)
  obtain ⟨er, hR⟩ := s_talker h  r0 σ r1 τ ⟨w0, rfl⟩ ⟨w1, rfl⟩
  exact lv_icmp_eq (tgt := 1197) hx hb dL_law_771 (by decide) (fun _ => kk H locs σ τ hR hP hS) (fun cn => absurd er cn)
set_option maxHeartbeats 4000000 in
set_option maxRecDepth 100000 in
theorem lc_betrays {p : Program} {e : Env} {s : State} {m : MethodId} {args : Array Value} {below : List Frame} {meth : Method} {c : Code} {H : Heap} {locs : List Loc} {Q : State → Prop} {ls : Array Slot} {g : CX} {b L i : Nat} {xs : Nat → Int32} {ax am : Nat → Nat} {σ : KX} {τ : KM} (l : Launch) (C0 : LawAt p s m args meth c g b L xs) (hL : L ≤ 2560) (hi : i + 5 ≤ L) (h : Rel σ τ) (hP : va_P (gD g) vwCl (wL2 g ax am σ τ) H) (hD : va_D (fun q => s.heap.size ≤ q) (wL2 g ax am σ τ)) (hS : va_S (fun q => s.heap.size ≤ q) s.heap H locs) (hl : lv_has ls 4 [(3, .int (nI i)), (2, .ref (am 0)), (1, .ref (ax 0)), (0, .ref b)])
    (kk : ∀ (H1 : Heap) (locs1 : List Loc) (σ1 : KX) (τ1 : KM), Rel σ1 τ1 → va_P (gD g) vwCl (wL2 g ax am σ1 τ1) H1 → va_S (fun q => s.heap.size ≤ q) s.heap H1 locs1 → W p l e room_1 s m args below meth c H1 locs1 600000 7302249 Q (F0 m 1197 ls [])) : W p l e room_1 s m args below meth c H locs 600000 7302249 Q (F0 m 776 ls []) := by
  have hx := C0.1
  have hb := C0.2.1
  have hX := C0.2.2.2.2.2.2.2.1
  have hbl := C0.2.2.2.2.2.2.2.2
  have hts := C0.2.2.2.2.1
  have hbA : ¬ (fun q : Nat => s.heap.size ≤ q) b := Nat.not_le.mpr hbl
  have hv0 : vp_in (nI i) L := vp_in_nI (by omega) (by omega)
  have hv1 : vp_in (nI i + 1) L := by rw [show (1 : Int32) = nI 1 from rfl, nI_add]; exact vp_in_nI (by omega) (by omega)
  have hv2 : vp_in (nI i + 2) L := by rw [show (2 : Int32) = nI 2 from rfl, nI_add]; exact vp_in_nI (by omega) (by omega)
  have hv3 : vp_in (nI i + 3) L := by rw [show (3 : Int32) = nI 3 from rfl, nI_add]; exact vp_in_nI (by omega) (by omega)
  have hv4 : vp_in (nI i + 4) L := by rw [show (4 : Int32) = nI 4 from rfl, nI_add]; exact vp_in_nI (by omega) (by omega)
  refine lv_aload_n hx hb dL_law_776 rfl (lv_at hl 2 rfl) ?_
  refine lv_aload_n hx hb dL_law_777 rfl (lv_at hl 3 rfl) ?_
  refine lv_iload_n hx hb dL_law_778 rfl (lv_at hl 0 rfl) ?_
  refine lv_iconst (v := 1) hx hb dL_law_779 (by decide) ?_
  refine lv_iadd hx hb dL_law_780 ?_
  refine va_sld hx hb hX hbl hbA hS hv1 dL_law_781 ?_
  refine W.eq (g2 := F0 m 782 ls (([.int (xs (nI i + 1).toNatClampNeg)] : List Value).reverse ++ .ref (ax 0) :: [])) rfl ?_
  refine cx_int C0 hl.1 (As := [.int (xs (nI i + 1).toNatClampNeg)]) (rest := []) (c_X2_betrays l g ax σ (xs (nI i + 1).toNatClampNeg) h.1) (cwV 1 hts gL_law_X2_betrays rfl rfl rfl (by decide +kernel) ⟨Nat.le_of_ble_eq_true rfl, Nat.le_of_ble_eq_true rfl⟩) rfl (Nat.le_of_ble_eq_true rfl) dL_law_782 hP hD hS (fun r0 u0 H locs w0 hP hS => ?_)
  have hD := hD.addr (wL2_addr (σ' := u0) (τ' := τ))
  refine lv_aload_n hx hb dL_law_785 rfl (lv_at hl 1 rfl) ?_
  refine lv_aload_n hx hb dL_law_786 rfl (lv_at hl 3 rfl) ?_
  refine lv_iload_n hx hb dL_law_787 rfl (lv_at hl 0 rfl) ?_
  refine lv_iconst (v := 1) hx hb dL_law_788 (by decide) ?_
  refine lv_iadd hx hb dL_law_789 ?_
  refine va_sld hx hb hX hbl hbA hS hv1 dL_law_790 ?_
  refine W.eq (g2 := F0 m 791 ls (([.int (xs (nI i + 1).toNatClampNeg)] : List Value).reverse ++ .ref (am 0) :: [.int r0])) rfl ?_
  refine cm_int C0 hl.1 (As := [.int (xs (nI i + 1).toNatClampNeg)]) (rest := [.int r0]) (c_X3_betrays l g am τ (xs (nI i + 1).toNatClampNeg) h.S.1) (cwV 1 hts gL_law_X3_betrays rfl rfl rfl (by decide +kernel) ⟨Nat.le_of_ble_eq_true rfl, Nat.le_of_ble_eq_true rfl⟩) rfl (Nat.le_of_ble_eq_true rfl) dL_law_791 hP hD hS (fun r1 u1 H locs w1 hP hS => ?_)
  have hD := hD.addr (wL2_addr (σ' := u0) (τ' := u1))
  obtain ⟨er, hR⟩ := s_betrays h (xs (nI i + 1).toNatClampNeg) r0 u0 r1 u1 w0 w1
  exact lv_icmp_eq (tgt := 1197) hx hb dL_law_794 (by decide) (fun _ => kk H locs u0 u1 hR hP hS) (fun cn => absurd er cn)
set_option maxHeartbeats 4000000 in
set_option maxRecDepth 100000 in
theorem lc_verdict {p : Program} {e : Env} {s : State} {m : MethodId} {args : Array Value} {below : List Frame} {meth : Method} {c : Code} {H : Heap} {locs : List Loc} {Q : State → Prop} {ls : Array Slot} {g : CX} {b L i : Nat} {xs : Nat → Int32} {ax am : Nat → Nat} {σ : KX} {τ : KM} (l : Launch) (C0 : LawAt p s m args meth c g b L xs) (hL : L ≤ 2560) (hi : i + 5 ≤ L) (h : Rel σ τ) (hP : va_P (gD g) vwCl (wL2 g ax am σ τ) H) (hD : va_D (fun q => s.heap.size ≤ q) (wL2 g ax am σ τ)) (hS : va_S (fun q => s.heap.size ≤ q) s.heap H locs) (hl : lv_has ls 4 [(3, .int (nI i)), (2, .ref (am 0)), (1, .ref (ax 0)), (0, .ref b)])
    (kk : ∀ (H1 : Heap) (locs1 : List Loc) (σ1 : KX) (τ1 : KM), Rel σ1 τ1 → va_P (gD g) vwCl (wL2 g ax am σ1 τ1) H1 → va_S (fun q => s.heap.size ≤ q) s.heap H1 locs1 → W p l e room_1 s m args below meth c H1 locs1 600000 7302249 Q (F0 m 1197 ls [])) : W p l e room_1 s m args below meth c H locs 600000 7302249 Q (F0 m 799 ls []) := by
  have hx := C0.1
  have hb := C0.2.1
  have hX := C0.2.2.2.2.2.2.2.1
  have hbl := C0.2.2.2.2.2.2.2.2
  have hts := C0.2.2.2.2.1
  have hbA : ¬ (fun q : Nat => s.heap.size ≤ q) b := Nat.not_le.mpr hbl
  have hv0 : vp_in (nI i) L := vp_in_nI (by omega) (by omega)
  have hv1 : vp_in (nI i + 1) L := by rw [show (1 : Int32) = nI 1 from rfl, nI_add]; exact vp_in_nI (by omega) (by omega)
  have hv2 : vp_in (nI i + 2) L := by rw [show (2 : Int32) = nI 2 from rfl, nI_add]; exact vp_in_nI (by omega) (by omega)
  have hv3 : vp_in (nI i + 3) L := by rw [show (3 : Int32) = nI 3 from rfl, nI_add]; exact vp_in_nI (by omega) (by omega)
  have hv4 : vp_in (nI i + 4) L := by rw [show (4 : Int32) = nI 4 from rfl, nI_add]; exact vp_in_nI (by omega) (by omega)
  refine lv_aload_n hx hb dL_law_799 rfl (lv_at hl 2 rfl) ?_
  refine lv_aload_n hx hb dL_law_800 rfl (lv_at hl 3 rfl) ?_
  refine lv_iload_n hx hb dL_law_801 rfl (lv_at hl 0 rfl) ?_
  refine lv_iconst (v := 1) hx hb dL_law_802 (by decide) ?_
  refine lv_iadd hx hb dL_law_803 ?_
  refine va_sld hx hb hX hbl hbA hS hv1 dL_law_804 ?_
  refine lv_aload_n hx hb dL_law_805 rfl (lv_at hl 3 rfl) ?_
  refine lv_iload_n hx hb dL_law_806 rfl (lv_at hl 0 rfl) ?_
  refine lv_iconst (v := 2) hx hb dL_law_807 (by decide) ?_
  refine lv_iadd hx hb dL_law_808 ?_
  refine va_sld hx hb hX hbl hbA hS hv2 dL_law_809 ?_
  refine W.eq (g2 := F0 m 810 ls (([.int (xs (nI i + 1).toNatClampNeg), .int (xs (nI i + 2).toNatClampNeg)] : List Value).reverse ++ .ref (ax 0) :: [])) rfl ?_
  refine cx_long C0 hl.1 (As := [.int (xs (nI i + 1).toNatClampNeg), .int (xs (nI i + 2).toNatClampNeg)]) (rest := []) (c_X2_verdict l g ax σ (xs (nI i + 1).toNatClampNeg) (xs (nI i + 2).toNatClampNeg) h.1) (cwV 2 hts gL_law_X2_verdict rfl rfl rfl (by decide +kernel) ⟨Nat.le_of_ble_eq_true rfl, Nat.le_of_ble_eq_true rfl⟩) rfl (Nat.le_of_ble_eq_true rfl) dL_law_810 hP hD hS (fun r0 u0 H locs w0 hP hS => ?_)
  have hD := hD.addr (wL2_addr (σ' := u0) (τ' := τ))
  refine lv_aload_n hx hb dL_law_813 rfl (lv_at hl 1 rfl) ?_
  refine lv_aload_n hx hb dL_law_814 rfl (lv_at hl 3 rfl) ?_
  refine lv_iload_n hx hb dL_law_815 rfl (lv_at hl 0 rfl) ?_
  refine lv_iconst (v := 1) hx hb dL_law_816 (by decide) ?_
  refine lv_iadd hx hb dL_law_817 ?_
  refine va_sld hx hb hX hbl hbA hS hv1 dL_law_818 ?_
  refine lv_aload_n hx hb dL_law_819 rfl (lv_at hl 3 rfl) ?_
  refine lv_iload_n hx hb dL_law_820 rfl (lv_at hl 0 rfl) ?_
  refine lv_iconst (v := 2) hx hb dL_law_821 (by decide) ?_
  refine lv_iadd hx hb dL_law_822 ?_
  refine va_sld hx hb hX hbl hbA hS hv2 dL_law_823 ?_
  refine W.eq (g2 := F0 m 824 ls (([.int (xs (nI i + 1).toNatClampNeg), .int (xs (nI i + 2).toNatClampNeg)] : List Value).reverse ++ .ref (am 0) :: [.long r0])) rfl ?_
  refine cm_long C0 hl.1 (As := [.int (xs (nI i + 1).toNatClampNeg), .int (xs (nI i + 2).toNatClampNeg)]) (rest := [.long r0]) (c_X3_verdict l g am τ (xs (nI i + 1).toNatClampNeg) (xs (nI i + 2).toNatClampNeg) h.S.1) (cwV 2 hts gL_law_X3_verdict rfl rfl rfl (by decide +kernel) ⟨Nat.le_of_ble_eq_true rfl, Nat.le_of_ble_eq_true rfl⟩) rfl (Nat.le_of_ble_eq_true rfl) dL_law_824 hP hD hS (fun r1 u1 H locs w1 hP hS => ?_)
  have hD := hD.addr (wL2_addr (σ' := u0) (τ' := u1))
  obtain ⟨er, hR⟩ := s_verdict h (xs (nI i + 1).toNatClampNeg) (xs (nI i + 2).toNatClampNeg) r0 u0 r1 u1 w0 w1
  refine W.lcmp hx hb dL_law_827 ?_
  exact lv_if_eq (tgt := 1197) hx hb dL_law_828 (by decide) (fun _ => kk H locs u0 u1 hR hP hS) (fun cn => absurd ((cmp_z r0 r1).mpr er) cn)
set_option maxHeartbeats 4000000 in
set_option maxRecDepth 100000 in
theorem lc_hidden {p : Program} {e : Env} {s : State} {m : MethodId} {args : Array Value} {below : List Frame} {meth : Method} {c : Code} {H : Heap} {locs : List Loc} {Q : State → Prop} {ls : Array Slot} {g : CX} {b L i : Nat} {xs : Nat → Int32} {ax am : Nat → Nat} {σ : KX} {τ : KM} (l : Launch) (C0 : LawAt p s m args meth c g b L xs) (hL : L ≤ 2560) (hi : i + 5 ≤ L) (h : Rel σ τ) (hP : va_P (gD g) vwCl (wL2 g ax am σ τ) H) (hD : va_D (fun q => s.heap.size ≤ q) (wL2 g ax am σ τ)) (hS : va_S (fun q => s.heap.size ≤ q) s.heap H locs) (hl : lv_has ls 4 [(3, .int (nI i)), (2, .ref (am 0)), (1, .ref (ax 0)), (0, .ref b)])
    (kk : ∀ (H1 : Heap) (locs1 : List Loc) (σ1 : KX) (τ1 : KM), Rel σ1 τ1 → va_P (gD g) vwCl (wL2 g ax am σ1 τ1) H1 → va_S (fun q => s.heap.size ≤ q) s.heap H1 locs1 → W p l e room_1 s m args below meth c H1 locs1 600000 7302249 Q (F0 m 1197 ls [])) : W p l e room_1 s m args below meth c H locs 600000 7302249 Q (F0 m 833 ls []) := by
  have hx := C0.1
  have hb := C0.2.1
  have hX := C0.2.2.2.2.2.2.2.1
  have hbl := C0.2.2.2.2.2.2.2.2
  have hts := C0.2.2.2.2.1
  have hbA : ¬ (fun q : Nat => s.heap.size ≤ q) b := Nat.not_le.mpr hbl
  have hv0 : vp_in (nI i) L := vp_in_nI (by omega) (by omega)
  have hv1 : vp_in (nI i + 1) L := by rw [show (1 : Int32) = nI 1 from rfl, nI_add]; exact vp_in_nI (by omega) (by omega)
  have hv2 : vp_in (nI i + 2) L := by rw [show (2 : Int32) = nI 2 from rfl, nI_add]; exact vp_in_nI (by omega) (by omega)
  have hv3 : vp_in (nI i + 3) L := by rw [show (3 : Int32) = nI 3 from rfl, nI_add]; exact vp_in_nI (by omega) (by omega)
  have hv4 : vp_in (nI i + 4) L := by rw [show (4 : Int32) = nI 4 from rfl, nI_add]; exact vp_in_nI (by omega) (by omega)
  refine lv_aload_n hx hb dL_law_833 rfl (lv_at hl 2 rfl) ?_
  refine W.eq (g2 := F0 m 834 ls (([] : List Value).reverse ++ .ref (ax 0) :: [])) rfl ?_
  refine cx_ro C0 hl.1 (As := []) (rest := []) (c_X2_hidden l g ax σ h.1) (cwV 0 hts gL_law_X2_hidden rfl rfl rfl (by decide +kernel) ⟨Nat.le_of_ble_eq_true rfl, Nat.le_of_ble_eq_true rfl⟩) rfl (Nat.le_of_ble_eq_true rfl) dL_law_834 hP hS (fun r0 H locs w0 hP hS => ?_)
  refine lv_aload_n hx hb dL_law_837 rfl (lv_at hl 1 rfl) ?_
  refine W.eq (g2 := F0 m 838 ls (([] : List Value).reverse ++ .ref (am 0) :: [.int r0])) rfl ?_
  refine cm_ro C0 hl.1 (As := []) (rest := [.int r0]) (c_X3_hidden l g am τ h.S.1) (cwV 0 hts gL_law_X3_hidden rfl rfl rfl (by decide +kernel) ⟨Nat.le_of_ble_eq_true rfl, Nat.le_of_ble_eq_true rfl⟩) rfl (Nat.le_of_ble_eq_true rfl) dL_law_838 hP hS (fun r1 H locs w1 hP hS => ?_)
  obtain ⟨er, hR⟩ := s_hidden h  r0 σ r1 τ ⟨w0, rfl⟩ ⟨w1, rfl⟩
  exact lv_icmp_eq (tgt := 1197) hx hb dL_law_841 (by decide) (fun _ => kk H locs σ τ hR hP hS) (fun cn => absurd er cn)
set_option maxHeartbeats 4000000 in
set_option maxRecDepth 100000 in
theorem lc_same {p : Program} {e : Env} {s : State} {m : MethodId} {args : Array Value} {below : List Frame} {meth : Method} {c : Code} {H : Heap} {locs : List Loc} {Q : State → Prop} {ls : Array Slot} {g : CX} {b L i : Nat} {xs : Nat → Int32} {ax am : Nat → Nat} {σ : KX} {τ : KM} (l : Launch) (C0 : LawAt p s m args meth c g b L xs) (hL : L ≤ 2560) (hi : i + 5 ≤ L) (h : Rel σ τ) (hP : va_P (gD g) vwCl (wL2 g ax am σ τ) H) (hD : va_D (fun q => s.heap.size ≤ q) (wL2 g ax am σ τ)) (hS : va_S (fun q => s.heap.size ≤ q) s.heap H locs) (hl : lv_has ls 4 [(3, .int (nI i)), (2, .ref (am 0)), (1, .ref (ax 0)), (0, .ref b)])
    (kk : ∀ (H1 : Heap) (locs1 : List Loc) (σ1 : KX) (τ1 : KM), Rel σ1 τ1 → va_P (gD g) vwCl (wL2 g ax am σ1 τ1) H1 → va_S (fun q => s.heap.size ≤ q) s.heap H1 locs1 → W p l e room_1 s m args below meth c H1 locs1 600000 7302249 Q (F0 m 1197 ls [])) : W p l e room_1 s m args below meth c H locs 600000 7302249 Q (F0 m 846 ls []) := by
  have hx := C0.1
  have hb := C0.2.1
  have hX := C0.2.2.2.2.2.2.2.1
  have hbl := C0.2.2.2.2.2.2.2.2
  have hts := C0.2.2.2.2.1
  have hbA : ¬ (fun q : Nat => s.heap.size ≤ q) b := Nat.not_le.mpr hbl
  have hv0 : vp_in (nI i) L := vp_in_nI (by omega) (by omega)
  have hv1 : vp_in (nI i + 1) L := by rw [show (1 : Int32) = nI 1 from rfl, nI_add]; exact vp_in_nI (by omega) (by omega)
  have hv2 : vp_in (nI i + 2) L := by rw [show (2 : Int32) = nI 2 from rfl, nI_add]; exact vp_in_nI (by omega) (by omega)
  have hv3 : vp_in (nI i + 3) L := by rw [show (3 : Int32) = nI 3 from rfl, nI_add]; exact vp_in_nI (by omega) (by omega)
  have hv4 : vp_in (nI i + 4) L := by rw [show (4 : Int32) = nI 4 from rfl, nI_add]; exact vp_in_nI (by omega) (by omega)
  refine lv_aload_n hx hb dL_law_846 rfl (lv_at hl 2 rfl) ?_
  refine lv_aload_n hx hb dL_law_847 rfl (lv_at hl 3 rfl) ?_
  refine lv_iload_n hx hb dL_law_848 rfl (lv_at hl 0 rfl) ?_
  refine lv_iconst (v := 1) hx hb dL_law_849 (by decide) ?_
  refine lv_iadd hx hb dL_law_850 ?_
  refine va_sld hx hb hX hbl hbA hS hv1 dL_law_851 ?_
  refine W.eq (g2 := F0 m 852 ls (([.int (xs (nI i + 1).toNatClampNeg)] : List Value).reverse ++ .ref (ax 0) :: [])) rfl ?_
  refine cx_int C0 hl.1 (As := [.int (xs (nI i + 1).toNatClampNeg)]) (rest := []) (c_X2_same l g ax σ (xs (nI i + 1).toNatClampNeg) h.1) (cwV 1 hts gL_law_X2_same rfl rfl rfl (by decide +kernel) ⟨Nat.le_of_ble_eq_true rfl, Nat.le_of_ble_eq_true rfl⟩) rfl (Nat.le_of_ble_eq_true rfl) dL_law_852 hP hD hS (fun r0 u0 H locs w0 hP hS => ?_)
  have hD := hD.addr (wL2_addr (σ' := u0) (τ' := τ))
  refine lv_aload_n hx hb dL_law_855 rfl (lv_at hl 1 rfl) ?_
  refine lv_aload_n hx hb dL_law_856 rfl (lv_at hl 3 rfl) ?_
  refine lv_iload_n hx hb dL_law_857 rfl (lv_at hl 0 rfl) ?_
  refine lv_iconst (v := 1) hx hb dL_law_858 (by decide) ?_
  refine lv_iadd hx hb dL_law_859 ?_
  refine va_sld hx hb hX hbl hbA hS hv1 dL_law_860 ?_
  refine W.eq (g2 := F0 m 861 ls (([.int (xs (nI i + 1).toNatClampNeg)] : List Value).reverse ++ .ref (am 0) :: [.int r0])) rfl ?_
  refine cm_int C0 hl.1 (As := [.int (xs (nI i + 1).toNatClampNeg)]) (rest := [.int r0]) (c_X3_same l g am τ (xs (nI i + 1).toNatClampNeg) h.S.1) (cwV 1 hts gL_law_X3_same rfl rfl rfl (by decide +kernel) ⟨Nat.le_of_ble_eq_true rfl, Nat.le_of_ble_eq_true rfl⟩) rfl (Nat.le_of_ble_eq_true rfl) dL_law_861 hP hD hS (fun r1 u1 H locs w1 hP hS => ?_)
  have hD := hD.addr (wL2_addr (σ' := u0) (τ' := u1))
  obtain ⟨er, hR⟩ := s_same h (xs (nI i + 1).toNatClampNeg) r0 u0 r1 u1 w0 w1
  exact lv_icmp_eq (tgt := 1197) hx hb dL_law_864 (by decide) (fun _ => kk H locs u0 u1 hR hP hS) (fun cn => absurd er cn)
set_option maxHeartbeats 4000000 in
set_option maxRecDepth 100000 in
theorem lc_implies {p : Program} {e : Env} {s : State} {m : MethodId} {args : Array Value} {below : List Frame} {meth : Method} {c : Code} {H : Heap} {locs : List Loc} {Q : State → Prop} {ls : Array Slot} {g : CX} {b L i : Nat} {xs : Nat → Int32} {ax am : Nat → Nat} {σ : KX} {τ : KM} (l : Launch) (C0 : LawAt p s m args meth c g b L xs) (hL : L ≤ 2560) (hi : i + 5 ≤ L) (h : Rel σ τ) (hP : va_P (gD g) vwCl (wL2 g ax am σ τ) H) (hD : va_D (fun q => s.heap.size ≤ q) (wL2 g ax am σ τ)) (hS : va_S (fun q => s.heap.size ≤ q) s.heap H locs) (hl : lv_has ls 4 [(3, .int (nI i)), (2, .ref (am 0)), (1, .ref (ax 0)), (0, .ref b)])
    (kk : ∀ (H1 : Heap) (locs1 : List Loc) (σ1 : KX) (τ1 : KM), Rel σ1 τ1 → va_P (gD g) vwCl (wL2 g ax am σ1 τ1) H1 → va_S (fun q => s.heap.size ≤ q) s.heap H1 locs1 → W p l e room_1 s m args below meth c H1 locs1 600000 7302249 Q (F0 m 1197 ls [])) : W p l e room_1 s m args below meth c H locs 600000 7302249 Q (F0 m 869 ls []) := by
  have hx := C0.1
  have hb := C0.2.1
  have hX := C0.2.2.2.2.2.2.2.1
  have hbl := C0.2.2.2.2.2.2.2.2
  have hts := C0.2.2.2.2.1
  have hbA : ¬ (fun q : Nat => s.heap.size ≤ q) b := Nat.not_le.mpr hbl
  have hv0 : vp_in (nI i) L := vp_in_nI (by omega) (by omega)
  have hv1 : vp_in (nI i + 1) L := by rw [show (1 : Int32) = nI 1 from rfl, nI_add]; exact vp_in_nI (by omega) (by omega)
  have hv2 : vp_in (nI i + 2) L := by rw [show (2 : Int32) = nI 2 from rfl, nI_add]; exact vp_in_nI (by omega) (by omega)
  have hv3 : vp_in (nI i + 3) L := by rw [show (3 : Int32) = nI 3 from rfl, nI_add]; exact vp_in_nI (by omega) (by omega)
  have hv4 : vp_in (nI i + 4) L := by rw [show (4 : Int32) = nI 4 from rfl, nI_add]; exact vp_in_nI (by omega) (by omega)
  refine lv_aload_n hx hb dL_law_869 rfl (lv_at hl 2 rfl) ?_
  refine lv_aload_n hx hb dL_law_870 rfl (lv_at hl 3 rfl) ?_
  refine lv_iload_n hx hb dL_law_871 rfl (lv_at hl 0 rfl) ?_
  refine lv_iconst (v := 1) hx hb dL_law_872 (by decide) ?_
  refine lv_iadd hx hb dL_law_873 ?_
  refine va_sld hx hb hX hbl hbA hS hv1 dL_law_874 ?_
  refine lv_aload_n hx hb dL_law_875 rfl (lv_at hl 3 rfl) ?_
  refine lv_iload_n hx hb dL_law_876 rfl (lv_at hl 0 rfl) ?_
  refine lv_iconst (v := 2) hx hb dL_law_877 (by decide) ?_
  refine lv_iadd hx hb dL_law_878 ?_
  refine va_sld hx hb hX hbl hbA hS hv2 dL_law_879 ?_
  refine W.eq (g2 := F0 m 880 ls (([.int (xs (nI i + 1).toNatClampNeg), .int (xs (nI i + 2).toNatClampNeg)] : List Value).reverse ++ .ref (ax 0) :: [])) rfl ?_
  refine cx_int C0 hl.1 (As := [.int (xs (nI i + 1).toNatClampNeg), .int (xs (nI i + 2).toNatClampNeg)]) (rest := []) (c_X2_implies l g ax σ (xs (nI i + 1).toNatClampNeg) (xs (nI i + 2).toNatClampNeg) h.1) (cwV 2 hts gL_law_X2_implies rfl rfl rfl (by decide +kernel) ⟨Nat.le_of_ble_eq_true rfl, Nat.le_of_ble_eq_true rfl⟩) rfl (Nat.le_of_ble_eq_true rfl) dL_law_880 hP hD hS (fun r0 u0 H locs w0 hP hS => ?_)
  have hD := hD.addr (wL2_addr (σ' := u0) (τ' := τ))
  refine lv_aload_n hx hb dL_law_883 rfl (lv_at hl 1 rfl) ?_
  refine lv_aload_n hx hb dL_law_884 rfl (lv_at hl 3 rfl) ?_
  refine lv_iload_n hx hb dL_law_885 rfl (lv_at hl 0 rfl) ?_
  refine lv_iconst (v := 1) hx hb dL_law_886 (by decide) ?_
  refine lv_iadd hx hb dL_law_887 ?_
  refine va_sld hx hb hX hbl hbA hS hv1 dL_law_888 ?_
  refine lv_aload_n hx hb dL_law_889 rfl (lv_at hl 3 rfl) ?_
  refine lv_iload_n hx hb dL_law_890 rfl (lv_at hl 0 rfl) ?_
  refine lv_iconst (v := 2) hx hb dL_law_891 (by decide) ?_
  refine lv_iadd hx hb dL_law_892 ?_
  refine va_sld hx hb hX hbl hbA hS hv2 dL_law_893 ?_
  refine W.eq (g2 := F0 m 894 ls (([.int (xs (nI i + 1).toNatClampNeg), .int (xs (nI i + 2).toNatClampNeg)] : List Value).reverse ++ .ref (am 0) :: [.int r0])) rfl ?_
  refine cm_int C0 hl.1 (As := [.int (xs (nI i + 1).toNatClampNeg), .int (xs (nI i + 2).toNatClampNeg)]) (rest := [.int r0]) (c_X3_implies l g am τ (xs (nI i + 1).toNatClampNeg) (xs (nI i + 2).toNatClampNeg) h.S.1) (cwV 2 hts gL_law_X3_implies rfl rfl rfl (by decide +kernel) ⟨Nat.le_of_ble_eq_true rfl, Nat.le_of_ble_eq_true rfl⟩) rfl (Nat.le_of_ble_eq_true rfl) dL_law_894 hP hD hS (fun r1 u1 H locs w1 hP hS => ?_)
  have hD := hD.addr (wL2_addr (σ' := u0) (τ' := u1))
  obtain ⟨er, hR⟩ := s_implies h (xs (nI i + 1).toNatClampNeg) (xs (nI i + 2).toNatClampNeg) r0 u0 r1 u1 w0 w1
  exact lv_icmp_eq (tgt := 1197) hx hb dL_law_897 (by decide) (fun _ => kk H locs u0 u1 hR hP hS) (fun cn => absurd er cn)
set_option maxHeartbeats 4000000 in
set_option maxRecDepth 100000 in
theorem lc_two {p : Program} {e : Env} {s : State} {m : MethodId} {args : Array Value} {below : List Frame} {meth : Method} {c : Code} {H : Heap} {locs : List Loc} {Q : State → Prop} {ls : Array Slot} {g : CX} {b L i : Nat} {xs : Nat → Int32} {ax am : Nat → Nat} {σ : KX} {τ : KM} (l : Launch) (C0 : LawAt p s m args meth c g b L xs) (hL : L ≤ 2560) (hi : i + 5 ≤ L) (h : Rel σ τ) (hP : va_P (gD g) vwCl (wL2 g ax am σ τ) H) (hD : va_D (fun q => s.heap.size ≤ q) (wL2 g ax am σ τ)) (hS : va_S (fun q => s.heap.size ≤ q) s.heap H locs) (hl : lv_has ls 4 [(3, .int (nI i)), (2, .ref (am 0)), (1, .ref (ax 0)), (0, .ref b)])
    (kk : ∀ (H1 : Heap) (locs1 : List Loc) (σ1 : KX) (τ1 : KM), Rel σ1 τ1 → va_P (gD g) vwCl (wL2 g ax am σ1 τ1) H1 → va_S (fun q => s.heap.size ≤ q) s.heap H1 locs1 → W p l e room_1 s m args below meth c H1 locs1 600000 7302249 Q (F0 m 1197 ls [])) : W p l e room_1 s m args below meth c H locs 600000 7302249 Q (F0 m 902 ls []) := by
  have hx := C0.1
  have hb := C0.2.1
  have hX := C0.2.2.2.2.2.2.2.1
  have hbl := C0.2.2.2.2.2.2.2.2
  have hts := C0.2.2.2.2.1
  have hbA : ¬ (fun q : Nat => s.heap.size ≤ q) b := Nat.not_le.mpr hbl
  have hv0 : vp_in (nI i) L := vp_in_nI (by omega) (by omega)
  have hv1 : vp_in (nI i + 1) L := by rw [show (1 : Int32) = nI 1 from rfl, nI_add]; exact vp_in_nI (by omega) (by omega)
  have hv2 : vp_in (nI i + 2) L := by rw [show (2 : Int32) = nI 2 from rfl, nI_add]; exact vp_in_nI (by omega) (by omega)
  have hv3 : vp_in (nI i + 3) L := by rw [show (3 : Int32) = nI 3 from rfl, nI_add]; exact vp_in_nI (by omega) (by omega)
  have hv4 : vp_in (nI i + 4) L := by rw [show (4 : Int32) = nI 4 from rfl, nI_add]; exact vp_in_nI (by omega) (by omega)
  refine lv_aload_n hx hb dL_law_902 rfl (lv_at hl 2 rfl) ?_
  refine lv_aload_n hx hb dL_law_903 rfl (lv_at hl 3 rfl) ?_
  refine lv_iload_n hx hb dL_law_904 rfl (lv_at hl 0 rfl) ?_
  refine lv_iconst (v := 1) hx hb dL_law_905 (by decide) ?_
  refine lv_iadd hx hb dL_law_906 ?_
  refine va_sld hx hb hX hbl hbA hS hv1 dL_law_907 ?_
  refine lv_aload_n hx hb dL_law_908 rfl (lv_at hl 3 rfl) ?_
  refine lv_iload_n hx hb dL_law_909 rfl (lv_at hl 0 rfl) ?_
  refine lv_iconst (v := 2) hx hb dL_law_910 (by decide) ?_
  refine lv_iadd hx hb dL_law_911 ?_
  refine va_sld hx hb hX hbl hbA hS hv2 dL_law_912 ?_
  refine lv_aload_n hx hb dL_law_913 rfl (lv_at hl 3 rfl) ?_
  refine lv_iload_n hx hb dL_law_914 rfl (lv_at hl 0 rfl) ?_
  refine lv_iconst (v := 3) hx hb dL_law_915 (by decide) ?_
  refine lv_iadd hx hb dL_law_916 ?_
  refine va_sld hx hb hX hbl hbA hS hv3 dL_law_917 ?_
  refine W.eq (g2 := F0 m 918 ls (([.int (xs (nI i + 1).toNatClampNeg), .int (xs (nI i + 2).toNatClampNeg), .int (xs (nI i + 3).toNatClampNeg)] : List Value).reverse ++ .ref (ax 0) :: [])) rfl ?_
  refine cx_int C0 hl.1 (As := [.int (xs (nI i + 1).toNatClampNeg), .int (xs (nI i + 2).toNatClampNeg), .int (xs (nI i + 3).toNatClampNeg)]) (rest := []) (c_X2_two l g ax σ (xs (nI i + 1).toNatClampNeg) (xs (nI i + 2).toNatClampNeg) (xs (nI i + 3).toNatClampNeg) h.1) (cwV 3 hts gL_law_X2_two rfl rfl rfl (by decide +kernel) ⟨Nat.le_of_ble_eq_true rfl, Nat.le_of_ble_eq_true rfl⟩) rfl (Nat.le_of_ble_eq_true rfl) dL_law_918 hP hD hS (fun r0 u0 H locs w0 hP hS => ?_)
  have hD := hD.addr (wL2_addr (σ' := u0) (τ' := τ))
  refine lv_aload_n hx hb dL_law_921 rfl (lv_at hl 1 rfl) ?_
  refine lv_aload_n hx hb dL_law_922 rfl (lv_at hl 3 rfl) ?_
  refine lv_iload_n hx hb dL_law_923 rfl (lv_at hl 0 rfl) ?_
  refine lv_iconst (v := 1) hx hb dL_law_924 (by decide) ?_
  refine lv_iadd hx hb dL_law_925 ?_
  refine va_sld hx hb hX hbl hbA hS hv1 dL_law_926 ?_
  refine lv_aload_n hx hb dL_law_927 rfl (lv_at hl 3 rfl) ?_
  refine lv_iload_n hx hb dL_law_928 rfl (lv_at hl 0 rfl) ?_
  refine lv_iconst (v := 2) hx hb dL_law_929 (by decide) ?_
  refine lv_iadd hx hb dL_law_930 ?_
  refine va_sld hx hb hX hbl hbA hS hv2 dL_law_931 ?_
  refine lv_aload_n hx hb dL_law_932 rfl (lv_at hl 3 rfl) ?_
  refine lv_iload_n hx hb dL_law_933 rfl (lv_at hl 0 rfl) ?_
  refine lv_iconst (v := 3) hx hb dL_law_934 (by decide) ?_
  refine lv_iadd hx hb dL_law_935 ?_
  refine va_sld hx hb hX hbl hbA hS hv3 dL_law_936 ?_
  refine W.eq (g2 := F0 m 937 ls (([.int (xs (nI i + 1).toNatClampNeg), .int (xs (nI i + 2).toNatClampNeg), .int (xs (nI i + 3).toNatClampNeg)] : List Value).reverse ++ .ref (am 0) :: [.int r0])) rfl ?_
  refine cm_int C0 hl.1 (As := [.int (xs (nI i + 1).toNatClampNeg), .int (xs (nI i + 2).toNatClampNeg), .int (xs (nI i + 3).toNatClampNeg)]) (rest := [.int r0]) (c_X3_two l g am τ (xs (nI i + 1).toNatClampNeg) (xs (nI i + 2).toNatClampNeg) (xs (nI i + 3).toNatClampNeg) h.S.1) (cwV 3 hts gL_law_X3_two rfl rfl rfl (by decide +kernel) ⟨Nat.le_of_ble_eq_true rfl, Nat.le_of_ble_eq_true rfl⟩) rfl (Nat.le_of_ble_eq_true rfl) dL_law_937 hP hD hS (fun r1 u1 H locs w1 hP hS => ?_)
  have hD := hD.addr (wL2_addr (σ' := u0) (τ' := u1))
  obtain ⟨er, hR⟩ := s_two h (xs (nI i + 1).toNatClampNeg) (xs (nI i + 2).toNatClampNeg) (xs (nI i + 3).toNatClampNeg) r0 u0 r1 u1 w0 w1
  exact lv_icmp_eq (tgt := 1197) hx hb dL_law_940 (by decide) (fun _ => kk H locs u0 u1 hR hP hS) (fun cn => absurd er cn)
set_option maxHeartbeats 4000000 in
set_option maxRecDepth 100000 in
theorem lc_drawn {p : Program} {e : Env} {s : State} {m : MethodId} {args : Array Value} {below : List Frame} {meth : Method} {c : Code} {H : Heap} {locs : List Loc} {Q : State → Prop} {ls : Array Slot} {g : CX} {b L i : Nat} {xs : Nat → Int32} {ax am : Nat → Nat} {σ : KX} {τ : KM} (l : Launch) (C0 : LawAt p s m args meth c g b L xs) (hL : L ≤ 2560) (hi : i + 5 ≤ L) (h : Rel σ τ) (hP : va_P (gD g) vwCl (wL2 g ax am σ τ) H) (hD : va_D (fun q => s.heap.size ≤ q) (wL2 g ax am σ τ)) (hS : va_S (fun q => s.heap.size ≤ q) s.heap H locs) (hl : lv_has ls 4 [(3, .int (nI i)), (2, .ref (am 0)), (1, .ref (ax 0)), (0, .ref b)])
    (kk : ∀ (H1 : Heap) (locs1 : List Loc) (σ1 : KX) (τ1 : KM), Rel σ1 τ1 → va_P (gD g) vwCl (wL2 g ax am σ1 τ1) H1 → va_S (fun q => s.heap.size ≤ q) s.heap H1 locs1 → W p l e room_1 s m args below meth c H1 locs1 600000 7302249 Q (F0 m 1197 ls [])) : W p l e room_1 s m args below meth c H locs 600000 7302249 Q (F0 m 945 ls []) := by
  have hx := C0.1
  have hb := C0.2.1
  have hX := C0.2.2.2.2.2.2.2.1
  have hbl := C0.2.2.2.2.2.2.2.2
  have hts := C0.2.2.2.2.1
  have hbA : ¬ (fun q : Nat => s.heap.size ≤ q) b := Nat.not_le.mpr hbl
  have hv0 : vp_in (nI i) L := vp_in_nI (by omega) (by omega)
  have hv1 : vp_in (nI i + 1) L := by rw [show (1 : Int32) = nI 1 from rfl, nI_add]; exact vp_in_nI (by omega) (by omega)
  have hv2 : vp_in (nI i + 2) L := by rw [show (2 : Int32) = nI 2 from rfl, nI_add]; exact vp_in_nI (by omega) (by omega)
  have hv3 : vp_in (nI i + 3) L := by rw [show (3 : Int32) = nI 3 from rfl, nI_add]; exact vp_in_nI (by omega) (by omega)
  have hv4 : vp_in (nI i + 4) L := by rw [show (4 : Int32) = nI 4 from rfl, nI_add]; exact vp_in_nI (by omega) (by omega)
  refine lv_aload_n hx hb dL_law_945 rfl (lv_at hl 2 rfl) ?_
  refine lv_aload_n hx hb dL_law_946 rfl (lv_at hl 3 rfl) ?_
  refine lv_iload_n hx hb dL_law_947 rfl (lv_at hl 0 rfl) ?_
  refine lv_iconst (v := 1) hx hb dL_law_948 (by decide) ?_
  refine lv_iadd hx hb dL_law_949 ?_
  refine va_sld hx hb hX hbl hbA hS hv1 dL_law_950 ?_
  refine lv_aload_n hx hb dL_law_951 rfl (lv_at hl 3 rfl) ?_
  refine lv_iload_n hx hb dL_law_952 rfl (lv_at hl 0 rfl) ?_
  refine lv_iconst (v := 2) hx hb dL_law_953 (by decide) ?_
  refine lv_iadd hx hb dL_law_954 ?_
  refine va_sld hx hb hX hbl hbA hS hv2 dL_law_955 ?_
  refine lv_aload_n hx hb dL_law_956 rfl (lv_at hl 3 rfl) ?_
  refine lv_iload_n hx hb dL_law_957 rfl (lv_at hl 0 rfl) ?_
  refine lv_iconst (v := 3) hx hb dL_law_958 (by decide) ?_
  refine lv_iadd hx hb dL_law_959 ?_
  refine va_sld hx hb hX hbl hbA hS hv3 dL_law_960 ?_
  refine lv_aload_n hx hb dL_law_961 rfl (lv_at hl 3 rfl) ?_
  refine lv_iload_n hx hb dL_law_962 rfl (lv_at hl 0 rfl) ?_
  refine lv_iconst (v := 4) hx hb dL_law_963 (by decide) ?_
  refine lv_iadd hx hb dL_law_964 ?_
  refine va_sld hx hb hX hbl hbA hS hv4 dL_law_965 ?_
  refine W.eq (g2 := F0 m 966 ls (([.int (xs (nI i + 1).toNatClampNeg), .int (xs (nI i + 2).toNatClampNeg), .int (xs (nI i + 3).toNatClampNeg), .int (xs (nI i + 4).toNatClampNeg)] : List Value).reverse ++ .ref (ax 0) :: [])) rfl ?_
  refine cx_long C0 hl.1 (As := [.int (xs (nI i + 1).toNatClampNeg), .int (xs (nI i + 2).toNatClampNeg), .int (xs (nI i + 3).toNatClampNeg), .int (xs (nI i + 4).toNatClampNeg)]) (rest := []) (c_X2_drawn l g ax σ (xs (nI i + 1).toNatClampNeg) (xs (nI i + 2).toNatClampNeg) (xs (nI i + 3).toNatClampNeg) (xs (nI i + 4).toNatClampNeg) h.1) (cwV 4 hts gL_law_X2_drawn rfl rfl rfl (by decide +kernel) ⟨Nat.le_of_ble_eq_true rfl, Nat.le_of_ble_eq_true rfl⟩) rfl (Nat.le_of_ble_eq_true rfl) dL_law_966 hP hD hS (fun r0 u0 H locs w0 hP hS => ?_)
  have hD := hD.addr (wL2_addr (σ' := u0) (τ' := τ))
  refine lv_aload_n hx hb dL_law_969 rfl (lv_at hl 1 rfl) ?_
  refine lv_aload_n hx hb dL_law_970 rfl (lv_at hl 3 rfl) ?_
  refine lv_iload_n hx hb dL_law_971 rfl (lv_at hl 0 rfl) ?_
  refine lv_iconst (v := 1) hx hb dL_law_972 (by decide) ?_
  refine lv_iadd hx hb dL_law_973 ?_
  refine va_sld hx hb hX hbl hbA hS hv1 dL_law_974 ?_
  refine lv_aload_n hx hb dL_law_975 rfl (lv_at hl 3 rfl) ?_
  refine lv_iload_n hx hb dL_law_976 rfl (lv_at hl 0 rfl) ?_
  refine lv_iconst (v := 2) hx hb dL_law_977 (by decide) ?_
  refine lv_iadd hx hb dL_law_978 ?_
  refine va_sld hx hb hX hbl hbA hS hv2 dL_law_979 ?_
  refine lv_aload_n hx hb dL_law_980 rfl (lv_at hl 3 rfl) ?_
  refine lv_iload_n hx hb dL_law_981 rfl (lv_at hl 0 rfl) ?_
  refine lv_iconst (v := 3) hx hb dL_law_982 (by decide) ?_
  refine lv_iadd hx hb dL_law_983 ?_
  refine va_sld hx hb hX hbl hbA hS hv3 dL_law_984 ?_
  refine lv_aload_n hx hb dL_law_985 rfl (lv_at hl 3 rfl) ?_
  refine lv_iload_n hx hb dL_law_986 rfl (lv_at hl 0 rfl) ?_
  refine lv_iconst (v := 4) hx hb dL_law_987 (by decide) ?_
  refine lv_iadd hx hb dL_law_988 ?_
  refine va_sld hx hb hX hbl hbA hS hv4 dL_law_989 ?_
  refine W.eq (g2 := F0 m 990 ls (([.int (xs (nI i + 1).toNatClampNeg), .int (xs (nI i + 2).toNatClampNeg), .int (xs (nI i + 3).toNatClampNeg), .int (xs (nI i + 4).toNatClampNeg)] : List Value).reverse ++ .ref (am 0) :: [.long r0])) rfl ?_
  refine cm_long C0 hl.1 (As := [.int (xs (nI i + 1).toNatClampNeg), .int (xs (nI i + 2).toNatClampNeg), .int (xs (nI i + 3).toNatClampNeg), .int (xs (nI i + 4).toNatClampNeg)]) (rest := [.long r0]) (c_X3_drawn l g am τ (xs (nI i + 1).toNatClampNeg) (xs (nI i + 2).toNatClampNeg) (xs (nI i + 3).toNatClampNeg) (xs (nI i + 4).toNatClampNeg) h.S.1) (cwV 4 hts gL_law_X3_drawn rfl rfl rfl (by decide +kernel) ⟨Nat.le_of_ble_eq_true rfl, Nat.le_of_ble_eq_true rfl⟩) rfl (Nat.le_of_ble_eq_true rfl) dL_law_990 hP hD hS (fun r1 u1 H locs w1 hP hS => ?_)
  have hD := hD.addr (wL2_addr (σ' := u0) (τ' := u1))
  obtain ⟨er, hR⟩ := s_drawn h (xs (nI i + 1).toNatClampNeg) (xs (nI i + 2).toNatClampNeg) (xs (nI i + 3).toNatClampNeg) (xs (nI i + 4).toNatClampNeg) r0 u0 r1 u1 w0 w1
  refine W.lcmp hx hb dL_law_993 ?_
  exact lv_if_eq (tgt := 1197) hx hb dL_law_994 (by decide) (fun _ => kk H locs u0 u1 hR hP hS) (fun cn => absurd ((cmp_z r0 r1).mpr er) cn)
set_option maxHeartbeats 4000000 in
set_option maxRecDepth 100000 in
theorem lc_mean {p : Program} {e : Env} {s : State} {m : MethodId} {args : Array Value} {below : List Frame} {meth : Method} {c : Code} {H : Heap} {locs : List Loc} {Q : State → Prop} {ls : Array Slot} {g : CX} {b L i : Nat} {xs : Nat → Int32} {ax am : Nat → Nat} {σ : KX} {τ : KM} (l : Launch) (C0 : LawAt p s m args meth c g b L xs) (hL : L ≤ 2560) (hi : i + 5 ≤ L) (h : Rel σ τ) (hP : va_P (gD g) vwCl (wL2 g ax am σ τ) H) (hD : va_D (fun q => s.heap.size ≤ q) (wL2 g ax am σ τ)) (hS : va_S (fun q => s.heap.size ≤ q) s.heap H locs) (hl : lv_has ls 4 [(3, .int (nI i)), (2, .ref (am 0)), (1, .ref (ax 0)), (0, .ref b)])
    (kk : ∀ (H1 : Heap) (locs1 : List Loc) (σ1 : KX) (τ1 : KM), Rel σ1 τ1 → va_P (gD g) vwCl (wL2 g ax am σ1 τ1) H1 → va_S (fun q => s.heap.size ≤ q) s.heap H1 locs1 → W p l e room_1 s m args below meth c H1 locs1 600000 7302249 Q (F0 m 1197 ls [])) : W p l e room_1 s m args below meth c H locs 600000 7302249 Q (F0 m 999 ls []) := by
  have hx := C0.1
  have hb := C0.2.1
  have hX := C0.2.2.2.2.2.2.2.1
  have hbl := C0.2.2.2.2.2.2.2.2
  have hts := C0.2.2.2.2.1
  have hbA : ¬ (fun q : Nat => s.heap.size ≤ q) b := Nat.not_le.mpr hbl
  have hv0 : vp_in (nI i) L := vp_in_nI (by omega) (by omega)
  have hv1 : vp_in (nI i + 1) L := by rw [show (1 : Int32) = nI 1 from rfl, nI_add]; exact vp_in_nI (by omega) (by omega)
  have hv2 : vp_in (nI i + 2) L := by rw [show (2 : Int32) = nI 2 from rfl, nI_add]; exact vp_in_nI (by omega) (by omega)
  have hv3 : vp_in (nI i + 3) L := by rw [show (3 : Int32) = nI 3 from rfl, nI_add]; exact vp_in_nI (by omega) (by omega)
  have hv4 : vp_in (nI i + 4) L := by rw [show (4 : Int32) = nI 4 from rfl, nI_add]; exact vp_in_nI (by omega) (by omega)
  refine lv_aload_n hx hb dL_law_999 rfl (lv_at hl 2 rfl) ?_
  refine lv_aload_n hx hb dL_law_1000 rfl (lv_at hl 3 rfl) ?_
  refine lv_iload_n hx hb dL_law_1001 rfl (lv_at hl 0 rfl) ?_
  refine lv_iconst (v := 1) hx hb dL_law_1002 (by decide) ?_
  refine lv_iadd hx hb dL_law_1003 ?_
  refine va_sld hx hb hX hbl hbA hS hv1 dL_law_1004 ?_
  refine W.eq (g2 := F0 m 1005 ls (([.int (xs (nI i + 1).toNatClampNeg)] : List Value).reverse ++ .ref (ax 0) :: [])) rfl ?_
  refine cx_long C0 hl.1 (As := [.int (xs (nI i + 1).toNatClampNeg)]) (rest := []) (c_X2_mean l g ax σ (xs (nI i + 1).toNatClampNeg) h.1) (cwV 1 hts gL_law_X2_mean rfl rfl rfl (by decide +kernel) ⟨Nat.le_of_ble_eq_true rfl, Nat.le_of_ble_eq_true rfl⟩) rfl (Nat.le_of_ble_eq_true rfl) dL_law_1005 hP hD hS (fun r0 u0 H locs w0 hP hS => ?_)
  have hD := hD.addr (wL2_addr (σ' := u0) (τ' := τ))
  refine lv_aload_n hx hb dL_law_1008 rfl (lv_at hl 1 rfl) ?_
  refine lv_aload_n hx hb dL_law_1009 rfl (lv_at hl 3 rfl) ?_
  refine lv_iload_n hx hb dL_law_1010 rfl (lv_at hl 0 rfl) ?_
  refine lv_iconst (v := 1) hx hb dL_law_1011 (by decide) ?_
  refine lv_iadd hx hb dL_law_1012 ?_
  refine va_sld hx hb hX hbl hbA hS hv1 dL_law_1013 ?_
  refine W.eq (g2 := F0 m 1014 ls (([.int (xs (nI i + 1).toNatClampNeg)] : List Value).reverse ++ .ref (am 0) :: [.long r0])) rfl ?_
  refine cm_long C0 hl.1 (As := [.int (xs (nI i + 1).toNatClampNeg)]) (rest := [.long r0]) (c_X3_mean l g am τ (xs (nI i + 1).toNatClampNeg) h.S.1) (cwV 1 hts gL_law_X3_mean rfl rfl rfl (by decide +kernel) ⟨Nat.le_of_ble_eq_true rfl, Nat.le_of_ble_eq_true rfl⟩) rfl (Nat.le_of_ble_eq_true rfl) dL_law_1014 hP hD hS (fun r1 u1 H locs w1 hP hS => ?_)
  have hD := hD.addr (wL2_addr (σ' := u0) (τ' := u1))
  obtain ⟨er, hR⟩ := s_mean h (xs (nI i + 1).toNatClampNeg) r0 u0 r1 u1 w0 w1
  refine W.lcmp hx hb dL_law_1017 ?_
  exact lv_if_eq (tgt := 1197) hx hb dL_law_1018 (by decide) (fun _ => kk H locs u0 u1 hR hP hS) (fun cn => absurd ((cmp_z r0 r1).mpr er) cn)
