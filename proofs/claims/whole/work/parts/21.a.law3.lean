set_option maxHeartbeats 4000000 in
set_option maxRecDepth 100000 in
theorem lc_whatIs {p : Program} {e : Env} {s : State} {m : MethodId} {args : Array Value} {below : List Frame} {meth : Method} {c : Code} {H : Heap} {locs : List Loc} {Q : State → Prop} {ls : Array Slot} {g : CX} {b L i : Nat} {xs : Nat → Int32} {ax am : Nat → Nat} {σ : KX} {τ : KM} (l : Launch) (C0 : LawAt p s m args meth c g b L xs) (hL : L ≤ 2560) (hi : i + 5 ≤ L) (h : Rel σ τ) (hP : va_P (gD g) vwCl (wL2 g ax am σ τ) H) (hD : va_D (fun q => s.heap.size ≤ q) (wL2 g ax am σ τ)) (hS : va_S (fun q => s.heap.size ≤ q) s.heap H locs) (hl : lv_has ls 4 [(3, .int (nI i)), (2, .ref (am 0)), (1, .ref (ax 0)), (0, .ref b)])
    (kk : ∀ (H1 : Heap) (locs1 : List Loc) (σ1 : KX) (τ1 : KM), Rel σ1 τ1 → va_P (gD g) vwCl (wL2 g ax am σ1 τ1) H1 → va_S (fun q => s.heap.size ≤ q) s.heap H1 locs1 → W p l e room_1 s m args below meth c H1 locs1 600000 7302249 Q (F0 m 1197 ls [])) : W p l e room_1 s m args below meth c H locs 600000 7302249 Q (F0 m 1023 ls []) := by
  have hx := C0.1
  have hb := C0.2.1
  have hX := C0.2.2.2.2.2.2.2.1
  have hbl := C0.2.2.2.2.2.2.2.2
  have hts := C0.2.2.2.2.1
  have hbA : ¬ (fun q : Nat => s.heap.size ≤ q) b := Nat.not_le.mpr hbl
  have hv0 : vp_in (nI i) L := vp_in_nI (by omega) (by omega)
  have hv1 : vp_in (nI i + 1) L := by rw [show (1 : Int32) = nI 1 from rfl, nI_add]; exact vp_in_nI (by omega) (by omega)
  have hv2 : vp_in (nI i + 2) L := by rw [show (2 : Int32) = nI 2 from rfl, nI_add]; exact vp_in_nI (by omega) (by omega)
  have hv3 : vp_in (nI i + 3) L := by rw [show (3 : Int32) = nI 3 from rfl, nI_add]; exact vp_in_nI (by omega) (by omega)
  have hv4 : vp_in (nI i + 4) L := by rw [show (4 : Int32) = nI 4 from rfl, nI_add]; exact vp_in_nI (by omega) (by omega)
  refine lv_aload_n hx hb dL_law_1023 rfl (lv_at hl 2 rfl) ?_
  refine lv_aload_n hx hb dL_law_1024 rfl (lv_at hl 3 rfl) ?_
  refine lv_iload_n hx hb dL_law_1025 rfl (lv_at hl 0 rfl) ?_
  refine lv_iconst (v := 1) hx hb dL_law_1026 (by decide) ?_
  refine lv_iadd hx hb dL_law_1027 ?_
  refine va_sld hx hb hX hbl hbA hS hv1 dL_law_1028 ?_
  refine lv_aload_n hx hb dL_law_1029 rfl (lv_at hl 3 rfl) ?_
  refine lv_iload_n hx hb dL_law_1030 rfl (lv_at hl 0 rfl) ?_
  refine lv_iconst (v := 2) hx hb dL_law_1031 (by decide) ?_
  refine lv_iadd hx hb dL_law_1032 ?_
  refine va_sld hx hb hX hbl hbA hS hv2 dL_law_1033 ?_
  refine W.eq (g2 := F0 m 1034 ls (([.int (xs (nI i + 1).toNatClampNeg), .int (xs (nI i + 2).toNatClampNeg)] : List Value).reverse ++ .ref (ax 0) :: [])) rfl ?_
  refine cx_int C0 hl.1 (As := [.int (xs (nI i + 1).toNatClampNeg), .int (xs (nI i + 2).toNatClampNeg)]) (rest := []) (c_X2_whatIs l g ax σ (xs (nI i + 1).toNatClampNeg) (xs (nI i + 2).toNatClampNeg) h.1) (cwV 2 hts gL_law_X2_whatIs rfl rfl rfl (by decide +kernel) ⟨Nat.le_of_ble_eq_true rfl, Nat.le_of_ble_eq_true rfl⟩) rfl (Nat.le_of_ble_eq_true rfl) dL_law_1034 hP hD hS (fun r0 u0 H locs w0 hP hS => ?_)
  have hD := hD.addr (wL2_addr (σ' := u0) (τ' := τ))
  refine lv_aload_n hx hb dL_law_1037 rfl (lv_at hl 1 rfl) ?_
  refine lv_aload_n hx hb dL_law_1038 rfl (lv_at hl 3 rfl) ?_
  refine lv_iload_n hx hb dL_law_1039 rfl (lv_at hl 0 rfl) ?_
  refine lv_iconst (v := 1) hx hb dL_law_1040 (by decide) ?_
  refine lv_iadd hx hb dL_law_1041 ?_
  refine va_sld hx hb hX hbl hbA hS hv1 dL_law_1042 ?_
  refine lv_aload_n hx hb dL_law_1043 rfl (lv_at hl 3 rfl) ?_
  refine lv_iload_n hx hb dL_law_1044 rfl (lv_at hl 0 rfl) ?_
  refine lv_iconst (v := 2) hx hb dL_law_1045 (by decide) ?_
  refine lv_iadd hx hb dL_law_1046 ?_
  refine va_sld hx hb hX hbl hbA hS hv2 dL_law_1047 ?_
  refine W.eq (g2 := F0 m 1048 ls (([.int (xs (nI i + 1).toNatClampNeg), .int (xs (nI i + 2).toNatClampNeg)] : List Value).reverse ++ .ref (am 0) :: [.int r0])) rfl ?_
  refine cm_int C0 hl.1 (As := [.int (xs (nI i + 1).toNatClampNeg), .int (xs (nI i + 2).toNatClampNeg)]) (rest := [.int r0]) (c_X3_whatIs l g am τ (xs (nI i + 1).toNatClampNeg) (xs (nI i + 2).toNatClampNeg) ⟨h.S.1, h.rows.1, h.rows.2⟩) (cwV 2 hts gL_law_X3_whatIs rfl rfl rfl (by decide +kernel) ⟨Nat.le_of_ble_eq_true rfl, Nat.le_of_ble_eq_true rfl⟩) rfl (Nat.le_of_ble_eq_true rfl) dL_law_1048 hP hD hS (fun r1 u1 H locs w1 hP hS => ?_)
  have hD := hD.addr (wL2_addr (σ' := u0) (τ' := u1))
  obtain ⟨er, hR⟩ := s_whatIs h (xs (nI i + 1).toNatClampNeg) (xs (nI i + 2).toNatClampNeg) r0 u0 r1 u1 w0 w1
  exact lv_icmp_eq (tgt := 1197) hx hb dL_law_1051 (by decide) (fun _ => kk H locs u0 u1 hR hP hS) (fun cn => absurd er cn)
set_option maxHeartbeats 4000000 in
set_option maxRecDepth 100000 in
theorem lc_row {p : Program} {e : Env} {s : State} {m : MethodId} {args : Array Value} {below : List Frame} {meth : Method} {c : Code} {H : Heap} {locs : List Loc} {Q : State → Prop} {ls : Array Slot} {g : CX} {b L i : Nat} {xs : Nat → Int32} {ax am : Nat → Nat} {σ : KX} {τ : KM} (l : Launch) (C0 : LawAt p s m args meth c g b L xs) (hL : L ≤ 2560) (hi : i + 5 ≤ L) (h : Rel σ τ) (hP : va_P (gD g) vwCl (wL2 g ax am σ τ) H) (hD : va_D (fun q => s.heap.size ≤ q) (wL2 g ax am σ τ)) (hS : va_S (fun q => s.heap.size ≤ q) s.heap H locs) (hl : lv_has ls 4 [(3, .int (nI i)), (2, .ref (am 0)), (1, .ref (ax 0)), (0, .ref b)])
    (kk : ∀ (H1 : Heap) (locs1 : List Loc) (σ1 : KX) (τ1 : KM), Rel σ1 τ1 → va_P (gD g) vwCl (wL2 g ax am σ1 τ1) H1 → va_S (fun q => s.heap.size ≤ q) s.heap H1 locs1 → W p l e room_1 s m args below meth c H1 locs1 600000 7302249 Q (F0 m 1197 ls [])) : W p l e room_1 s m args below meth c H locs 600000 7302249 Q (F0 m 1056 ls []) := by
  have hx := C0.1
  have hb := C0.2.1
  have hX := C0.2.2.2.2.2.2.2.1
  have hbl := C0.2.2.2.2.2.2.2.2
  have hts := C0.2.2.2.2.1
  have hbA : ¬ (fun q : Nat => s.heap.size ≤ q) b := Nat.not_le.mpr hbl
  have hv0 : vp_in (nI i) L := vp_in_nI (by omega) (by omega)
  have hv1 : vp_in (nI i + 1) L := by rw [show (1 : Int32) = nI 1 from rfl, nI_add]; exact vp_in_nI (by omega) (by omega)
  have hv2 : vp_in (nI i + 2) L := by rw [show (2 : Int32) = nI 2 from rfl, nI_add]; exact vp_in_nI (by omega) (by omega)
  have hv3 : vp_in (nI i + 3) L := by rw [show (3 : Int32) = nI 3 from rfl, nI_add]; exact vp_in_nI (by omega) (by omega)
  have hv4 : vp_in (nI i + 4) L := by rw [show (4 : Int32) = nI 4 from rfl, nI_add]; exact vp_in_nI (by omega) (by omega)
  refine lv_aload_n hx hb dL_law_1056 rfl (lv_at hl 2 rfl) ?_
  refine lv_aload_n hx hb dL_law_1057 rfl (lv_at hl 3 rfl) ?_
  refine lv_iload_n hx hb dL_law_1058 rfl (lv_at hl 0 rfl) ?_
  refine lv_iconst (v := 1) hx hb dL_law_1059 (by decide) ?_
  refine lv_iadd hx hb dL_law_1060 ?_
  refine va_sld hx hb hX hbl hbA hS hv1 dL_law_1061 ?_
  refine W.eq (g2 := F0 m 1062 ls (([.int (xs (nI i + 1).toNatClampNeg)] : List Value).reverse ++ .ref (ax 0) :: [])) rfl ?_
  refine cx_int C0 hl.1 (As := [.int (xs (nI i + 1).toNatClampNeg)]) (rest := []) (c_X2_row l g ax σ (xs (nI i + 1).toNatClampNeg) h.1) (cwV 1 hts gL_law_X2_row rfl rfl rfl (by decide +kernel) ⟨Nat.le_of_ble_eq_true rfl, Nat.le_of_ble_eq_true rfl⟩) rfl (Nat.le_of_ble_eq_true rfl) dL_law_1062 hP hD hS (fun r0 u0 H locs w0 hP hS => ?_)
  have hD := hD.addr (wL2_addr (σ' := u0) (τ' := τ))
  refine lv_aload_n hx hb dL_law_1065 rfl (lv_at hl 1 rfl) ?_
  refine lv_aload_n hx hb dL_law_1066 rfl (lv_at hl 3 rfl) ?_
  refine lv_iload_n hx hb dL_law_1067 rfl (lv_at hl 0 rfl) ?_
  refine lv_iconst (v := 1) hx hb dL_law_1068 (by decide) ?_
  refine lv_iadd hx hb dL_law_1069 ?_
  refine va_sld hx hb hX hbl hbA hS hv1 dL_law_1070 ?_
  refine W.eq (g2 := F0 m 1071 ls (([.int (xs (nI i + 1).toNatClampNeg)] : List Value).reverse ++ .ref (am 0) :: [.int r0])) rfl ?_
  refine cm_int C0 hl.1 (As := [.int (xs (nI i + 1).toNatClampNeg)]) (rest := [.int r0]) (c_X3_row l g am τ (xs (nI i + 1).toNatClampNeg) h.rows) (cwV 1 hts gL_law_X3_row rfl rfl rfl (by decide +kernel) ⟨Nat.le_of_ble_eq_true rfl, Nat.le_of_ble_eq_true rfl⟩) rfl (Nat.le_of_ble_eq_true rfl) dL_law_1071 hP hD hS (fun r1 u1 H locs w1 hP hS => ?_)
  have hD := hD.addr (wL2_addr (σ' := u0) (τ' := u1))
  obtain ⟨er, hR⟩ := s_row h (xs (nI i + 1).toNatClampNeg) r0 u0 r1 u1 w0 w1
  exact lv_icmp_eq (tgt := 1197) hx hb dL_law_1074 (by decide) (fun _ => kk H locs u0 u1 hR hP hS) (fun cn => absurd er cn)
set_option maxHeartbeats 4000000 in
set_option maxRecDepth 100000 in
theorem lc_judge {p : Program} {e : Env} {s : State} {m : MethodId} {args : Array Value} {below : List Frame} {meth : Method} {c : Code} {H : Heap} {locs : List Loc} {Q : State → Prop} {ls : Array Slot} {g : CX} {b L i : Nat} {xs : Nat → Int32} {ax am : Nat → Nat} {σ : KX} {τ : KM} (l : Launch) (C0 : LawAt p s m args meth c g b L xs) (hL : L ≤ 2560) (hi : i + 5 ≤ L) (h : Rel σ τ) (hP : va_P (gD g) vwCl (wL2 g ax am σ τ) H) (hD : va_D (fun q => s.heap.size ≤ q) (wL2 g ax am σ τ)) (hS : va_S (fun q => s.heap.size ≤ q) s.heap H locs) (hl : lv_has ls 4 [(3, .int (nI i)), (2, .ref (am 0)), (1, .ref (ax 0)), (0, .ref b)])
    (kk : ∀ (H1 : Heap) (locs1 : List Loc) (σ1 : KX) (τ1 : KM), Rel σ1 τ1 → va_P (gD g) vwCl (wL2 g ax am σ1 τ1) H1 → va_S (fun q => s.heap.size ≤ q) s.heap H1 locs1 → W p l e room_1 s m args below meth c H1 locs1 600000 7302249 Q (F0 m 1197 ls [])) : W p l e room_1 s m args below meth c H locs 600000 7302249 Q (F0 m 1079 ls []) := by
  have hx := C0.1
  have hb := C0.2.1
  have hX := C0.2.2.2.2.2.2.2.1
  have hbl := C0.2.2.2.2.2.2.2.2
  have hts := C0.2.2.2.2.1
  have hbA : ¬ (fun q : Nat => s.heap.size ≤ q) b := Nat.not_le.mpr hbl
  have hv0 : vp_in (nI i) L := vp_in_nI (by omega) (by omega)
  have hv1 : vp_in (nI i + 1) L := by rw [show (1 : Int32) = nI 1 from rfl, nI_add]; exact vp_in_nI (by omega) (by omega)
  have hv2 : vp_in (nI i + 2) L := by rw [show (2 : Int32) = nI 2 from rfl, nI_add]; exact vp_in_nI (by omega) (by omega)
  have hv3 : vp_in (nI i + 3) L := by rw [show (3 : Int32) = nI 3 from rfl, nI_add]; exact vp_in_nI (by omega) (by omega)
  have hv4 : vp_in (nI i + 4) L := by rw [show (4 : Int32) = nI 4 from rfl, nI_add]; exact vp_in_nI (by omega) (by omega)
  refine lv_aload_n hx hb dL_law_1079 rfl (lv_at hl 2 rfl) ?_
  refine W.eq (g2 := F0 m 1080 ls (([] : List Value).reverse ++ .ref (ax 0) :: [])) rfl ?_
  refine cx_int C0 hl.1 (As := []) (rest := []) (c_X2_judge l g ax σ h.1) (cwV 0 hts gL_law_X2_judge rfl rfl rfl (by decide +kernel) ⟨Nat.le_of_ble_eq_true rfl, Nat.le_of_ble_eq_true rfl⟩) rfl (Nat.le_of_ble_eq_true rfl) dL_law_1080 hP hD hS (fun r0 u0 H locs w0 hP hS => ?_)
  have hD := hD.addr (wL2_addr (σ' := u0) (τ' := τ))
  refine lv_aload_n hx hb dL_law_1083 rfl (lv_at hl 1 rfl) ?_
  refine W.eq (g2 := F0 m 1084 ls (([] : List Value).reverse ++ .ref (am 0) :: [.int r0])) rfl ?_
  refine cm_int C0 hl.1 (As := []) (rest := [.int r0]) (c_X3_judge l g am τ ⟨h.S.1, h.rows.1, h.rows.2⟩) (cwV 0 hts gL_law_X3_judge rfl rfl rfl (by decide +kernel) ⟨Nat.le_of_ble_eq_true rfl, Nat.le_of_ble_eq_true rfl⟩) rfl (Nat.le_of_ble_eq_true rfl) dL_law_1084 hP hD hS (fun r1 u1 H locs w1 hP hS => ?_)
  have hD := hD.addr (wL2_addr (σ' := u0) (τ' := u1))
  obtain ⟨er, hR⟩ := s_judge h  r0 u0 r1 u1 w0 w1
  exact lv_icmp_eq (tgt := 1197) hx hb dL_law_1087 (by decide) (fun _ => kk H locs u0 u1 hR hP hS) (fun cn => absurd er cn)
set_option maxHeartbeats 4000000 in
set_option maxRecDepth 100000 in
theorem lc_clear {p : Program} {e : Env} {s : State} {m : MethodId} {args : Array Value} {below : List Frame} {meth : Method} {c : Code} {H : Heap} {locs : List Loc} {Q : State → Prop} {ls : Array Slot} {g : CX} {b L i : Nat} {xs : Nat → Int32} {ax am : Nat → Nat} {σ : KX} {τ : KM} (l : Launch) (C0 : LawAt p s m args meth c g b L xs) (hL : L ≤ 2560) (hi : i + 5 ≤ L) (h : Rel σ τ) (hP : va_P (gD g) vwCl (wL2 g ax am σ τ) H) (hD : va_D (fun q => s.heap.size ≤ q) (wL2 g ax am σ τ)) (hS : va_S (fun q => s.heap.size ≤ q) s.heap H locs) (hl : lv_has ls 4 [(3, .int (nI i)), (2, .ref (am 0)), (1, .ref (ax 0)), (0, .ref b)])
    (kk : ∀ (H1 : Heap) (locs1 : List Loc) (σ1 : KX) (τ1 : KM), Rel σ1 τ1 → va_P (gD g) vwCl (wL2 g ax am σ1 τ1) H1 → va_S (fun q => s.heap.size ≤ q) s.heap H1 locs1 → W p l e room_1 s m args below meth c H1 locs1 600000 7302249 Q (F0 m 1197 ls [])) : W p l e room_1 s m args below meth c H locs 600000 7302249 Q (F0 m 1092 ls []) := by
  have hx := C0.1
  have hb := C0.2.1
  have hX := C0.2.2.2.2.2.2.2.1
  have hbl := C0.2.2.2.2.2.2.2.2
  have hts := C0.2.2.2.2.1
  have hbA : ¬ (fun q : Nat => s.heap.size ≤ q) b := Nat.not_le.mpr hbl
  have hv0 : vp_in (nI i) L := vp_in_nI (by omega) (by omega)
  have hv1 : vp_in (nI i + 1) L := by rw [show (1 : Int32) = nI 1 from rfl, nI_add]; exact vp_in_nI (by omega) (by omega)
  have hv2 : vp_in (nI i + 2) L := by rw [show (2 : Int32) = nI 2 from rfl, nI_add]; exact vp_in_nI (by omega) (by omega)
  have hv3 : vp_in (nI i + 3) L := by rw [show (3 : Int32) = nI 3 from rfl, nI_add]; exact vp_in_nI (by omega) (by omega)
  have hv4 : vp_in (nI i + 4) L := by rw [show (4 : Int32) = nI 4 from rfl, nI_add]; exact vp_in_nI (by omega) (by omega)
  refine lv_aload_n hx hb dL_law_1092 rfl (lv_at hl 2 rfl) ?_
  refine W.eq (g2 := F0 m 1093 ls (([] : List Value).reverse ++ .ref (ax 0) :: [])) rfl ?_
  refine cx_int C0 hl.1 (As := []) (rest := []) (c_X2_clear l g ax σ) (cwV 0 hts gL_law_X2_clear rfl rfl rfl (by decide +kernel) ⟨Nat.le_of_ble_eq_true rfl, Nat.le_of_ble_eq_true rfl⟩) rfl (Nat.le_of_ble_eq_true rfl) dL_law_1093 hP hD hS (fun r0 u0 H locs w0 hP hS => ?_)
  have hD := hD.addr (wL2_addr (σ' := u0) (τ' := τ))
  refine lv_aload_n hx hb dL_law_1096 rfl (lv_at hl 1 rfl) ?_
  refine W.eq (g2 := F0 m 1097 ls (([] : List Value).reverse ++ .ref (am 0) :: [.int r0])) rfl ?_
  refine cm_int C0 hl.1 (As := []) (rest := [.int r0]) (c_X3_clear l g am τ) (cwV 0 hts gL_law_X3_clear rfl rfl rfl (by decide +kernel) ⟨Nat.le_of_ble_eq_true rfl, Nat.le_of_ble_eq_true rfl⟩) rfl (Nat.le_of_ble_eq_true rfl) dL_law_1097 hP hD hS (fun r1 u1 H locs w1 hP hS => ?_)
  have hD := hD.addr (wL2_addr (σ' := u0) (τ' := u1))
  obtain ⟨er, hR⟩ := s_clear h  r0 u0 r1 u1 w0 w1
  exact lv_icmp_eq (tgt := 1197) hx hb dL_law_1100 (by decide) (fun _ => kk H locs u0 u1 hR hP hS) (fun cn => absurd er cn)
set_option maxHeartbeats 4000000 in
set_option maxRecDepth 100000 in
theorem lc_lots {p : Program} {e : Env} {s : State} {m : MethodId} {args : Array Value} {below : List Frame} {meth : Method} {c : Code} {H : Heap} {locs : List Loc} {Q : State → Prop} {ls : Array Slot} {g : CX} {b L i : Nat} {xs : Nat → Int32} {ax am : Nat → Nat} {σ : KX} {τ : KM} (l : Launch) (C0 : LawAt p s m args meth c g b L xs) (hL : L ≤ 2560) (hi : i + 5 ≤ L) (h : Rel σ τ) (hP : va_P (gD g) vwCl (wL2 g ax am σ τ) H) (hD : va_D (fun q => s.heap.size ≤ q) (wL2 g ax am σ τ)) (hS : va_S (fun q => s.heap.size ≤ q) s.heap H locs) (hl : lv_has ls 4 [(3, .int (nI i)), (2, .ref (am 0)), (1, .ref (ax 0)), (0, .ref b)])
    (kk : ∀ (H1 : Heap) (locs1 : List Loc) (σ1 : KX) (τ1 : KM), Rel σ1 τ1 → va_P (gD g) vwCl (wL2 g ax am σ1 τ1) H1 → va_S (fun q => s.heap.size ≤ q) s.heap H1 locs1 → W p l e room_1 s m args below meth c H1 locs1 600000 7302249 Q (F0 m 1197 ls [])) : W p l e room_1 s m args below meth c H locs 600000 7302249 Q (F0 m 1105 ls []) := by
  have hx := C0.1
  have hb := C0.2.1
  have hX := C0.2.2.2.2.2.2.2.1
  have hbl := C0.2.2.2.2.2.2.2.2
  have hts := C0.2.2.2.2.1
  have hbA : ¬ (fun q : Nat => s.heap.size ≤ q) b := Nat.not_le.mpr hbl
  have hv0 : vp_in (nI i) L := vp_in_nI (by omega) (by omega)
  have hv1 : vp_in (nI i + 1) L := by rw [show (1 : Int32) = nI 1 from rfl, nI_add]; exact vp_in_nI (by omega) (by omega)
  have hv2 : vp_in (nI i + 2) L := by rw [show (2 : Int32) = nI 2 from rfl, nI_add]; exact vp_in_nI (by omega) (by omega)
  have hv3 : vp_in (nI i + 3) L := by rw [show (3 : Int32) = nI 3 from rfl, nI_add]; exact vp_in_nI (by omega) (by omega)
  have hv4 : vp_in (nI i + 4) L := by rw [show (4 : Int32) = nI 4 from rfl, nI_add]; exact vp_in_nI (by omega) (by omega)
  refine lv_aload_n hx hb dL_law_1105 rfl (lv_at hl 2 rfl) ?_
  refine lv_aload_n hx hb dL_law_1106 rfl (lv_at hl 3 rfl) ?_
  refine lv_iload_n hx hb dL_law_1107 rfl (lv_at hl 0 rfl) ?_
  refine lv_iconst (v := 1) hx hb dL_law_1108 (by decide) ?_
  refine lv_iadd hx hb dL_law_1109 ?_
  refine va_sld hx hb hX hbl hbA hS hv1 dL_law_1110 ?_
  refine lv_aload_n hx hb dL_law_1111 rfl (lv_at hl 3 rfl) ?_
  refine lv_iload_n hx hb dL_law_1112 rfl (lv_at hl 0 rfl) ?_
  refine lv_iconst (v := 2) hx hb dL_law_1113 (by decide) ?_
  refine lv_iadd hx hb dL_law_1114 ?_
  refine va_sld hx hb hX hbl hbA hS hv2 dL_law_1115 ?_
  refine lv_aload_n hx hb dL_law_1116 rfl (lv_at hl 3 rfl) ?_
  refine lv_iload_n hx hb dL_law_1117 rfl (lv_at hl 0 rfl) ?_
  refine lv_iconst (v := 3) hx hb dL_law_1118 (by decide) ?_
  refine lv_iadd hx hb dL_law_1119 ?_
  refine va_sld hx hb hX hbl hbA hS hv3 dL_law_1120 ?_
  refine W.eq (g2 := F0 m 1121 ls (([.int (xs (nI i + 1).toNatClampNeg), .int (xs (nI i + 2).toNatClampNeg), .int (xs (nI i + 3).toNatClampNeg)] : List Value).reverse ++ .ref (ax 0) :: [])) rfl ?_
  refine cx_int C0 hl.1 (As := [.int (xs (nI i + 1).toNatClampNeg), .int (xs (nI i + 2).toNatClampNeg), .int (xs (nI i + 3).toNatClampNeg)]) (rest := []) (c_X2_lots l g ax σ (xs (nI i + 1).toNatClampNeg) (xs (nI i + 2).toNatClampNeg) (xs (nI i + 3).toNatClampNeg) h.1) (cwV 3 hts gL_law_X2_lots rfl rfl rfl (by decide +kernel) ⟨Nat.le_of_ble_eq_true rfl, Nat.le_of_ble_eq_true rfl⟩) rfl (Nat.le_of_ble_eq_true rfl) dL_law_1121 hP hD hS (fun r0 u0 H locs w0 hP hS => ?_)
  have hD := hD.addr (wL2_addr (σ' := u0) (τ' := τ))
  refine lv_aload_n hx hb dL_law_1124 rfl (lv_at hl 1 rfl) ?_
  refine lv_aload_n hx hb dL_law_1125 rfl (lv_at hl 3 rfl) ?_
  refine lv_iload_n hx hb dL_law_1126 rfl (lv_at hl 0 rfl) ?_
  refine lv_iconst (v := 1) hx hb dL_law_1127 (by decide) ?_
  refine lv_iadd hx hb dL_law_1128 ?_
  refine va_sld hx hb hX hbl hbA hS hv1 dL_law_1129 ?_
  refine lv_aload_n hx hb dL_law_1130 rfl (lv_at hl 3 rfl) ?_
  refine lv_iload_n hx hb dL_law_1131 rfl (lv_at hl 0 rfl) ?_
  refine lv_iconst (v := 2) hx hb dL_law_1132 (by decide) ?_
  refine lv_iadd hx hb dL_law_1133 ?_
  refine va_sld hx hb hX hbl hbA hS hv2 dL_law_1134 ?_
  refine lv_aload_n hx hb dL_law_1135 rfl (lv_at hl 3 rfl) ?_
  refine lv_iload_n hx hb dL_law_1136 rfl (lv_at hl 0 rfl) ?_
  refine lv_iconst (v := 3) hx hb dL_law_1137 (by decide) ?_
  refine lv_iadd hx hb dL_law_1138 ?_
  refine va_sld hx hb hX hbl hbA hS hv3 dL_law_1139 ?_
  refine W.eq (g2 := F0 m 1140 ls (([.int (xs (nI i + 1).toNatClampNeg), .int (xs (nI i + 2).toNatClampNeg), .int (xs (nI i + 3).toNatClampNeg)] : List Value).reverse ++ .ref (am 0) :: [.int r0])) rfl ?_
  refine cm_int C0 hl.1 (As := [.int (xs (nI i + 1).toNatClampNeg), .int (xs (nI i + 2).toNatClampNeg), .int (xs (nI i + 3).toNatClampNeg)]) (rest := [.int r0]) (c_X3_lots l g am τ (xs (nI i + 1).toNatClampNeg) (xs (nI i + 2).toNatClampNeg) (xs (nI i + 3).toNatClampNeg) h.S) (cwV 3 hts gL_law_X3_lots rfl rfl rfl (by decide +kernel) ⟨Nat.le_of_ble_eq_true rfl, Nat.le_of_ble_eq_true rfl⟩) rfl (Nat.le_of_ble_eq_true rfl) dL_law_1140 hP hD hS (fun r1 u1 H locs w1 hP hS => ?_)
  have hD := hD.addr (wL2_addr (σ' := u0) (τ' := u1))
  obtain ⟨er, hR⟩ := s_lots h (xs (nI i + 1).toNatClampNeg) (xs (nI i + 2).toNatClampNeg) (xs (nI i + 3).toNatClampNeg) r0 u0 r1 u1 w0 w1
  exact lv_icmp_eq (tgt := 1197) hx hb dL_law_1143 (by decide) (fun _ => kk H locs u0 u1 hR hP hS) (fun cn => absurd er cn)
set_option maxHeartbeats 4000000 in
set_option maxRecDepth 100000 in
theorem lc_image {p : Program} {e : Env} {s : State} {m : MethodId} {args : Array Value} {below : List Frame} {meth : Method} {c : Code} {H : Heap} {locs : List Loc} {Q : State → Prop} {ls : Array Slot} {g : CX} {b L i : Nat} {xs : Nat → Int32} {ax am : Nat → Nat} {σ : KX} {τ : KM} (l : Launch) (C0 : LawAt p s m args meth c g b L xs) (hL : L ≤ 2560) (hi : i + 5 ≤ L) (h : Rel σ τ) (hP : va_P (gD g) vwCl (wL2 g ax am σ τ) H) (hD : va_D (fun q => s.heap.size ≤ q) (wL2 g ax am σ τ)) (hS : va_S (fun q => s.heap.size ≤ q) s.heap H locs) (hl : lv_has ls 4 [(3, .int (nI i)), (2, .ref (am 0)), (1, .ref (ax 0)), (0, .ref b)])
    (kk : ∀ (H1 : Heap) (locs1 : List Loc) (σ1 : KX) (τ1 : KM), Rel σ1 τ1 → va_P (gD g) vwCl (wL2 g ax am σ1 τ1) H1 → va_S (fun q => s.heap.size ≤ q) s.heap H1 locs1 → W p l e room_1 s m args below meth c H1 locs1 600000 7302249 Q (F0 m 1197 ls [])) : W p l e room_1 s m args below meth c H locs 600000 7302249 Q (F0 m 1148 ls []) := by
  have hx := C0.1
  have hb := C0.2.1
  have hX := C0.2.2.2.2.2.2.2.1
  have hbl := C0.2.2.2.2.2.2.2.2
  have hts := C0.2.2.2.2.1
  have hbA : ¬ (fun q : Nat => s.heap.size ≤ q) b := Nat.not_le.mpr hbl
  have hv0 : vp_in (nI i) L := vp_in_nI (by omega) (by omega)
  have hv1 : vp_in (nI i + 1) L := by rw [show (1 : Int32) = nI 1 from rfl, nI_add]; exact vp_in_nI (by omega) (by omega)
  have hv2 : vp_in (nI i + 2) L := by rw [show (2 : Int32) = nI 2 from rfl, nI_add]; exact vp_in_nI (by omega) (by omega)
  have hv3 : vp_in (nI i + 3) L := by rw [show (3 : Int32) = nI 3 from rfl, nI_add]; exact vp_in_nI (by omega) (by omega)
  have hv4 : vp_in (nI i + 4) L := by rw [show (4 : Int32) = nI 4 from rfl, nI_add]; exact vp_in_nI (by omega) (by omega)
  refine lv_aload_n hx hb dL_law_1148 rfl (lv_at hl 2 rfl) ?_
  refine W.eq (g2 := F0 m 1149 ls (([] : List Value).reverse ++ .ref (ax 0) :: [])) rfl ?_
  refine cx_int C0 hl.1 (As := []) (rest := []) (c_X2_image l g ax σ h.1) (cwV 0 hts gL_law_X2_image rfl rfl rfl (by decide +kernel) ⟨Nat.le_of_ble_eq_true rfl, Nat.le_of_ble_eq_true rfl⟩) rfl (Nat.le_of_ble_eq_true rfl) dL_law_1149 hP hD hS (fun r0 u0 H locs w0 hP hS => ?_)
  have hD := hD.addr (wL2_addr (σ' := u0) (τ' := τ))
  refine lv_aload_n hx hb dL_law_1152 rfl (lv_at hl 1 rfl) ?_
  refine W.eq (g2 := F0 m 1153 ls (([] : List Value).reverse ++ .ref (am 0) :: [.int r0])) rfl ?_
  refine cm_int C0 hl.1 (As := []) (rest := [.int r0]) (c_X3_image l g am τ) (cwV 0 hts gL_law_X3_image rfl rfl rfl (by decide +kernel) ⟨Nat.le_of_ble_eq_true rfl, Nat.le_of_ble_eq_true rfl⟩) rfl (Nat.le_of_ble_eq_true rfl) dL_law_1153 hP hD hS (fun r1 u1 H locs w1 hP hS => ?_)
  have hD := hD.addr (wL2_addr (σ' := u0) (τ' := u1))
  obtain ⟨er, hR⟩ := s_image h  r0 u0 r1 u1 w0 w1
  exact lv_icmp_eq (tgt := 1197) hx hb dL_law_1156 (by decide) (fun _ => kk H locs u0 u1 hR hP hS) (fun cn => absurd er cn)
set_option maxHeartbeats 4000000 in
set_option maxRecDepth 100000 in
theorem lc_on {p : Program} {e : Env} {s : State} {m : MethodId} {args : Array Value} {below : List Frame} {meth : Method} {c : Code} {H : Heap} {locs : List Loc} {Q : State → Prop} {ls : Array Slot} {g : CX} {b L i : Nat} {xs : Nat → Int32} {ax am : Nat → Nat} {σ : KX} {τ : KM} (l : Launch) (C0 : LawAt p s m args meth c g b L xs) (hL : L ≤ 2560) (hi : i + 5 ≤ L) (h : Rel σ τ) (hP : va_P (gD g) vwCl (wL2 g ax am σ τ) H) (hD : va_D (fun q => s.heap.size ≤ q) (wL2 g ax am σ τ)) (hS : va_S (fun q => s.heap.size ≤ q) s.heap H locs) (hl : lv_has ls 4 [(3, .int (nI i)), (2, .ref (am 0)), (1, .ref (ax 0)), (0, .ref b)])
    (kk : ∀ (H1 : Heap) (locs1 : List Loc) (σ1 : KX) (τ1 : KM), Rel σ1 τ1 → va_P (gD g) vwCl (wL2 g ax am σ1 τ1) H1 → va_S (fun q => s.heap.size ≤ q) s.heap H1 locs1 → W p l e room_1 s m args below meth c H1 locs1 600000 7302249 Q (F0 m 1197 ls [])) : W p l e room_1 s m args below meth c H locs 600000 7302249 Q (F0 m 1161 ls []) := by
  have hx := C0.1
  have hb := C0.2.1
  have hX := C0.2.2.2.2.2.2.2.1
  have hbl := C0.2.2.2.2.2.2.2.2
  have hts := C0.2.2.2.2.1
  have hbA : ¬ (fun q : Nat => s.heap.size ≤ q) b := Nat.not_le.mpr hbl
  have hv0 : vp_in (nI i) L := vp_in_nI (by omega) (by omega)
  have hv1 : vp_in (nI i + 1) L := by rw [show (1 : Int32) = nI 1 from rfl, nI_add]; exact vp_in_nI (by omega) (by omega)
  have hv2 : vp_in (nI i + 2) L := by rw [show (2 : Int32) = nI 2 from rfl, nI_add]; exact vp_in_nI (by omega) (by omega)
  have hv3 : vp_in (nI i + 3) L := by rw [show (3 : Int32) = nI 3 from rfl, nI_add]; exact vp_in_nI (by omega) (by omega)
  have hv4 : vp_in (nI i + 4) L := by rw [show (4 : Int32) = nI 4 from rfl, nI_add]; exact vp_in_nI (by omega) (by omega)
  refine lv_aload_n hx hb dL_law_1161 rfl (lv_at hl 2 rfl) ?_
  refine W.eq (g2 := F0 m 1162 ls (([] : List Value).reverse ++ .ref (ax 0) :: [])) rfl ?_
  refine cx_int C0 hl.1 (As := []) (rest := []) (c_X2_on l g ax σ h.1) (cwV 0 hts gL_law_X2_on rfl rfl rfl (by decide +kernel) ⟨Nat.le_of_ble_eq_true rfl, Nat.le_of_ble_eq_true rfl⟩) rfl (Nat.le_of_ble_eq_true rfl) dL_law_1162 hP hD hS (fun r0 u0 H locs w0 hP hS => ?_)
  have hD := hD.addr (wL2_addr (σ' := u0) (τ' := τ))
  refine lv_aload_n hx hb dL_law_1165 rfl (lv_at hl 1 rfl) ?_
  refine W.eq (g2 := F0 m 1166 ls (([] : List Value).reverse ++ .ref (am 0) :: [.int r0])) rfl ?_
  refine cm_int C0 hl.1 (As := []) (rest := [.int r0]) (c_X3_on l g am τ) (cwV 0 hts gL_law_X3_on rfl rfl rfl (by decide +kernel) ⟨Nat.le_of_ble_eq_true rfl, Nat.le_of_ble_eq_true rfl⟩) rfl (Nat.le_of_ble_eq_true rfl) dL_law_1166 hP hD hS (fun r1 u1 H locs w1 hP hS => ?_)
  have hD := hD.addr (wL2_addr (σ' := u0) (τ' := u1))
  obtain ⟨er, hR⟩ := s_on h  r0 u0 r1 u1 w0 w1
  exact lv_icmp_eq (tgt := 1197) hx hb dL_law_1169 (by decide) (fun _ => kk H locs u0 u1 hR hP hS) (fun cn => absurd er cn)
set_option maxHeartbeats 4000000 in
set_option maxRecDepth 100000 in
theorem lc_count {p : Program} {e : Env} {s : State} {m : MethodId} {args : Array Value} {below : List Frame} {meth : Method} {c : Code} {H : Heap} {locs : List Loc} {Q : State → Prop} {ls : Array Slot} {g : CX} {b L i : Nat} {xs : Nat → Int32} {ax am : Nat → Nat} {σ : KX} {τ : KM} (l : Launch) (C0 : LawAt p s m args meth c g b L xs) (hL : L ≤ 2560) (hi : i + 5 ≤ L) (h : Rel σ τ) (hP : va_P (gD g) vwCl (wL2 g ax am σ τ) H) (hD : va_D (fun q => s.heap.size ≤ q) (wL2 g ax am σ τ)) (hS : va_S (fun q => s.heap.size ≤ q) s.heap H locs) (hl : lv_has ls 4 [(3, .int (nI i)), (2, .ref (am 0)), (1, .ref (ax 0)), (0, .ref b)])
    (kk : ∀ (H1 : Heap) (locs1 : List Loc) (σ1 : KX) (τ1 : KM), Rel σ1 τ1 → va_P (gD g) vwCl (wL2 g ax am σ1 τ1) H1 → va_S (fun q => s.heap.size ≤ q) s.heap H1 locs1 → W p l e room_1 s m args below meth c H1 locs1 600000 7302249 Q (F0 m 1197 ls [])) : W p l e room_1 s m args below meth c H locs 600000 7302249 Q (F0 m 1174 ls []) := by
  have hx := C0.1
  have hb := C0.2.1
  have hX := C0.2.2.2.2.2.2.2.1
  have hbl := C0.2.2.2.2.2.2.2.2
  have hts := C0.2.2.2.2.1
  have hbA : ¬ (fun q : Nat => s.heap.size ≤ q) b := Nat.not_le.mpr hbl
  have hv0 : vp_in (nI i) L := vp_in_nI (by omega) (by omega)
  have hv1 : vp_in (nI i + 1) L := by rw [show (1 : Int32) = nI 1 from rfl, nI_add]; exact vp_in_nI (by omega) (by omega)
  have hv2 : vp_in (nI i + 2) L := by rw [show (2 : Int32) = nI 2 from rfl, nI_add]; exact vp_in_nI (by omega) (by omega)
  have hv3 : vp_in (nI i + 3) L := by rw [show (3 : Int32) = nI 3 from rfl, nI_add]; exact vp_in_nI (by omega) (by omega)
  have hv4 : vp_in (nI i + 4) L := by rw [show (4 : Int32) = nI 4 from rfl, nI_add]; exact vp_in_nI (by omega) (by omega)
  refine lv_aload_n hx hb dL_law_1174 rfl (lv_at hl 2 rfl) ?_
  refine lv_aload_n hx hb dL_law_1175 rfl (lv_at hl 3 rfl) ?_
  refine lv_iload_n hx hb dL_law_1176 rfl (lv_at hl 0 rfl) ?_
  refine lv_iconst (v := 1) hx hb dL_law_1177 (by decide) ?_
  refine lv_iadd hx hb dL_law_1178 ?_
  refine va_sld hx hb hX hbl hbA hS hv1 dL_law_1179 ?_
  refine W.eq (g2 := F0 m 1180 ls (([.int (xs (nI i + 1).toNatClampNeg)] : List Value).reverse ++ .ref (ax 0) :: [])) rfl ?_
  refine cx_ro C0 hl.1 (As := [.int (xs (nI i + 1).toNatClampNeg)]) (rest := []) (c_X2_count l g ax σ (xs (nI i + 1).toNatClampNeg) h.1) (cwV 1 hts gL_law_X2_count rfl rfl rfl (by decide +kernel) ⟨Nat.le_of_ble_eq_true rfl, Nat.le_of_ble_eq_true rfl⟩) rfl (Nat.le_of_ble_eq_true rfl) dL_law_1180 hP hS (fun r0 H locs w0 hP hS => ?_)
  refine lv_aload_n hx hb dL_law_1183 rfl (lv_at hl 1 rfl) ?_
  refine lv_aload_n hx hb dL_law_1184 rfl (lv_at hl 3 rfl) ?_
  refine lv_iload_n hx hb dL_law_1185 rfl (lv_at hl 0 rfl) ?_
  refine lv_iconst (v := 1) hx hb dL_law_1186 (by decide) ?_
  refine lv_iadd hx hb dL_law_1187 ?_
  refine va_sld hx hb hX hbl hbA hS hv1 dL_law_1188 ?_
  refine W.eq (g2 := F0 m 1189 ls (([.int (xs (nI i + 1).toNatClampNeg)] : List Value).reverse ++ .ref (am 0) :: [.int r0])) rfl ?_
  refine cm_ro C0 hl.1 (As := [.int (xs (nI i + 1).toNatClampNeg)]) (rest := [.int r0]) (c_X3_count l g am τ (xs (nI i + 1).toNatClampNeg) h.S.1) (cwV 1 hts gL_law_X3_count rfl rfl rfl (by decide +kernel) ⟨Nat.le_of_ble_eq_true rfl, Nat.le_of_ble_eq_true rfl⟩) rfl (Nat.le_of_ble_eq_true rfl) dL_law_1189 hP hS (fun r1 H locs w1 hP hS => ?_)
  obtain ⟨er, hR⟩ := s_count h (xs (nI i + 1).toNatClampNeg) r0 σ r1 τ ⟨w0, rfl⟩ ⟨w1, rfl⟩
  exact lv_icmp_eq (tgt := 1197) hx hb dL_law_1192 (by decide) (fun _ => kk H locs σ τ hR hP hS) (fun cn => absurd er cn)
