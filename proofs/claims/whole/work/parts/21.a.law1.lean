set_option maxHeartbeats 4000000 in
set_option maxRecDepth 100000 in
theorem lc_empties {p : Program} {e : Env} {s : State} {m : MethodId} {args : Array Value} {below : List Frame} {meth : Method} {c : Code} {H : Heap} {locs : List Loc} {Q : State → Prop} {ls : Array Slot} {g : CX} {b L i : Nat} {xs : Nat → Int32} {ax am : Nat → Nat} {σ : KX} {τ : KM} (l : Launch) (C0 : LawAt p s m args meth c g b L xs) (hL : L ≤ 2560) (hi : i + 5 ≤ L) (h : Rel σ τ) (hP : va_P (gD g) vwCl (wL2 g ax am σ τ) H) (hD : va_D (fun q => s.heap.size ≤ q) (wL2 g ax am σ τ)) (hS : va_S (fun q => s.heap.size ≤ q) s.heap H locs) (hl : lv_has ls 4 [(3, .int (nI i)), (2, .ref (am 0)), (1, .ref (ax 0)), (0, .ref b)])
    (kk : ∀ (H1 : Heap) (locs1 : List Loc) (σ1 : KX) (τ1 : KM), Rel σ1 τ1 → va_P (gD g) vwCl (wL2 g ax am σ1 τ1) H1 → va_S (fun q => s.heap.size ≤ q) s.heap H1 locs1 → W p l e room_1 s m args below meth c H1 locs1 600000 7302249 Q (F0 m 1197 ls [])) : W p l e room_1 s m args below meth c H locs 600000 7302249 Q (F0 m 490 ls []) := by
  have hx := C0.1
  have hb := C0.2.1
  have hX := C0.2.2.2.2.2.2.2.1
  have hbl := C0.2.2.2.2.2.2.2.2
  have hts := C0.2.2.2.2.1
  have hbA : ¬ (fun q : Nat => s.heap.size ≤ q) b := Nat.not_le.mpr hbl
  have hv0 : vp_in (nI i) L := vp_in_nI (by omega) (by omega)
  have hv1 : vp_in (nI i + 1) L := by rw [show (1 : Int32) = nI 1 from rfl, nI_add]; exact vp_in_nI (by omega) (by omega)
  have hv2 : vp_in (nI i + 2) L := by rw [show (2 : Int32) = nI 2 from rfl, nI_add]; exact vp_in_nI (by omega) (by omega)
  have hv3 : vp_in (nI i + 3) L := by rw [show (3 : Int32) = nI 3 from rfl, nI_add]; exact vp_in_nI (by omega) (by omega)
  have hv4 : vp_in (nI i + 4) L := by rw [show (4 : Int32) = nI 4 from rfl, nI_add]; exact vp_in_nI (by omega) (by omega)
  refine lv_aload_n hx hb dL_law_490 rfl (lv_at hl 2 rfl) ?_
  refine W.eq (g2 := F0 m 491 ls (([] : List Value).reverse ++ .ref (ax 0) :: [])) rfl ?_
  refine cx_int C0 hl.1 (As := []) (rest := []) (c_X2_empties l g ax σ) (cwV 0 hts gL_law_X2_empties rfl rfl rfl (by decide +kernel) ⟨Nat.le_of_ble_eq_true rfl, Nat.le_of_ble_eq_true rfl⟩) rfl (Nat.le_of_ble_eq_true rfl) dL_law_491 hP hD hS (fun r0 u0 H locs w0 hP hS => ?_)
  have hD := hD.addr (wL2_addr (σ' := u0) (τ' := τ))
  refine lv_aload_n hx hb dL_law_494 rfl (lv_at hl 1 rfl) ?_
  refine W.eq (g2 := F0 m 495 ls (([] : List Value).reverse ++ .ref (am 0) :: [.int r0])) rfl ?_
  refine cm_int C0 hl.1 (As := []) (rest := [.int r0]) (c_X3_empties l g am τ) (cwV 0 hts gL_law_X3_empties rfl rfl rfl (by decide +kernel) ⟨Nat.le_of_ble_eq_true rfl, Nat.le_of_ble_eq_true rfl⟩) rfl (Nat.le_of_ble_eq_true rfl) dL_law_495 hP hD hS (fun r1 u1 H locs w1 hP hS => ?_)
  have hD := hD.addr (wL2_addr (σ' := u0) (τ' := u1))
  obtain ⟨er, hR⟩ := s_empties h  r0 u0 r1 u1 w0 w1
  exact lv_icmp_eq (tgt := 1197) hx hb dL_law_498 (by decide) (fun _ => kk H locs u0 u1 hR hP hS) (fun cn => absurd er cn)
set_option maxHeartbeats 4000000 in
set_option maxRecDepth 100000 in
theorem lc_answer {p : Program} {e : Env} {s : State} {m : MethodId} {args : Array Value} {below : List Frame} {meth : Method} {c : Code} {H : Heap} {locs : List Loc} {Q : State → Prop} {ls : Array Slot} {g : CX} {b L i : Nat} {xs : Nat → Int32} {ax am : Nat → Nat} {σ : KX} {τ : KM} (l : Launch) (C0 : LawAt p s m args meth c g b L xs) (hL : L ≤ 2560) (hi : i + 5 ≤ L) (h : Rel σ τ) (hP : va_P (gD g) vwCl (wL2 g ax am σ τ) H) (hD : va_D (fun q => s.heap.size ≤ q) (wL2 g ax am σ τ)) (hS : va_S (fun q => s.heap.size ≤ q) s.heap H locs) (hl : lv_has ls 4 [(3, .int (nI i)), (2, .ref (am 0)), (1, .ref (ax 0)), (0, .ref b)])
    (kk : ∀ (H1 : Heap) (locs1 : List Loc) (σ1 : KX) (τ1 : KM), Rel σ1 τ1 → va_P (gD g) vwCl (wL2 g ax am σ1 τ1) H1 → va_S (fun q => s.heap.size ≤ q) s.heap H1 locs1 → W p l e room_1 s m args below meth c H1 locs1 600000 7302249 Q (F0 m 1197 ls [])) : W p l e room_1 s m args below meth c H locs 600000 7302249 Q (F0 m 503 ls []) := by
  have hx := C0.1
  have hb := C0.2.1
  have hX := C0.2.2.2.2.2.2.2.1
  have hbl := C0.2.2.2.2.2.2.2.2
  have hts := C0.2.2.2.2.1
  have hbA : ¬ (fun q : Nat => s.heap.size ≤ q) b := Nat.not_le.mpr hbl
  have hv0 : vp_in (nI i) L := vp_in_nI (by omega) (by omega)
  have hv1 : vp_in (nI i + 1) L := by rw [show (1 : Int32) = nI 1 from rfl, nI_add]; exact vp_in_nI (by omega) (by omega)
  have hv2 : vp_in (nI i + 2) L := by rw [show (2 : Int32) = nI 2 from rfl, nI_add]; exact vp_in_nI (by omega) (by omega)
  have hv3 : vp_in (nI i + 3) L := by rw [show (3 : Int32) = nI 3 from rfl, nI_add]; exact vp_in_nI (by omega) (by omega)
  have hv4 : vp_in (nI i + 4) L := by rw [show (4 : Int32) = nI 4 from rfl, nI_add]; exact vp_in_nI (by omega) (by omega)
  refine lv_aload_n hx hb dL_law_503 rfl (lv_at hl 2 rfl) ?_
  refine lv_aload_n hx hb dL_law_504 rfl (lv_at hl 3 rfl) ?_
  refine lv_iload_n hx hb dL_law_505 rfl (lv_at hl 0 rfl) ?_
  refine lv_iconst (v := 1) hx hb dL_law_506 (by decide) ?_
  refine lv_iadd hx hb dL_law_507 ?_
  refine va_sld hx hb hX hbl hbA hS hv1 dL_law_508 ?_
  refine lv_aload_n hx hb dL_law_509 rfl (lv_at hl 3 rfl) ?_
  refine lv_iload_n hx hb dL_law_510 rfl (lv_at hl 0 rfl) ?_
  refine lv_iconst (v := 2) hx hb dL_law_511 (by decide) ?_
  refine lv_iadd hx hb dL_law_512 ?_
  refine va_sld hx hb hX hbl hbA hS hv2 dL_law_513 ?_
  refine lv_aload_n hx hb dL_law_514 rfl (lv_at hl 3 rfl) ?_
  refine lv_iload_n hx hb dL_law_515 rfl (lv_at hl 0 rfl) ?_
  refine lv_iconst (v := 3) hx hb dL_law_516 (by decide) ?_
  refine lv_iadd hx hb dL_law_517 ?_
  refine va_sld hx hb hX hbl hbA hS hv3 dL_law_518 ?_
  refine W.eq (g2 := F0 m 519 ls (([.int (xs (nI i + 1).toNatClampNeg), .int (xs (nI i + 2).toNatClampNeg), .int (xs (nI i + 3).toNatClampNeg)] : List Value).reverse ++ .ref (ax 0) :: [])) rfl ?_
  refine cx_int C0 hl.1 (As := [.int (xs (nI i + 1).toNatClampNeg), .int (xs (nI i + 2).toNatClampNeg), .int (xs (nI i + 3).toNatClampNeg)]) (rest := []) (c_X2_answer l g ax σ (xs (nI i + 1).toNatClampNeg) (xs (nI i + 2).toNatClampNeg) (xs (nI i + 3).toNatClampNeg) h.1) (cwV 3 hts gL_law_X2_answer rfl rfl rfl (by decide +kernel) ⟨Nat.le_of_ble_eq_true rfl, Nat.le_of_ble_eq_true rfl⟩) rfl (Nat.le_of_ble_eq_true rfl) dL_law_519 hP hD hS (fun r0 u0 H locs w0 hP hS => ?_)
  have hD := hD.addr (wL2_addr (σ' := u0) (τ' := τ))
  refine lv_aload_n hx hb dL_law_522 rfl (lv_at hl 1 rfl) ?_
  refine lv_aload_n hx hb dL_law_523 rfl (lv_at hl 3 rfl) ?_
  refine lv_iload_n hx hb dL_law_524 rfl (lv_at hl 0 rfl) ?_
  refine lv_iconst (v := 1) hx hb dL_law_525 (by decide) ?_
  refine lv_iadd hx hb dL_law_526 ?_
  refine va_sld hx hb hX hbl hbA hS hv1 dL_law_527 ?_
  refine lv_aload_n hx hb dL_law_528 rfl (lv_at hl 3 rfl) ?_
  refine lv_iload_n hx hb dL_law_529 rfl (lv_at hl 0 rfl) ?_
  refine lv_iconst (v := 2) hx hb dL_law_530 (by decide) ?_
  refine lv_iadd hx hb dL_law_531 ?_
  refine va_sld hx hb hX hbl hbA hS hv2 dL_law_532 ?_
  refine lv_aload_n hx hb dL_law_533 rfl (lv_at hl 3 rfl) ?_
  refine lv_iload_n hx hb dL_law_534 rfl (lv_at hl 0 rfl) ?_
  refine lv_iconst (v := 3) hx hb dL_law_535 (by decide) ?_
  refine lv_iadd hx hb dL_law_536 ?_
  refine va_sld hx hb hX hbl hbA hS hv3 dL_law_537 ?_
  refine W.eq (g2 := F0 m 538 ls (([.int (xs (nI i + 1).toNatClampNeg), .int (xs (nI i + 2).toNatClampNeg), .int (xs (nI i + 3).toNatClampNeg)] : List Value).reverse ++ .ref (am 0) :: [.int r0])) rfl ?_
  refine cm_int C0 hl.1 (As := [.int (xs (nI i + 1).toNatClampNeg), .int (xs (nI i + 2).toNatClampNeg), .int (xs (nI i + 3).toNatClampNeg)]) (rest := [.int r0]) (c_X3_answer l g am τ (xs (nI i + 1).toNatClampNeg) (xs (nI i + 2).toNatClampNeg) (xs (nI i + 3).toNatClampNeg) h.S.1) (cwV 3 hts gL_law_X3_answer rfl rfl rfl (by decide +kernel) ⟨Nat.le_of_ble_eq_true rfl, Nat.le_of_ble_eq_true rfl⟩) rfl (Nat.le_of_ble_eq_true rfl) dL_law_538 hP hD hS (fun r1 u1 H locs w1 hP hS => ?_)
  have hD := hD.addr (wL2_addr (σ' := u0) (τ' := u1))
  obtain ⟨er, hR⟩ := s_answer h (xs (nI i + 1).toNatClampNeg) (xs (nI i + 2).toNatClampNeg) (xs (nI i + 3).toNatClampNeg) r0 u0 r1 u1 w0 w1
  exact lv_icmp_eq (tgt := 1197) hx hb dL_law_541 (by decide) (fun _ => kk H locs u0 u1 hR hP hS) (fun cn => absurd er cn)
set_option maxHeartbeats 4000000 in
set_option maxRecDepth 100000 in
theorem lc_fits {p : Program} {e : Env} {s : State} {m : MethodId} {args : Array Value} {below : List Frame} {meth : Method} {c : Code} {H : Heap} {locs : List Loc} {Q : State → Prop} {ls : Array Slot} {g : CX} {b L i : Nat} {xs : Nat → Int32} {ax am : Nat → Nat} {σ : KX} {τ : KM} (l : Launch) (C0 : LawAt p s m args meth c g b L xs) (hL : L ≤ 2560) (hi : i + 5 ≤ L) (h : Rel σ τ) (hP : va_P (gD g) vwCl (wL2 g ax am σ τ) H) (hD : va_D (fun q => s.heap.size ≤ q) (wL2 g ax am σ τ)) (hS : va_S (fun q => s.heap.size ≤ q) s.heap H locs) (hl : lv_has ls 4 [(3, .int (nI i)), (2, .ref (am 0)), (1, .ref (ax 0)), (0, .ref b)])
    (kk : ∀ (H1 : Heap) (locs1 : List Loc) (σ1 : KX) (τ1 : KM), Rel σ1 τ1 → va_P (gD g) vwCl (wL2 g ax am σ1 τ1) H1 → va_S (fun q => s.heap.size ≤ q) s.heap H1 locs1 → W p l e room_1 s m args below meth c H1 locs1 600000 7302249 Q (F0 m 1197 ls [])) : W p l e room_1 s m args below meth c H locs 600000 7302249 Q (F0 m 546 ls []) := by
  have hx := C0.1
  have hb := C0.2.1
  have hX := C0.2.2.2.2.2.2.2.1
  have hbl := C0.2.2.2.2.2.2.2.2
  have hts := C0.2.2.2.2.1
  have hbA : ¬ (fun q : Nat => s.heap.size ≤ q) b := Nat.not_le.mpr hbl
  have hv0 : vp_in (nI i) L := vp_in_nI (by omega) (by omega)
  have hv1 : vp_in (nI i + 1) L := by rw [show (1 : Int32) = nI 1 from rfl, nI_add]; exact vp_in_nI (by omega) (by omega)
  have hv2 : vp_in (nI i + 2) L := by rw [show (2 : Int32) = nI 2 from rfl, nI_add]; exact vp_in_nI (by omega) (by omega)
  have hv3 : vp_in (nI i + 3) L := by rw [show (3 : Int32) = nI 3 from rfl, nI_add]; exact vp_in_nI (by omega) (by omega)
  have hv4 : vp_in (nI i + 4) L := by rw [show (4 : Int32) = nI 4 from rfl, nI_add]; exact vp_in_nI (by omega) (by omega)
  refine lv_aload_n hx hb dL_law_546 rfl (lv_at hl 2 rfl) ?_
  refine lv_aload_n hx hb dL_law_547 rfl (lv_at hl 3 rfl) ?_
  refine lv_iload_n hx hb dL_law_548 rfl (lv_at hl 0 rfl) ?_
  refine lv_iconst (v := 1) hx hb dL_law_549 (by decide) ?_
  refine lv_iadd hx hb dL_law_550 ?_
  refine va_sld hx hb hX hbl hbA hS hv1 dL_law_551 ?_
  refine W.eq (g2 := F0 m 552 ls (([.int (xs (nI i + 1).toNatClampNeg)] : List Value).reverse ++ .ref (ax 0) :: [])) rfl ?_
  refine cx_int C0 hl.1 (As := [.int (xs (nI i + 1).toNatClampNeg)]) (rest := []) (c_X2_fits l g ax σ (xs (nI i + 1).toNatClampNeg) h.1) (cwV 1 hts gL_law_X2_fits rfl rfl rfl (by decide +kernel) ⟨Nat.le_of_ble_eq_true rfl, Nat.le_of_ble_eq_true rfl⟩) rfl (Nat.le_of_ble_eq_true rfl) dL_law_552 hP hD hS (fun r0 u0 H locs w0 hP hS => ?_)
  have hD := hD.addr (wL2_addr (σ' := u0) (τ' := τ))
  refine lv_aload_n hx hb dL_law_555 rfl (lv_at hl 1 rfl) ?_
  refine lv_aload_n hx hb dL_law_556 rfl (lv_at hl 3 rfl) ?_
  refine lv_iload_n hx hb dL_law_557 rfl (lv_at hl 0 rfl) ?_
  refine lv_iconst (v := 1) hx hb dL_law_558 (by decide) ?_
  refine lv_iadd hx hb dL_law_559 ?_
  refine va_sld hx hb hX hbl hbA hS hv1 dL_law_560 ?_
  refine W.eq (g2 := F0 m 561 ls (([.int (xs (nI i + 1).toNatClampNeg)] : List Value).reverse ++ .ref (am 0) :: [.int r0])) rfl ?_
  refine cm_int C0 hl.1 (As := [.int (xs (nI i + 1).toNatClampNeg)]) (rest := [.int r0]) (c_X3_fits l g am τ (xs (nI i + 1).toNatClampNeg) h.S.1) (cwV 1 hts gL_law_X3_fits rfl rfl rfl (by decide +kernel) ⟨Nat.le_of_ble_eq_true rfl, Nat.le_of_ble_eq_true rfl⟩) rfl (Nat.le_of_ble_eq_true rfl) dL_law_561 hP hD hS (fun r1 u1 H locs w1 hP hS => ?_)
  have hD := hD.addr (wL2_addr (σ' := u0) (τ' := u1))
  obtain ⟨er, hR⟩ := s_fits h (xs (nI i + 1).toNatClampNeg) r0 u0 r1 u1 w0 w1
  exact lv_icmp_eq (tgt := 1197) hx hb dL_law_564 (by decide) (fun _ => kk H locs u0 u1 hR hP hS) (fun cn => absurd er cn)
set_option maxHeartbeats 4000000 in
set_option maxRecDepth 100000 in
theorem lc_jury {p : Program} {e : Env} {s : State} {m : MethodId} {args : Array Value} {below : List Frame} {meth : Method} {c : Code} {H : Heap} {locs : List Loc} {Q : State → Prop} {ls : Array Slot} {g : CX} {b L i : Nat} {xs : Nat → Int32} {ax am : Nat → Nat} {σ : KX} {τ : KM} (l : Launch) (C0 : LawAt p s m args meth c g b L xs) (hL : L ≤ 2560) (hi : i + 5 ≤ L) (h : Rel σ τ) (hP : va_P (gD g) vwCl (wL2 g ax am σ τ) H) (hD : va_D (fun q => s.heap.size ≤ q) (wL2 g ax am σ τ)) (hS : va_S (fun q => s.heap.size ≤ q) s.heap H locs) (hl : lv_has ls 4 [(3, .int (nI i)), (2, .ref (am 0)), (1, .ref (ax 0)), (0, .ref b)])
    (kk : ∀ (H1 : Heap) (locs1 : List Loc) (σ1 : KX) (τ1 : KM), Rel σ1 τ1 → va_P (gD g) vwCl (wL2 g ax am σ1 τ1) H1 → va_S (fun q => s.heap.size ≤ q) s.heap H1 locs1 → W p l e room_1 s m args below meth c H1 locs1 600000 7302249 Q (F0 m 1197 ls [])) : W p l e room_1 s m args below meth c H locs 600000 7302249 Q (F0 m 569 ls []) := by
  have hx := C0.1
  have hb := C0.2.1
  have hX := C0.2.2.2.2.2.2.2.1
  have hbl := C0.2.2.2.2.2.2.2.2
  have hts := C0.2.2.2.2.1
  have hbA : ¬ (fun q : Nat => s.heap.size ≤ q) b := Nat.not_le.mpr hbl
  have hv0 : vp_in (nI i) L := vp_in_nI (by omega) (by omega)
  have hv1 : vp_in (nI i + 1) L := by rw [show (1 : Int32) = nI 1 from rfl, nI_add]; exact vp_in_nI (by omega) (by omega)
  have hv2 : vp_in (nI i + 2) L := by rw [show (2 : Int32) = nI 2 from rfl, nI_add]; exact vp_in_nI (by omega) (by omega)
  have hv3 : vp_in (nI i + 3) L := by rw [show (3 : Int32) = nI 3 from rfl, nI_add]; exact vp_in_nI (by omega) (by omega)
  have hv4 : vp_in (nI i + 4) L := by rw [show (4 : Int32) = nI 4 from rfl, nI_add]; exact vp_in_nI (by omega) (by omega)
  refine lv_aload_n hx hb dL_law_569 rfl (lv_at hl 2 rfl) ?_
  refine lv_aload_n hx hb dL_law_570 rfl (lv_at hl 3 rfl) ?_
  refine lv_iload_n hx hb dL_law_571 rfl (lv_at hl 0 rfl) ?_
  refine lv_iconst (v := 1) hx hb dL_law_572 (by decide) ?_
  refine lv_iadd hx hb dL_law_573 ?_
  refine va_sld hx hb hX hbl hbA hS hv1 dL_law_574 ?_
  refine W.eq (g2 := F0 m 575 ls (([.int (xs (nI i + 1).toNatClampNeg)] : List Value).reverse ++ .ref (ax 0) :: [])) rfl ?_
  refine cx_int C0 hl.1 (As := [.int (xs (nI i + 1).toNatClampNeg)]) (rest := []) (c_X2_jury l g ax σ (xs (nI i + 1).toNatClampNeg) h.1) (cwV 1 hts gL_law_X2_jury rfl rfl rfl (by decide +kernel) ⟨Nat.le_of_ble_eq_true rfl, Nat.le_of_ble_eq_true rfl⟩) rfl (Nat.le_of_ble_eq_true rfl) dL_law_575 hP hD hS (fun r0 u0 H locs w0 hP hS => ?_)
  have hD := hD.addr (wL2_addr (σ' := u0) (τ' := τ))
  refine lv_aload_n hx hb dL_law_578 rfl (lv_at hl 1 rfl) ?_
  refine lv_aload_n hx hb dL_law_579 rfl (lv_at hl 3 rfl) ?_
  refine lv_iload_n hx hb dL_law_580 rfl (lv_at hl 0 rfl) ?_
  refine lv_iconst (v := 1) hx hb dL_law_581 (by decide) ?_
  refine lv_iadd hx hb dL_law_582 ?_
  refine va_sld hx hb hX hbl hbA hS hv1 dL_law_583 ?_
  refine W.eq (g2 := F0 m 584 ls (([.int (xs (nI i + 1).toNatClampNeg)] : List Value).reverse ++ .ref (am 0) :: [.int r0])) rfl ?_
  refine cm_int C0 hl.1 (As := [.int (xs (nI i + 1).toNatClampNeg)]) (rest := [.int r0]) (c_X3_jury l g am τ (xs (nI i + 1).toNatClampNeg) h.S.1) (cwV 1 hts gL_law_X3_jury rfl rfl rfl (by decide +kernel) ⟨Nat.le_of_ble_eq_true rfl, Nat.le_of_ble_eq_true rfl⟩) rfl (Nat.le_of_ble_eq_true rfl) dL_law_584 hP hD hS (fun r1 u1 H locs w1 hP hS => ?_)
  have hD := hD.addr (wL2_addr (σ' := u0) (τ' := u1))
  obtain ⟨er, hR⟩ := s_jury h (xs (nI i + 1).toNatClampNeg) r0 u0 r1 u1 w0 w1
  exact lv_icmp_eq (tgt := 1197) hx hb dL_law_587 (by decide) (fun _ => kk H locs u0 u1 hR hP hS) (fun cn => absurd er cn)
set_option maxHeartbeats 4000000 in
set_option maxRecDepth 100000 in
theorem lc_sure {p : Program} {e : Env} {s : State} {m : MethodId} {args : Array Value} {below : List Frame} {meth : Method} {c : Code} {H : Heap} {locs : List Loc} {Q : State → Prop} {ls : Array Slot} {g : CX} {b L i : Nat} {xs : Nat → Int32} {ax am : Nat → Nat} {σ : KX} {τ : KM} (l : Launch) (C0 : LawAt p s m args meth c g b L xs) (hL : L ≤ 2560) (hi : i + 5 ≤ L) (h : Rel σ τ) (hP : va_P (gD g) vwCl (wL2 g ax am σ τ) H) (hD : va_D (fun q => s.heap.size ≤ q) (wL2 g ax am σ τ)) (hS : va_S (fun q => s.heap.size ≤ q) s.heap H locs) (hl : lv_has ls 4 [(3, .int (nI i)), (2, .ref (am 0)), (1, .ref (ax 0)), (0, .ref b)])
    (kk : ∀ (H1 : Heap) (locs1 : List Loc) (σ1 : KX) (τ1 : KM), Rel σ1 τ1 → va_P (gD g) vwCl (wL2 g ax am σ1 τ1) H1 → va_S (fun q => s.heap.size ≤ q) s.heap H1 locs1 → W p l e room_1 s m args below meth c H1 locs1 600000 7302249 Q (F0 m 1197 ls [])) : W p l e room_1 s m args below meth c H locs 600000 7302249 Q (F0 m 592 ls []) := by
  have hx := C0.1
  have hb := C0.2.1
  have hX := C0.2.2.2.2.2.2.2.1
  have hbl := C0.2.2.2.2.2.2.2.2
  have hts := C0.2.2.2.2.1
  have hbA : ¬ (fun q : Nat => s.heap.size ≤ q) b := Nat.not_le.mpr hbl
  have hv0 : vp_in (nI i) L := vp_in_nI (by omega) (by omega)
  have hv1 : vp_in (nI i + 1) L := by rw [show (1 : Int32) = nI 1 from rfl, nI_add]; exact vp_in_nI (by omega) (by omega)
  have hv2 : vp_in (nI i + 2) L := by rw [show (2 : Int32) = nI 2 from rfl, nI_add]; exact vp_in_nI (by omega) (by omega)
  have hv3 : vp_in (nI i + 3) L := by rw [show (3 : Int32) = nI 3 from rfl, nI_add]; exact vp_in_nI (by omega) (by omega)
  have hv4 : vp_in (nI i + 4) L := by rw [show (4 : Int32) = nI 4 from rfl, nI_add]; exact vp_in_nI (by omega) (by omega)
  refine lv_aload_n hx hb dL_law_592 rfl (lv_at hl 2 rfl) ?_
  refine lv_aload_n hx hb dL_law_593 rfl (lv_at hl 3 rfl) ?_
  refine lv_iload_n hx hb dL_law_594 rfl (lv_at hl 0 rfl) ?_
  refine lv_iconst (v := 1) hx hb dL_law_595 (by decide) ?_
  refine lv_iadd hx hb dL_law_596 ?_
  refine va_sld hx hb hX hbl hbA hS hv1 dL_law_597 ?_
  refine W.eq (g2 := F0 m 598 ls (([.int (xs (nI i + 1).toNatClampNeg)] : List Value).reverse ++ .ref (ax 0) :: [])) rfl ?_
  refine cx_int C0 hl.1 (As := [.int (xs (nI i + 1).toNatClampNeg)]) (rest := []) (c_X2_sure l g ax σ (xs (nI i + 1).toNatClampNeg) h.1) (cwV 1 hts gL_law_X2_sure rfl rfl rfl (by decide +kernel) ⟨Nat.le_of_ble_eq_true rfl, Nat.le_of_ble_eq_true rfl⟩) rfl (Nat.le_of_ble_eq_true rfl) dL_law_598 hP hD hS (fun r0 u0 H locs w0 hP hS => ?_)
  have hD := hD.addr (wL2_addr (σ' := u0) (τ' := τ))
  refine lv_aload_n hx hb dL_law_601 rfl (lv_at hl 1 rfl) ?_
  refine lv_aload_n hx hb dL_law_602 rfl (lv_at hl 3 rfl) ?_
  refine lv_iload_n hx hb dL_law_603 rfl (lv_at hl 0 rfl) ?_
  refine lv_iconst (v := 1) hx hb dL_law_604 (by decide) ?_
  refine lv_iadd hx hb dL_law_605 ?_
  refine va_sld hx hb hX hbl hbA hS hv1 dL_law_606 ?_
  refine W.eq (g2 := F0 m 607 ls (([.int (xs (nI i + 1).toNatClampNeg)] : List Value).reverse ++ .ref (am 0) :: [.int r0])) rfl ?_
  refine cm_int C0 hl.1 (As := [.int (xs (nI i + 1).toNatClampNeg)]) (rest := [.int r0]) (c_X3_sure l g am τ (xs (nI i + 1).toNatClampNeg) h.S.1) (cwV 1 hts gL_law_X3_sure rfl rfl rfl (by decide +kernel) ⟨Nat.le_of_ble_eq_true rfl, Nat.le_of_ble_eq_true rfl⟩) rfl (Nat.le_of_ble_eq_true rfl) dL_law_607 hP hD hS (fun r1 u1 H locs w1 hP hS => ?_)
  have hD := hD.addr (wL2_addr (σ' := u0) (τ' := u1))
  obtain ⟨er, hR⟩ := s_sure h (xs (nI i + 1).toNatClampNeg) r0 u0 r1 u1 w0 w1
  exact lv_icmp_eq (tgt := 1197) hx hb dL_law_610 (by decide) (fun _ => kk H locs u0 u1 hR hP hS) (fun cn => absurd er cn)
set_option maxHeartbeats 4000000 in
set_option maxRecDepth 100000 in
theorem lc_next {p : Program} {e : Env} {s : State} {m : MethodId} {args : Array Value} {below : List Frame} {meth : Method} {c : Code} {H : Heap} {locs : List Loc} {Q : State → Prop} {ls : Array Slot} {g : CX} {b L i : Nat} {xs : Nat → Int32} {ax am : Nat → Nat} {σ : KX} {τ : KM} (l : Launch) (C0 : LawAt p s m args meth c g b L xs) (hL : L ≤ 2560) (hi : i + 5 ≤ L) (h : Rel σ τ) (hP : va_P (gD g) vwCl (wL2 g ax am σ τ) H) (hD : va_D (fun q => s.heap.size ≤ q) (wL2 g ax am σ τ)) (hS : va_S (fun q => s.heap.size ≤ q) s.heap H locs) (hl : lv_has ls 4 [(3, .int (nI i)), (2, .ref (am 0)), (1, .ref (ax 0)), (0, .ref b)])
    (kk : ∀ (H1 : Heap) (locs1 : List Loc) (σ1 : KX) (τ1 : KM), Rel σ1 τ1 → va_P (gD g) vwCl (wL2 g ax am σ1 τ1) H1 → va_S (fun q => s.heap.size ≤ q) s.heap H1 locs1 → W p l e room_1 s m args below meth c H1 locs1 600000 7302249 Q (F0 m 1197 ls [])) : W p l e room_1 s m args below meth c H locs 600000 7302249 Q (F0 m 615 ls []) := by
  have hx := C0.1
  have hb := C0.2.1
  have hX := C0.2.2.2.2.2.2.2.1
  have hbl := C0.2.2.2.2.2.2.2.2
  have hts := C0.2.2.2.2.1
  have hbA : ¬ (fun q : Nat => s.heap.size ≤ q) b := Nat.not_le.mpr hbl
  have hv0 : vp_in (nI i) L := vp_in_nI (by omega) (by omega)
  have hv1 : vp_in (nI i + 1) L := by rw [show (1 : Int32) = nI 1 from rfl, nI_add]; exact vp_in_nI (by omega) (by omega)
  have hv2 : vp_in (nI i + 2) L := by rw [show (2 : Int32) = nI 2 from rfl, nI_add]; exact vp_in_nI (by omega) (by omega)
  have hv3 : vp_in (nI i + 3) L := by rw [show (3 : Int32) = nI 3 from rfl, nI_add]; exact vp_in_nI (by omega) (by omega)
  have hv4 : vp_in (nI i + 4) L := by rw [show (4 : Int32) = nI 4 from rfl, nI_add]; exact vp_in_nI (by omega) (by omega)
  refine lv_aload_n hx hb dL_law_615 rfl (lv_at hl 2 rfl) ?_
  refine lv_aload_n hx hb dL_law_616 rfl (lv_at hl 3 rfl) ?_
  refine lv_iload_n hx hb dL_law_617 rfl (lv_at hl 0 rfl) ?_
  refine lv_iconst (v := 1) hx hb dL_law_618 (by decide) ?_
  refine lv_iadd hx hb dL_law_619 ?_
  refine va_sld hx hb hX hbl hbA hS hv1 dL_law_620 ?_
  refine W.eq (g2 := F0 m 621 ls (([.int (xs (nI i + 1).toNatClampNeg)] : List Value).reverse ++ .ref (ax 0) :: [])) rfl ?_
  refine cx_int C0 hl.1 (As := [.int (xs (nI i + 1).toNatClampNeg)]) (rest := []) (c_X2_next l g ax σ (xs (nI i + 1).toNatClampNeg) h.1) (cwV 1 hts gL_law_X2_next rfl rfl rfl (by decide +kernel) ⟨Nat.le_of_ble_eq_true rfl, Nat.le_of_ble_eq_true rfl⟩) rfl (Nat.le_of_ble_eq_true rfl) dL_law_621 hP hD hS (fun r0 u0 H locs w0 hP hS => ?_)
  have hD := hD.addr (wL2_addr (σ' := u0) (τ' := τ))
  refine lv_aload_n hx hb dL_law_624 rfl (lv_at hl 1 rfl) ?_
  refine lv_aload_n hx hb dL_law_625 rfl (lv_at hl 3 rfl) ?_
  refine lv_iload_n hx hb dL_law_626 rfl (lv_at hl 0 rfl) ?_
  refine lv_iconst (v := 1) hx hb dL_law_627 (by decide) ?_
  refine lv_iadd hx hb dL_law_628 ?_
  refine va_sld hx hb hX hbl hbA hS hv1 dL_law_629 ?_
  refine W.eq (g2 := F0 m 630 ls (([.int (xs (nI i + 1).toNatClampNeg)] : List Value).reverse ++ .ref (am 0) :: [.int r0])) rfl ?_
  refine cm_int C0 hl.1 (As := [.int (xs (nI i + 1).toNatClampNeg)]) (rest := [.int r0]) (c_X3_next_ l g am τ (xs (nI i + 1).toNatClampNeg) h.S.1) (cwV 1 hts gL_law_X3_next_ rfl rfl rfl (by decide +kernel) ⟨Nat.le_of_ble_eq_true rfl, Nat.le_of_ble_eq_true rfl⟩) rfl (Nat.le_of_ble_eq_true rfl) dL_law_630 hP hD hS (fun r1 u1 H locs w1 hP hS => ?_)
  have hD := hD.addr (wL2_addr (σ' := u0) (τ' := u1))
  obtain ⟨er, hR⟩ := s_next h (xs (nI i + 1).toNatClampNeg) r0 u0 r1 u1 w0 w1
  exact lv_icmp_eq (tgt := 1197) hx hb dL_law_633 (by decide) (fun _ => kk H locs u0 u1 hR hP hS) (fun cn => absurd er cn)
set_option maxHeartbeats 4000000 in
set_option maxRecDepth 100000 in
theorem lc_settle {p : Program} {e : Env} {s : State} {m : MethodId} {args : Array Value} {below : List Frame} {meth : Method} {c : Code} {H : Heap} {locs : List Loc} {Q : State → Prop} {ls : Array Slot} {g : CX} {b L i : Nat} {xs : Nat → Int32} {ax am : Nat → Nat} {σ : KX} {τ : KM} (l : Launch) (C0 : LawAt p s m args meth c g b L xs) (hL : L ≤ 2560) (hi : i + 5 ≤ L) (h : Rel σ τ) (hP : va_P (gD g) vwCl (wL2 g ax am σ τ) H) (hD : va_D (fun q => s.heap.size ≤ q) (wL2 g ax am σ τ)) (hS : va_S (fun q => s.heap.size ≤ q) s.heap H locs) (hl : lv_has ls 4 [(3, .int (nI i)), (2, .ref (am 0)), (1, .ref (ax 0)), (0, .ref b)])
    (kk : ∀ (H1 : Heap) (locs1 : List Loc) (σ1 : KX) (τ1 : KM), Rel σ1 τ1 → va_P (gD g) vwCl (wL2 g ax am σ1 τ1) H1 → va_S (fun q => s.heap.size ≤ q) s.heap H1 locs1 → W p l e room_1 s m args below meth c H1 locs1 600000 7302249 Q (F0 m 1197 ls [])) : W p l e room_1 s m args below meth c H locs 600000 7302249 Q (F0 m 638 ls []) := by
  have hx := C0.1
  have hb := C0.2.1
  have hX := C0.2.2.2.2.2.2.2.1
  have hbl := C0.2.2.2.2.2.2.2.2
  have hts := C0.2.2.2.2.1
  have hbA : ¬ (fun q : Nat => s.heap.size ≤ q) b := Nat.not_le.mpr hbl
  have hv0 : vp_in (nI i) L := vp_in_nI (by omega) (by omega)
  have hv1 : vp_in (nI i + 1) L := by rw [show (1 : Int32) = nI 1 from rfl, nI_add]; exact vp_in_nI (by omega) (by omega)
  have hv2 : vp_in (nI i + 2) L := by rw [show (2 : Int32) = nI 2 from rfl, nI_add]; exact vp_in_nI (by omega) (by omega)
  have hv3 : vp_in (nI i + 3) L := by rw [show (3 : Int32) = nI 3 from rfl, nI_add]; exact vp_in_nI (by omega) (by omega)
  have hv4 : vp_in (nI i + 4) L := by rw [show (4 : Int32) = nI 4 from rfl, nI_add]; exact vp_in_nI (by omega) (by omega)
  refine lv_aload_n hx hb dL_law_638 rfl (lv_at hl 2 rfl) ?_
  refine lv_aload_n hx hb dL_law_639 rfl (lv_at hl 3 rfl) ?_
  refine lv_iload_n hx hb dL_law_640 rfl (lv_at hl 0 rfl) ?_
  refine lv_iconst (v := 1) hx hb dL_law_641 (by decide) ?_
  refine lv_iadd hx hb dL_law_642 ?_
  refine va_sld hx hb hX hbl hbA hS hv1 dL_law_643 ?_
  refine lv_aload_n hx hb dL_law_644 rfl (lv_at hl 3 rfl) ?_
  refine lv_iload_n hx hb dL_law_645 rfl (lv_at hl 0 rfl) ?_
  refine lv_iconst (v := 2) hx hb dL_law_646 (by decide) ?_
  refine lv_iadd hx hb dL_law_647 ?_
  refine va_sld hx hb hX hbl hbA hS hv2 dL_law_648 ?_
  refine lv_aload_n hx hb dL_law_649 rfl (lv_at hl 3 rfl) ?_
  refine lv_iload_n hx hb dL_law_650 rfl (lv_at hl 0 rfl) ?_
  refine lv_iconst (v := 3) hx hb dL_law_651 (by decide) ?_
  refine lv_iadd hx hb dL_law_652 ?_
  refine va_sld hx hb hX hbl hbA hS hv3 dL_law_653 ?_
  refine W.eq (g2 := F0 m 654 ls (([.int (xs (nI i + 1).toNatClampNeg), .int (xs (nI i + 2).toNatClampNeg), .int (xs (nI i + 3).toNatClampNeg)] : List Value).reverse ++ .ref (ax 0) :: [])) rfl ?_
  refine cx_int C0 hl.1 (As := [.int (xs (nI i + 1).toNatClampNeg), .int (xs (nI i + 2).toNatClampNeg), .int (xs (nI i + 3).toNatClampNeg)]) (rest := []) (c_X2_settle l g ax σ (xs (nI i + 1).toNatClampNeg) (xs (nI i + 2).toNatClampNeg) (xs (nI i + 3).toNatClampNeg) h.1) (cwV 3 hts gL_law_X2_settle rfl rfl rfl (by decide +kernel) ⟨Nat.le_of_ble_eq_true rfl, Nat.le_of_ble_eq_true rfl⟩) rfl (Nat.le_of_ble_eq_true rfl) dL_law_654 hP hD hS (fun r0 u0 H locs w0 hP hS => ?_)
  have hD := hD.addr (wL2_addr (σ' := u0) (τ' := τ))
  refine lv_aload_n hx hb dL_law_657 rfl (lv_at hl 1 rfl) ?_
  refine lv_aload_n hx hb dL_law_658 rfl (lv_at hl 3 rfl) ?_
  refine lv_iload_n hx hb dL_law_659 rfl (lv_at hl 0 rfl) ?_
  refine lv_iconst (v := 1) hx hb dL_law_660 (by decide) ?_
  refine lv_iadd hx hb dL_law_661 ?_
  refine va_sld hx hb hX hbl hbA hS hv1 dL_law_662 ?_
  refine lv_aload_n hx hb dL_law_663 rfl (lv_at hl 3 rfl) ?_
  refine lv_iload_n hx hb dL_law_664 rfl (lv_at hl 0 rfl) ?_
  refine lv_iconst (v := 2) hx hb dL_law_665 (by decide) ?_
  refine lv_iadd hx hb dL_law_666 ?_
  refine va_sld hx hb hX hbl hbA hS hv2 dL_law_667 ?_
  refine lv_aload_n hx hb dL_law_668 rfl (lv_at hl 3 rfl) ?_
  refine lv_iload_n hx hb dL_law_669 rfl (lv_at hl 0 rfl) ?_
  refine lv_iconst (v := 3) hx hb dL_law_670 (by decide) ?_
  refine lv_iadd hx hb dL_law_671 ?_
  refine va_sld hx hb hX hbl hbA hS hv3 dL_law_672 ?_
  refine W.eq (g2 := F0 m 673 ls (([.int (xs (nI i + 1).toNatClampNeg), .int (xs (nI i + 2).toNatClampNeg), .int (xs (nI i + 3).toNatClampNeg)] : List Value).reverse ++ .ref (am 0) :: [.int r0])) rfl ?_
  refine cm_int C0 hl.1 (As := [.int (xs (nI i + 1).toNatClampNeg), .int (xs (nI i + 2).toNatClampNeg), .int (xs (nI i + 3).toNatClampNeg)]) (rest := [.int r0]) (c_X3_settle l g am τ (xs (nI i + 1).toNatClampNeg) (xs (nI i + 2).toNatClampNeg) (xs (nI i + 3).toNatClampNeg) h.S.1) (cwV 3 hts gL_law_X3_settle rfl rfl rfl (by decide +kernel) ⟨Nat.le_of_ble_eq_true rfl, Nat.le_of_ble_eq_true rfl⟩) rfl (Nat.le_of_ble_eq_true rfl) dL_law_673 hP hD hS (fun r1 u1 H locs w1 hP hS => ?_)
  have hD := hD.addr (wL2_addr (σ' := u0) (τ' := u1))
  obtain ⟨er, hR⟩ := s_settle h (xs (nI i + 1).toNatClampNeg) (xs (nI i + 2).toNatClampNeg) (xs (nI i + 3).toNatClampNeg) r0 u0 r1 u1 w0 w1
  exact lv_icmp_eq (tgt := 1197) hx hb dL_law_676 (by decide) (fun _ => kk H locs u0 u1 hR hP hS) (fun cn => absurd er cn)
set_option maxHeartbeats 4000000 in
set_option maxRecDepth 100000 in
theorem lc_words {p : Program} {e : Env} {s : State} {m : MethodId} {args : Array Value} {below : List Frame} {meth : Method} {c : Code} {H : Heap} {locs : List Loc} {Q : State → Prop} {ls : Array Slot} {g : CX} {b L i : Nat} {xs : Nat → Int32} {ax am : Nat → Nat} {σ : KX} {τ : KM} (l : Launch) (C0 : LawAt p s m args meth c g b L xs) (hL : L ≤ 2560) (hi : i + 5 ≤ L) (h : Rel σ τ) (hP : va_P (gD g) vwCl (wL2 g ax am σ τ) H) (hD : va_D (fun q => s.heap.size ≤ q) (wL2 g ax am σ τ)) (hS : va_S (fun q => s.heap.size ≤ q) s.heap H locs) (hl : lv_has ls 4 [(3, .int (nI i)), (2, .ref (am 0)), (1, .ref (ax 0)), (0, .ref b)])
    (kk : ∀ (H1 : Heap) (locs1 : List Loc) (σ1 : KX) (τ1 : KM), Rel σ1 τ1 → va_P (gD g) vwCl (wL2 g ax am σ1 τ1) H1 → va_S (fun q => s.heap.size ≤ q) s.heap H1 locs1 → W p l e room_1 s m args below meth c H1 locs1 600000 7302249 Q (F0 m 1197 ls [])) : W p l e room_1 s m args below meth c H locs 600000 7302249 Q (F0 m 681 ls []) := by
  have hx := C0.1
  have hb := C0.2.1
  have hX := C0.2.2.2.2.2.2.2.1
  have hbl := C0.2.2.2.2.2.2.2.2
  have hts := C0.2.2.2.2.1
  have hbA : ¬ (fun q : Nat => s.heap.size ≤ q) b := Nat.not_le.mpr hbl
  have hv0 : vp_in (nI i) L := vp_in_nI (by omega) (by omega)
  have hv1 : vp_in (nI i + 1) L := by rw [show (1 : Int32) = nI 1 from rfl, nI_add]; exact vp_in_nI (by omega) (by omega)
  have hv2 : vp_in (nI i + 2) L := by rw [show (2 : Int32) = nI 2 from rfl, nI_add]; exact vp_in_nI (by omega) (by omega)
  have hv3 : vp_in (nI i + 3) L := by rw [show (3 : Int32) = nI 3 from rfl, nI_add]; exact vp_in_nI (by omega) (by omega)
  have hv4 : vp_in (nI i + 4) L := by rw [show (4 : Int32) = nI 4 from rfl, nI_add]; exact vp_in_nI (by omega) (by omega)
  refine lv_aload_n hx hb dL_law_681 rfl (lv_at hl 2 rfl) ?_
  refine lv_aload_n hx hb dL_law_682 rfl (lv_at hl 3 rfl) ?_
  refine lv_iload_n hx hb dL_law_683 rfl (lv_at hl 0 rfl) ?_
  refine lv_iconst (v := 1) hx hb dL_law_684 (by decide) ?_
  refine lv_iadd hx hb dL_law_685 ?_
  refine va_sld hx hb hX hbl hbA hS hv1 dL_law_686 ?_
  refine lv_aload_n hx hb dL_law_687 rfl (lv_at hl 3 rfl) ?_
  refine lv_iload_n hx hb dL_law_688 rfl (lv_at hl 0 rfl) ?_
  refine lv_iconst (v := 2) hx hb dL_law_689 (by decide) ?_
  refine lv_iadd hx hb dL_law_690 ?_
  refine va_sld hx hb hX hbl hbA hS hv2 dL_law_691 ?_
  refine W.eq (g2 := F0 m 692 ls (([.int (xs (nI i + 1).toNatClampNeg), .int (xs (nI i + 2).toNatClampNeg)] : List Value).reverse ++ .ref (ax 0) :: [])) rfl ?_
  refine cx_int C0 hl.1 (As := [.int (xs (nI i + 1).toNatClampNeg), .int (xs (nI i + 2).toNatClampNeg)]) (rest := []) (c_X2_words l g ax σ (xs (nI i + 1).toNatClampNeg) (xs (nI i + 2).toNatClampNeg) h.1) (cwV 2 hts gL_law_X2_words rfl rfl rfl (by decide +kernel) ⟨Nat.le_of_ble_eq_true rfl, Nat.le_of_ble_eq_true rfl⟩) rfl (Nat.le_of_ble_eq_true rfl) dL_law_692 hP hD hS (fun r0 u0 H locs w0 hP hS => ?_)
  have hD := hD.addr (wL2_addr (σ' := u0) (τ' := τ))
  refine lv_aload_n hx hb dL_law_695 rfl (lv_at hl 1 rfl) ?_
  refine lv_aload_n hx hb dL_law_696 rfl (lv_at hl 3 rfl) ?_
  refine lv_iload_n hx hb dL_law_697 rfl (lv_at hl 0 rfl) ?_
  refine lv_iconst (v := 1) hx hb dL_law_698 (by decide) ?_
  refine lv_iadd hx hb dL_law_699 ?_
  refine va_sld hx hb hX hbl hbA hS hv1 dL_law_700 ?_
  refine lv_aload_n hx hb dL_law_701 rfl (lv_at hl 3 rfl) ?_
  refine lv_iload_n hx hb dL_law_702 rfl (lv_at hl 0 rfl) ?_
  refine lv_iconst (v := 2) hx hb dL_law_703 (by decide) ?_
  refine lv_iadd hx hb dL_law_704 ?_
  refine va_sld hx hb hX hbl hbA hS hv2 dL_law_705 ?_
  refine W.eq (g2 := F0 m 706 ls (([.int (xs (nI i + 1).toNatClampNeg), .int (xs (nI i + 2).toNatClampNeg)] : List Value).reverse ++ .ref (am 0) :: [.int r0])) rfl ?_
  refine cm_int C0 hl.1 (As := [.int (xs (nI i + 1).toNatClampNeg), .int (xs (nI i + 2).toNatClampNeg)]) (rest := [.int r0]) (c_X3_words l g am τ (xs (nI i + 1).toNatClampNeg) (xs (nI i + 2).toNatClampNeg) h.S.1) (cwV 2 hts gL_law_X3_words rfl rfl rfl (by decide +kernel) ⟨Nat.le_of_ble_eq_true rfl, Nat.le_of_ble_eq_true rfl⟩) rfl (Nat.le_of_ble_eq_true rfl) dL_law_706 hP hD hS (fun r1 u1 H locs w1 hP hS => ?_)
  have hD := hD.addr (wL2_addr (σ' := u0) (τ' := u1))
  obtain ⟨er, hR⟩ := s_words h (xs (nI i + 1).toNatClampNeg) (xs (nI i + 2).toNatClampNeg) r0 u0 r1 u1 w0 w1
  exact lv_icmp_eq (tgt := 1197) hx hb dL_law_709 (by decide) (fun _ => kk H locs u0 u1 hR hP hS) (fun cn => absurd er cn)
set_option maxHeartbeats 4000000 in
set_option maxRecDepth 100000 in
theorem lc_liars {p : Program} {e : Env} {s : State} {m : MethodId} {args : Array Value} {below : List Frame} {meth : Method} {c : Code} {H : Heap} {locs : List Loc} {Q : State → Prop} {ls : Array Slot} {g : CX} {b L i : Nat} {xs : Nat → Int32} {ax am : Nat → Nat} {σ : KX} {τ : KM} (l : Launch) (C0 : LawAt p s m args meth c g b L xs) (hL : L ≤ 2560) (hi : i + 5 ≤ L) (h : Rel σ τ) (hP : va_P (gD g) vwCl (wL2 g ax am σ τ) H) (hD : va_D (fun q => s.heap.size ≤ q) (wL2 g ax am σ τ)) (hS : va_S (fun q => s.heap.size ≤ q) s.heap H locs) (hl : lv_has ls 4 [(3, .int (nI i)), (2, .ref (am 0)), (1, .ref (ax 0)), (0, .ref b)])
    (kk : ∀ (H1 : Heap) (locs1 : List Loc) (σ1 : KX) (τ1 : KM), Rel σ1 τ1 → va_P (gD g) vwCl (wL2 g ax am σ1 τ1) H1 → va_S (fun q => s.heap.size ≤ q) s.heap H1 locs1 → W p l e room_1 s m args below meth c H1 locs1 600000 7302249 Q (F0 m 1197 ls [])) : W p l e room_1 s m args below meth c H locs 600000 7302249 Q (F0 m 714 ls []) := by
  have hx := C0.1
  have hb := C0.2.1
  have hX := C0.2.2.2.2.2.2.2.1
  have hbl := C0.2.2.2.2.2.2.2.2
  have hts := C0.2.2.2.2.1
  have hbA : ¬ (fun q : Nat => s.heap.size ≤ q) b := Nat.not_le.mpr hbl
  have hv0 : vp_in (nI i) L := vp_in_nI (by omega) (by omega)
  have hv1 : vp_in (nI i + 1) L := by rw [show (1 : Int32) = nI 1 from rfl, nI_add]; exact vp_in_nI (by omega) (by omega)
  have hv2 : vp_in (nI i + 2) L := by rw [show (2 : Int32) = nI 2 from rfl, nI_add]; exact vp_in_nI (by omega) (by omega)
  have hv3 : vp_in (nI i + 3) L := by rw [show (3 : Int32) = nI 3 from rfl, nI_add]; exact vp_in_nI (by omega) (by omega)
  have hv4 : vp_in (nI i + 4) L := by rw [show (4 : Int32) = nI 4 from rfl, nI_add]; exact vp_in_nI (by omega) (by omega)
  refine lv_aload_n hx hb dL_law_714 rfl (lv_at hl 2 rfl) ?_
  refine W.eq (g2 := F0 m 715 ls (([] : List Value).reverse ++ .ref (ax 0) :: [])) rfl ?_
  refine cx_ro C0 hl.1 (As := []) (rest := []) (c_X2_liars l g ax σ h.1) (cwV 0 hts gL_law_X2_liars rfl rfl rfl (by decide +kernel) ⟨Nat.le_of_ble_eq_true rfl, Nat.le_of_ble_eq_true rfl⟩) rfl (Nat.le_of_ble_eq_true rfl) dL_law_715 hP hS (fun r0 H locs w0 hP hS => ?_)
  refine lv_aload_n hx hb dL_law_718 rfl (lv_at hl 1 rfl) ?_
  refine W.eq (g2 := F0 m 719 ls (([] : List Value).reverse ++ .ref (am 0) :: [.int r0])) rfl ?_
  refine cm_int C0 hl.1 (As := []) (rest := [.int r0]) (c_X3_liars l g am τ h.S.1) (cwV 0 hts gL_law_X3_liars rfl rfl rfl (by decide +kernel) ⟨Nat.le_of_ble_eq_true rfl, Nat.le_of_ble_eq_true rfl⟩) rfl (Nat.le_of_ble_eq_true rfl) dL_law_719 hP hD hS (fun r1 u1 H locs w1 hP hS => ?_)
  have hD := hD.addr (wL2_addr (σ' := σ) (τ' := u1))
  obtain ⟨er, hR⟩ := s_liars h  r0 σ r1 u1 ⟨w0, rfl⟩ w1
  exact lv_icmp_eq (tgt := 1197) hx hb dL_law_722 (by decide) (fun _ => kk H locs σ u1 hR hP hS) (fun cn => absurd er cn)
set_option maxHeartbeats 4000000 in
set_option maxRecDepth 100000 in
theorem lc_clash {p : Program} {e : Env} {s : State} {m : MethodId} {args : Array Value} {below : List Frame} {meth : Method} {c : Code} {H : Heap} {locs : List Loc} {Q : State → Prop} {ls : Array Slot} {g : CX} {b L i : Nat} {xs : Nat → Int32} {ax am : Nat → Nat} {σ : KX} {τ : KM} (l : Launch) (C0 : LawAt p s m args meth c g b L xs) (hL : L ≤ 2560) (hi : i + 5 ≤ L) (h : Rel σ τ) (hP : va_P (gD g) vwCl (wL2 g ax am σ τ) H) (hD : va_D (fun q => s.heap.size ≤ q) (wL2 g ax am σ τ)) (hS : va_S (fun q => s.heap.size ≤ q) s.heap H locs) (hl : lv_has ls 4 [(3, .int (nI i)), (2, .ref (am 0)), (1, .ref (ax 0)), (0, .ref b)])
    (kk : ∀ (H1 : Heap) (locs1 : List Loc) (σ1 : KX) (τ1 : KM), Rel σ1 τ1 → va_P (gD g) vwCl (wL2 g ax am σ1 τ1) H1 → va_S (fun q => s.heap.size ≤ q) s.heap H1 locs1 → W p l e room_1 s m args below meth c H1 locs1 600000 7302249 Q (F0 m 1197 ls [])) : W p l e room_1 s m args below meth c H locs 600000 7302249 Q (F0 m 727 ls []) := by
  have hx := C0.1
  have hb := C0.2.1
  have hX := C0.2.2.2.2.2.2.2.1
  have hbl := C0.2.2.2.2.2.2.2.2
  have hts := C0.2.2.2.2.1
  have hbA : ¬ (fun q : Nat => s.heap.size ≤ q) b := Nat.not_le.mpr hbl
  have hv0 : vp_in (nI i) L := vp_in_nI (by omega) (by omega)
  have hv1 : vp_in (nI i + 1) L := by rw [show (1 : Int32) = nI 1 from rfl, nI_add]; exact vp_in_nI (by omega) (by omega)
  have hv2 : vp_in (nI i + 2) L := by rw [show (2 : Int32) = nI 2 from rfl, nI_add]; exact vp_in_nI (by omega) (by omega)
  have hv3 : vp_in (nI i + 3) L := by rw [show (3 : Int32) = nI 3 from rfl, nI_add]; exact vp_in_nI (by omega) (by omega)
  have hv4 : vp_in (nI i + 4) L := by rw [show (4 : Int32) = nI 4 from rfl, nI_add]; exact vp_in_nI (by omega) (by omega)
  refine lv_aload_n hx hb dL_law_727 rfl (lv_at hl 2 rfl) ?_
  refine W.eq (g2 := F0 m 728 ls (([] : List Value).reverse ++ .ref (ax 0) :: [])) rfl ?_
  refine cx_ro C0 hl.1 (As := []) (rest := []) (c_X2_clash l g ax σ h.1) (cwV 0 hts gL_law_X2_clash rfl rfl rfl (by decide +kernel) ⟨Nat.le_of_ble_eq_true rfl, Nat.le_of_ble_eq_true rfl⟩) rfl (Nat.le_of_ble_eq_true rfl) dL_law_728 hP hS (fun r0 H locs w0 hP hS => ?_)
  refine lv_aload_n hx hb dL_law_731 rfl (lv_at hl 1 rfl) ?_
  refine W.eq (g2 := F0 m 732 ls (([] : List Value).reverse ++ .ref (am 0) :: [.int r0])) rfl ?_
  refine cm_ro C0 hl.1 (As := []) (rest := [.int r0]) (c_X3_clash l g am τ h.S.1) (cwV 0 hts gL_law_X3_clash rfl rfl rfl (by decide +kernel) ⟨Nat.le_of_ble_eq_true rfl, Nat.le_of_ble_eq_true rfl⟩) rfl (Nat.le_of_ble_eq_true rfl) dL_law_732 hP hS (fun r1 H locs w1 hP hS => ?_)
  obtain ⟨er, hR⟩ := s_clash h  r0 σ r1 τ ⟨w0, rfl⟩ ⟨w1, rfl⟩
  exact lv_icmp_eq (tgt := 1197) hx hb dL_law_735 (by decide) (fun _ => kk H locs σ τ hR hP hS) (fun cn => absurd er cn)
