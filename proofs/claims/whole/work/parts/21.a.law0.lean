set_option maxHeartbeats 4000000 in
set_option maxRecDepth 100000 in
theorem lc_letter {p : Program} {e : Env} {s : State} {m : MethodId} {args : Array Value} {below : List Frame} {meth : Method} {c : Code} {H : Heap} {locs : List Loc} {Q : State → Prop} {ls : Array Slot} {g : CX} {b L i : Nat} {xs : Nat → Int32} {ax am : Nat → Nat} {σ : KX} {τ : KM} (l : Launch) (C0 : LawAt p s m args meth c g b L xs) (hL : L ≤ 2560) (hi : i + 5 ≤ L) (h : Rel σ τ) (hP : va_P (gD g) vwCl (wL2 g ax am σ τ) H) (hD : va_D (fun q => s.heap.size ≤ q) (wL2 g ax am σ τ)) (hS : va_S (fun q => s.heap.size ≤ q) s.heap H locs) (hl : lv_has ls 4 [(3, .int (nI i)), (2, .ref (am 0)), (1, .ref (ax 0)), (0, .ref b)])
    (kk : ∀ (H1 : Heap) (locs1 : List Loc) (σ1 : KX) (τ1 : KM), Rel σ1 τ1 → va_P (gD g) vwCl (wL2 g ax am σ1 τ1) H1 → va_S (fun q => s.heap.size ≤ q) s.heap H1 locs1 → W p l e room_1 s m args below meth c H1 locs1 600000 7302249 Q (F0 m 1197 ls [])) : W p l e room_1 s m args below meth c H locs 600000 7302249 Q (F0 m 200 ls []) := by
  have hx := C0.1
  have hb := C0.2.1
  have hX := C0.2.2.2.2.2.2.2.1
  have hbl := C0.2.2.2.2.2.2.2.2
  have hts := C0.2.2.2.2.1
  have hbA : ¬ (fun q : Nat => s.heap.size ≤ q) b := Nat.not_le.mpr hbl
  have hv0 : vp_in (nI i) L := vp_in_nI (by omega) (by omega)
  have hv1 : vp_in (nI i + 1) L := by rw [show (1 : Int32) = nI 1 from rfl, nI_add]; exact vp_in_nI (by omega) (by omega)
  have hv2 : vp_in (nI i + 2) L := by rw [show (2 : Int32) = nI 2 from rfl, nI_add]; exact vp_in_nI (by omega) (by omega)
  have hv3 : vp_in (nI i + 3) L := by rw [show (3 : Int32) = nI 3 from rfl, nI_add]; exact vp_in_nI (by omega) (by omega)
  have hv4 : vp_in (nI i + 4) L := by rw [show (4 : Int32) = nI 4 from rfl, nI_add]; exact vp_in_nI (by omega) (by omega)
  refine lv_aload_n hx hb dL_law_200 rfl (lv_at hl 2 rfl) ?_
  refine lv_aload_n hx hb dL_law_201 rfl (lv_at hl 3 rfl) ?_
  refine lv_iload_n hx hb dL_law_202 rfl (lv_at hl 0 rfl) ?_
  refine lv_iconst (v := 1) hx hb dL_law_203 (by decide) ?_
  refine lv_iadd hx hb dL_law_204 ?_
  refine va_sld hx hb hX hbl hbA hS hv1 dL_law_205 ?_
  refine W.eq (g2 := F0 m 206 ls (([.int (xs (nI i + 1).toNatClampNeg)] : List Value).reverse ++ .ref (ax 0) :: [])) rfl ?_
  refine cx_int C0 hl.1 (As := [.int (xs (nI i + 1).toNatClampNeg)]) (rest := []) (c_X2_letter l g ax σ (xs (nI i + 1).toNatClampNeg) h.1) (cwV 1 hts gL_law_X2_letter rfl rfl rfl (by decide +kernel) ⟨Nat.le_of_ble_eq_true rfl, Nat.le_of_ble_eq_true rfl⟩) rfl (Nat.le_of_ble_eq_true rfl) dL_law_206 hP hD hS (fun r0 u0 H locs w0 hP hS => ?_)
  have hD := hD.addr (wL2_addr (σ' := u0) (τ' := τ))
  refine lv_aload_n hx hb dL_law_209 rfl (lv_at hl 1 rfl) ?_
  refine lv_aload_n hx hb dL_law_210 rfl (lv_at hl 3 rfl) ?_
  refine lv_iload_n hx hb dL_law_211 rfl (lv_at hl 0 rfl) ?_
  refine lv_iconst (v := 1) hx hb dL_law_212 (by decide) ?_
  refine lv_iadd hx hb dL_law_213 ?_
  refine va_sld hx hb hX hbl hbA hS hv1 dL_law_214 ?_
  refine W.eq (g2 := F0 m 215 ls (([.int (xs (nI i + 1).toNatClampNeg)] : List Value).reverse ++ .ref (am 0) :: [.int r0])) rfl ?_
  refine cm_int C0 hl.1 (As := [.int (xs (nI i + 1).toNatClampNeg)]) (rest := [.int r0]) (c_X3_letter l g am τ (xs (nI i + 1).toNatClampNeg) h.taped) (cwV 1 hts gL_law_X3_letter rfl rfl rfl (by decide +kernel) ⟨Nat.le_of_ble_eq_true rfl, Nat.le_of_ble_eq_true rfl⟩) rfl (Nat.le_of_ble_eq_true rfl) dL_law_215 hP hD hS (fun r1 u1 H locs w1 hP hS => ?_)
  have hD := hD.addr (wL2_addr (σ' := u0) (τ' := u1))
  obtain ⟨er, hR⟩ := s_letter h (xs (nI i + 1).toNatClampNeg) r0 u0 r1 u1 w0 w1
  exact lv_icmp_eq (tgt := 1197) hx hb dL_law_218 (by decide) (fun _ => kk H locs u0 u1 hR hP hS) (fun cn => absurd er cn)
set_option maxHeartbeats 4000000 in
set_option maxRecDepth 100000 in
theorem lc_court {p : Program} {e : Env} {s : State} {m : MethodId} {args : Array Value} {below : List Frame} {meth : Method} {c : Code} {H : Heap} {locs : List Loc} {Q : State → Prop} {ls : Array Slot} {g : CX} {b L i : Nat} {xs : Nat → Int32} {ax am : Nat → Nat} {σ : KX} {τ : KM} (l : Launch) (C0 : LawAt p s m args meth c g b L xs) (hL : L ≤ 2560) (hi : i + 5 ≤ L) (h : Rel σ τ) (hP : va_P (gD g) vwCl (wL2 g ax am σ τ) H) (hD : va_D (fun q => s.heap.size ≤ q) (wL2 g ax am σ τ)) (hS : va_S (fun q => s.heap.size ≤ q) s.heap H locs) (hl : lv_has ls 4 [(3, .int (nI i)), (2, .ref (am 0)), (1, .ref (ax 0)), (0, .ref b)])
    (kk : ∀ (H1 : Heap) (locs1 : List Loc) (σ1 : KX) (τ1 : KM), Rel σ1 τ1 → va_P (gD g) vwCl (wL2 g ax am σ1 τ1) H1 → va_S (fun q => s.heap.size ≤ q) s.heap H1 locs1 → W p l e room_1 s m args below meth c H1 locs1 600000 7302249 Q (F0 m 1197 ls [])) : W p l e room_1 s m args below meth c H locs 600000 7302249 Q (F0 m 223 ls []) := by
  have hx := C0.1
  have hb := C0.2.1
  have hX := C0.2.2.2.2.2.2.2.1
  have hbl := C0.2.2.2.2.2.2.2.2
  have hts := C0.2.2.2.2.1
  have hbA : ¬ (fun q : Nat => s.heap.size ≤ q) b := Nat.not_le.mpr hbl
  have hv0 : vp_in (nI i) L := vp_in_nI (by omega) (by omega)
  have hv1 : vp_in (nI i + 1) L := by rw [show (1 : Int32) = nI 1 from rfl, nI_add]; exact vp_in_nI (by omega) (by omega)
  have hv2 : vp_in (nI i + 2) L := by rw [show (2 : Int32) = nI 2 from rfl, nI_add]; exact vp_in_nI (by omega) (by omega)
  have hv3 : vp_in (nI i + 3) L := by rw [show (3 : Int32) = nI 3 from rfl, nI_add]; exact vp_in_nI (by omega) (by omega)
  have hv4 : vp_in (nI i + 4) L := by rw [show (4 : Int32) = nI 4 from rfl, nI_add]; exact vp_in_nI (by omega) (by omega)
  refine lv_aload_n hx hb dL_law_223 rfl (lv_at hl 2 rfl) ?_
  refine W.eq (g2 := F0 m 224 ls (([] : List Value).reverse ++ .ref (ax 0) :: [])) rfl ?_
  refine cx_int C0 hl.1 (As := []) (rest := []) (c_X2_court l g ax σ ⟨h.1, h.2.2.1.1⟩) (cwV 0 hts gL_law_X2_court rfl rfl rfl (by decide +kernel) ⟨Nat.le_of_ble_eq_true rfl, Nat.le_of_ble_eq_true rfl⟩) rfl (Nat.le_of_ble_eq_true rfl) dL_law_224 hP hD hS (fun r0 u0 H locs w0 hP hS => ?_)
  have hD := hD.addr (wL2_addr (σ' := u0) (τ' := τ))
  refine lv_aload_n hx hb dL_law_227 rfl (lv_at hl 1 rfl) ?_
  refine W.eq (g2 := F0 m 228 ls (([] : List Value).reverse ++ .ref (am 0) :: [.int r0])) rfl ?_
  refine cm_int C0 hl.1 (As := []) (rest := [.int r0]) (c_X3_court l g am τ ⟨h.S.1, h.S.2.1, h.S.2.2, h.taped.1, h.taped.2⟩) (cwV 0 hts gL_law_X3_court rfl rfl rfl (by decide +kernel) ⟨Nat.le_of_ble_eq_true rfl, Nat.le_of_ble_eq_true rfl⟩) rfl (Nat.le_of_ble_eq_true rfl) dL_law_228 hP hD hS (fun r1 u1 H locs w1 hP hS => ?_)
  have hD := hD.addr (wL2_addr (σ' := u0) (τ' := u1))
  obtain ⟨er, hR⟩ := s_court h  r0 u0 r1 u1 w0 w1
  exact lv_icmp_eq (tgt := 1197) hx hb dL_law_231 (by decide) (fun _ => kk H locs u0 u1 hR hP hS) (fun cn => absurd er cn)
set_option maxHeartbeats 4000000 in
set_option maxRecDepth 100000 in
theorem lc_fact {p : Program} {e : Env} {s : State} {m : MethodId} {args : Array Value} {below : List Frame} {meth : Method} {c : Code} {H : Heap} {locs : List Loc} {Q : State → Prop} {ls : Array Slot} {g : CX} {b L i : Nat} {xs : Nat → Int32} {ax am : Nat → Nat} {σ : KX} {τ : KM} (l : Launch) (C0 : LawAt p s m args meth c g b L xs) (hL : L ≤ 2560) (hi : i + 5 ≤ L) (h : Rel σ τ) (hP : va_P (gD g) vwCl (wL2 g ax am σ τ) H) (hD : va_D (fun q => s.heap.size ≤ q) (wL2 g ax am σ τ)) (hS : va_S (fun q => s.heap.size ≤ q) s.heap H locs) (hl : lv_has ls 4 [(3, .int (nI i)), (2, .ref (am 0)), (1, .ref (ax 0)), (0, .ref b)])
    (kk : ∀ (H1 : Heap) (locs1 : List Loc) (σ1 : KX) (τ1 : KM), Rel σ1 τ1 → va_P (gD g) vwCl (wL2 g ax am σ1 τ1) H1 → va_S (fun q => s.heap.size ≤ q) s.heap H1 locs1 → W p l e room_1 s m args below meth c H1 locs1 600000 7302249 Q (F0 m 1197 ls [])) : W p l e room_1 s m args below meth c H locs 600000 7302249 Q (F0 m 236 ls []) := by
  have hx := C0.1
  have hb := C0.2.1
  have hX := C0.2.2.2.2.2.2.2.1
  have hbl := C0.2.2.2.2.2.2.2.2
  have hts := C0.2.2.2.2.1
  have hbA : ¬ (fun q : Nat => s.heap.size ≤ q) b := Nat.not_le.mpr hbl
  have hv0 : vp_in (nI i) L := vp_in_nI (by omega) (by omega)
  have hv1 : vp_in (nI i + 1) L := by rw [show (1 : Int32) = nI 1 from rfl, nI_add]; exact vp_in_nI (by omega) (by omega)
  have hv2 : vp_in (nI i + 2) L := by rw [show (2 : Int32) = nI 2 from rfl, nI_add]; exact vp_in_nI (by omega) (by omega)
  have hv3 : vp_in (nI i + 3) L := by rw [show (3 : Int32) = nI 3 from rfl, nI_add]; exact vp_in_nI (by omega) (by omega)
  have hv4 : vp_in (nI i + 4) L := by rw [show (4 : Int32) = nI 4 from rfl, nI_add]; exact vp_in_nI (by omega) (by omega)
  refine lv_aload_n hx hb dL_law_236 rfl (lv_at hl 2 rfl) ?_
  refine lv_aload_n hx hb dL_law_237 rfl (lv_at hl 3 rfl) ?_
  refine lv_iload_n hx hb dL_law_238 rfl (lv_at hl 0 rfl) ?_
  refine lv_iconst (v := 1) hx hb dL_law_239 (by decide) ?_
  refine lv_iadd hx hb dL_law_240 ?_
  refine va_sld hx hb hX hbl hbA hS hv1 dL_law_241 ?_
  refine W.eq (g2 := F0 m 242 ls (([.int (xs (nI i + 1).toNatClampNeg)] : List Value).reverse ++ .ref (ax 0) :: [])) rfl ?_
  refine cx_int C0 hl.1 (As := [.int (xs (nI i + 1).toNatClampNeg)]) (rest := []) (c_X2_fact l g ax σ (xs (nI i + 1).toNatClampNeg) h.1) (cwV 1 hts gL_law_X2_fact rfl rfl rfl (by decide +kernel) ⟨Nat.le_of_ble_eq_true rfl, Nat.le_of_ble_eq_true rfl⟩) rfl (Nat.le_of_ble_eq_true rfl) dL_law_242 hP hD hS (fun r0 u0 H locs w0 hP hS => ?_)
  have hD := hD.addr (wL2_addr (σ' := u0) (τ' := τ))
  refine lv_aload_n hx hb dL_law_245 rfl (lv_at hl 1 rfl) ?_
  refine lv_aload_n hx hb dL_law_246 rfl (lv_at hl 3 rfl) ?_
  refine lv_iload_n hx hb dL_law_247 rfl (lv_at hl 0 rfl) ?_
  refine lv_iconst (v := 1) hx hb dL_law_248 (by decide) ?_
  refine lv_iadd hx hb dL_law_249 ?_
  refine va_sld hx hb hX hbl hbA hS hv1 dL_law_250 ?_
  refine W.eq (g2 := F0 m 251 ls (([.int (xs (nI i + 1).toNatClampNeg)] : List Value).reverse ++ .ref (am 0) :: [.int r0])) rfl ?_
  refine cm_int C0 hl.1 (As := [.int (xs (nI i + 1).toNatClampNeg)]) (rest := [.int r0]) (c_X3_fact l g am τ (xs (nI i + 1).toNatClampNeg)) (cwV 1 hts gL_law_X3_fact rfl rfl rfl (by decide +kernel) ⟨Nat.le_of_ble_eq_true rfl, Nat.le_of_ble_eq_true rfl⟩) rfl (Nat.le_of_ble_eq_true rfl) dL_law_251 hP hD hS (fun r1 u1 H locs w1 hP hS => ?_)
  have hD := hD.addr (wL2_addr (σ' := u0) (τ' := u1))
  obtain ⟨er, hR⟩ := s_fact h (xs (nI i + 1).toNatClampNeg) r0 u0 r1 u1 w0 w1
  exact lv_icmp_eq (tgt := 1197) hx hb dL_law_254 (by decide) (fun _ => kk H locs u0 u1 hR hP hS) (fun cn => absurd er cn)
set_option maxHeartbeats 4000000 in
set_option maxRecDepth 100000 in
theorem lc_question {p : Program} {e : Env} {s : State} {m : MethodId} {args : Array Value} {below : List Frame} {meth : Method} {c : Code} {H : Heap} {locs : List Loc} {Q : State → Prop} {ls : Array Slot} {g : CX} {b L i : Nat} {xs : Nat → Int32} {ax am : Nat → Nat} {σ : KX} {τ : KM} (l : Launch) (C0 : LawAt p s m args meth c g b L xs) (hL : L ≤ 2560) (hi : i + 5 ≤ L) (h : Rel σ τ) (hP : va_P (gD g) vwCl (wL2 g ax am σ τ) H) (hD : va_D (fun q => s.heap.size ≤ q) (wL2 g ax am σ τ)) (hS : va_S (fun q => s.heap.size ≤ q) s.heap H locs) (hl : lv_has ls 4 [(3, .int (nI i)), (2, .ref (am 0)), (1, .ref (ax 0)), (0, .ref b)])
    (kk : ∀ (H1 : Heap) (locs1 : List Loc) (σ1 : KX) (τ1 : KM), Rel σ1 τ1 → va_P (gD g) vwCl (wL2 g ax am σ1 τ1) H1 → va_S (fun q => s.heap.size ≤ q) s.heap H1 locs1 → W p l e room_1 s m args below meth c H1 locs1 600000 7302249 Q (F0 m 1197 ls [])) : W p l e room_1 s m args below meth c H locs 600000 7302249 Q (F0 m 259 ls []) := by
  have hx := C0.1
  have hb := C0.2.1
  have hX := C0.2.2.2.2.2.2.2.1
  have hbl := C0.2.2.2.2.2.2.2.2
  have hts := C0.2.2.2.2.1
  have hbA : ¬ (fun q : Nat => s.heap.size ≤ q) b := Nat.not_le.mpr hbl
  have hv0 : vp_in (nI i) L := vp_in_nI (by omega) (by omega)
  have hv1 : vp_in (nI i + 1) L := by rw [show (1 : Int32) = nI 1 from rfl, nI_add]; exact vp_in_nI (by omega) (by omega)
  have hv2 : vp_in (nI i + 2) L := by rw [show (2 : Int32) = nI 2 from rfl, nI_add]; exact vp_in_nI (by omega) (by omega)
  have hv3 : vp_in (nI i + 3) L := by rw [show (3 : Int32) = nI 3 from rfl, nI_add]; exact vp_in_nI (by omega) (by omega)
  have hv4 : vp_in (nI i + 4) L := by rw [show (4 : Int32) = nI 4 from rfl, nI_add]; exact vp_in_nI (by omega) (by omega)
  refine lv_aload_n hx hb dL_law_259 rfl (lv_at hl 2 rfl) ?_
  refine lv_aload_n hx hb dL_law_260 rfl (lv_at hl 3 rfl) ?_
  refine lv_iload_n hx hb dL_law_261 rfl (lv_at hl 0 rfl) ?_
  refine lv_iconst (v := 1) hx hb dL_law_262 (by decide) ?_
  refine lv_iadd hx hb dL_law_263 ?_
  refine va_sld hx hb hX hbl hbA hS hv1 dL_law_264 ?_
  refine lv_aload_n hx hb dL_law_265 rfl (lv_at hl 3 rfl) ?_
  refine lv_iload_n hx hb dL_law_266 rfl (lv_at hl 0 rfl) ?_
  refine lv_iconst (v := 2) hx hb dL_law_267 (by decide) ?_
  refine lv_iadd hx hb dL_law_268 ?_
  refine va_sld hx hb hX hbl hbA hS hv2 dL_law_269 ?_
  refine W.eq (g2 := F0 m 270 ls (([.int (xs (nI i + 1).toNatClampNeg), .int (xs (nI i + 2).toNatClampNeg)] : List Value).reverse ++ .ref (ax 0) :: [])) rfl ?_
  refine cx_int C0 hl.1 (As := [.int (xs (nI i + 1).toNatClampNeg), .int (xs (nI i + 2).toNatClampNeg)]) (rest := []) (c_X2_question l g ax σ (xs (nI i + 1).toNatClampNeg) (xs (nI i + 2).toNatClampNeg) h.1) (cwV 2 hts gL_law_X2_question rfl rfl rfl (by decide +kernel) ⟨Nat.le_of_ble_eq_true rfl, Nat.le_of_ble_eq_true rfl⟩) rfl (Nat.le_of_ble_eq_true rfl) dL_law_270 hP hD hS (fun r0 u0 H locs w0 hP hS => ?_)
  have hD := hD.addr (wL2_addr (σ' := u0) (τ' := τ))
  refine lv_aload_n hx hb dL_law_273 rfl (lv_at hl 1 rfl) ?_
  refine lv_aload_n hx hb dL_law_274 rfl (lv_at hl 3 rfl) ?_
  refine lv_iload_n hx hb dL_law_275 rfl (lv_at hl 0 rfl) ?_
  refine lv_iconst (v := 1) hx hb dL_law_276 (by decide) ?_
  refine lv_iadd hx hb dL_law_277 ?_
  refine va_sld hx hb hX hbl hbA hS hv1 dL_law_278 ?_
  refine lv_aload_n hx hb dL_law_279 rfl (lv_at hl 3 rfl) ?_
  refine lv_iload_n hx hb dL_law_280 rfl (lv_at hl 0 rfl) ?_
  refine lv_iconst (v := 2) hx hb dL_law_281 (by decide) ?_
  refine lv_iadd hx hb dL_law_282 ?_
  refine va_sld hx hb hX hbl hbA hS hv2 dL_law_283 ?_
  refine W.eq (g2 := F0 m 284 ls (([.int (xs (nI i + 1).toNatClampNeg), .int (xs (nI i + 2).toNatClampNeg)] : List Value).reverse ++ .ref (am 0) :: [.int r0])) rfl ?_
  refine cm_int C0 hl.1 (As := [.int (xs (nI i + 1).toNatClampNeg), .int (xs (nI i + 2).toNatClampNeg)]) (rest := [.int r0]) (c_X3_question l g am τ (xs (nI i + 1).toNatClampNeg) (xs (nI i + 2).toNatClampNeg) h.S.1) (cwV 2 hts gL_law_X3_question rfl rfl rfl (by decide +kernel) ⟨Nat.le_of_ble_eq_true rfl, Nat.le_of_ble_eq_true rfl⟩) rfl (Nat.le_of_ble_eq_true rfl) dL_law_284 hP hD hS (fun r1 u1 H locs w1 hP hS => ?_)
  have hD := hD.addr (wL2_addr (σ' := u0) (τ' := u1))
  obtain ⟨er, hR⟩ := s_question h (xs (nI i + 1).toNatClampNeg) (xs (nI i + 2).toNatClampNeg) r0 u0 r1 u1 w0 w1
  exact lv_icmp_eq (tgt := 1197) hx hb dL_law_287 (by decide) (fun _ => kk H locs u0 u1 hR hP hS) (fun cn => absurd er cn)
set_option maxHeartbeats 4000000 in
set_option maxRecDepth 100000 in
theorem lc_witness {p : Program} {e : Env} {s : State} {m : MethodId} {args : Array Value} {below : List Frame} {meth : Method} {c : Code} {H : Heap} {locs : List Loc} {Q : State → Prop} {ls : Array Slot} {g : CX} {b L i : Nat} {xs : Nat → Int32} {ax am : Nat → Nat} {σ : KX} {τ : KM} (l : Launch) (C0 : LawAt p s m args meth c g b L xs) (hL : L ≤ 2560) (hi : i + 5 ≤ L) (h : Rel σ τ) (hP : va_P (gD g) vwCl (wL2 g ax am σ τ) H) (hD : va_D (fun q => s.heap.size ≤ q) (wL2 g ax am σ τ)) (hS : va_S (fun q => s.heap.size ≤ q) s.heap H locs) (hl : lv_has ls 4 [(3, .int (nI i)), (2, .ref (am 0)), (1, .ref (ax 0)), (0, .ref b)])
    (kk : ∀ (H1 : Heap) (locs1 : List Loc) (σ1 : KX) (τ1 : KM), Rel σ1 τ1 → va_P (gD g) vwCl (wL2 g ax am σ1 τ1) H1 → va_S (fun q => s.heap.size ≤ q) s.heap H1 locs1 → W p l e room_1 s m args below meth c H1 locs1 600000 7302249 Q (F0 m 1197 ls [])) : W p l e room_1 s m args below meth c H locs 600000 7302249 Q (F0 m 292 ls []) := by
  have hx := C0.1
  have hb := C0.2.1
  have hX := C0.2.2.2.2.2.2.2.1
  have hbl := C0.2.2.2.2.2.2.2.2
  have hts := C0.2.2.2.2.1
  have hbA : ¬ (fun q : Nat => s.heap.size ≤ q) b := Nat.not_le.mpr hbl
  have hv0 : vp_in (nI i) L := vp_in_nI (by omega) (by omega)
  have hv1 : vp_in (nI i + 1) L := by rw [show (1 : Int32) = nI 1 from rfl, nI_add]; exact vp_in_nI (by omega) (by omega)
  have hv2 : vp_in (nI i + 2) L := by rw [show (2 : Int32) = nI 2 from rfl, nI_add]; exact vp_in_nI (by omega) (by omega)
  have hv3 : vp_in (nI i + 3) L := by rw [show (3 : Int32) = nI 3 from rfl, nI_add]; exact vp_in_nI (by omega) (by omega)
  have hv4 : vp_in (nI i + 4) L := by rw [show (4 : Int32) = nI 4 from rfl, nI_add]; exact vp_in_nI (by omega) (by omega)
  refine lv_aload_n hx hb dL_law_292 rfl (lv_at hl 2 rfl) ?_
  refine lv_aload_n hx hb dL_law_293 rfl (lv_at hl 3 rfl) ?_
  refine lv_iload_n hx hb dL_law_294 rfl (lv_at hl 0 rfl) ?_
  refine lv_iconst (v := 1) hx hb dL_law_295 (by decide) ?_
  refine lv_iadd hx hb dL_law_296 ?_
  refine va_sld hx hb hX hbl hbA hS hv1 dL_law_297 ?_
  refine lv_aload_n hx hb dL_law_298 rfl (lv_at hl 3 rfl) ?_
  refine lv_iload_n hx hb dL_law_299 rfl (lv_at hl 0 rfl) ?_
  refine lv_iconst (v := 2) hx hb dL_law_300 (by decide) ?_
  refine lv_iadd hx hb dL_law_301 ?_
  refine va_sld hx hb hX hbl hbA hS hv2 dL_law_302 ?_
  refine W.eq (g2 := F0 m 303 ls (([.int (xs (nI i + 1).toNatClampNeg), .int (xs (nI i + 2).toNatClampNeg)] : List Value).reverse ++ .ref (ax 0) :: [])) rfl ?_
  refine cx_int C0 hl.1 (As := [.int (xs (nI i + 1).toNatClampNeg), .int (xs (nI i + 2).toNatClampNeg)]) (rest := []) (c_X2_witness l g ax σ (xs (nI i + 1).toNatClampNeg) (xs (nI i + 2).toNatClampNeg) h.1) (cwV 2 hts gL_law_X2_witness rfl rfl rfl (by decide +kernel) ⟨Nat.le_of_ble_eq_true rfl, Nat.le_of_ble_eq_true rfl⟩) rfl (Nat.le_of_ble_eq_true rfl) dL_law_303 hP hD hS (fun r0 u0 H locs w0 hP hS => ?_)
  have hD := hD.addr (wL2_addr (σ' := u0) (τ' := τ))
  refine lv_aload_n hx hb dL_law_306 rfl (lv_at hl 1 rfl) ?_
  refine lv_aload_n hx hb dL_law_307 rfl (lv_at hl 3 rfl) ?_
  refine lv_iload_n hx hb dL_law_308 rfl (lv_at hl 0 rfl) ?_
  refine lv_iconst (v := 1) hx hb dL_law_309 (by decide) ?_
  refine lv_iadd hx hb dL_law_310 ?_
  refine va_sld hx hb hX hbl hbA hS hv1 dL_law_311 ?_
  refine lv_aload_n hx hb dL_law_312 rfl (lv_at hl 3 rfl) ?_
  refine lv_iload_n hx hb dL_law_313 rfl (lv_at hl 0 rfl) ?_
  refine lv_iconst (v := 2) hx hb dL_law_314 (by decide) ?_
  refine lv_iadd hx hb dL_law_315 ?_
  refine va_sld hx hb hX hbl hbA hS hv2 dL_law_316 ?_
  refine W.eq (g2 := F0 m 317 ls (([.int (xs (nI i + 1).toNatClampNeg), .int (xs (nI i + 2).toNatClampNeg)] : List Value).reverse ++ .ref (am 0) :: [.int r0])) rfl ?_
  refine cm_int C0 hl.1 (As := [.int (xs (nI i + 1).toNatClampNeg), .int (xs (nI i + 2).toNatClampNeg)]) (rest := [.int r0]) (c_X3_witness l g am τ (xs (nI i + 1).toNatClampNeg) (xs (nI i + 2).toNatClampNeg) h.S.1) (cwV 2 hts gL_law_X3_witness rfl rfl rfl (by decide +kernel) ⟨Nat.le_of_ble_eq_true rfl, Nat.le_of_ble_eq_true rfl⟩) rfl (Nat.le_of_ble_eq_true rfl) dL_law_317 hP hD hS (fun r1 u1 H locs w1 hP hS => ?_)
  have hD := hD.addr (wL2_addr (σ' := u0) (τ' := u1))
  obtain ⟨er, hR⟩ := s_witness h (xs (nI i + 1).toNatClampNeg) (xs (nI i + 2).toNatClampNeg) r0 u0 r1 u1 w0 w1
  exact lv_icmp_eq (tgt := 1197) hx hb dL_law_320 (by decide) (fun _ => kk H locs u0 u1 hR hP hS) (fun cn => absurd er cn)
set_option maxHeartbeats 4000000 in
set_option maxRecDepth 100000 in
theorem lc_asks {p : Program} {e : Env} {s : State} {m : MethodId} {args : Array Value} {below : List Frame} {meth : Method} {c : Code} {H : Heap} {locs : List Loc} {Q : State → Prop} {ls : Array Slot} {g : CX} {b L i : Nat} {xs : Nat → Int32} {ax am : Nat → Nat} {σ : KX} {τ : KM} (l : Launch) (C0 : LawAt p s m args meth c g b L xs) (hL : L ≤ 2560) (hi : i + 5 ≤ L) (h : Rel σ τ) (hP : va_P (gD g) vwCl (wL2 g ax am σ τ) H) (hD : va_D (fun q => s.heap.size ≤ q) (wL2 g ax am σ τ)) (hS : va_S (fun q => s.heap.size ≤ q) s.heap H locs) (hl : lv_has ls 4 [(3, .int (nI i)), (2, .ref (am 0)), (1, .ref (ax 0)), (0, .ref b)])
    (kk : ∀ (H1 : Heap) (locs1 : List Loc) (σ1 : KX) (τ1 : KM), Rel σ1 τ1 → va_P (gD g) vwCl (wL2 g ax am σ1 τ1) H1 → va_S (fun q => s.heap.size ≤ q) s.heap H1 locs1 → W p l e room_1 s m args below meth c H1 locs1 600000 7302249 Q (F0 m 1197 ls [])) : W p l e room_1 s m args below meth c H locs 600000 7302249 Q (F0 m 325 ls []) := by
  have hx := C0.1
  have hb := C0.2.1
  have hX := C0.2.2.2.2.2.2.2.1
  have hbl := C0.2.2.2.2.2.2.2.2
  have hts := C0.2.2.2.2.1
  have hbA : ¬ (fun q : Nat => s.heap.size ≤ q) b := Nat.not_le.mpr hbl
  have hv0 : vp_in (nI i) L := vp_in_nI (by omega) (by omega)
  have hv1 : vp_in (nI i + 1) L := by rw [show (1 : Int32) = nI 1 from rfl, nI_add]; exact vp_in_nI (by omega) (by omega)
  have hv2 : vp_in (nI i + 2) L := by rw [show (2 : Int32) = nI 2 from rfl, nI_add]; exact vp_in_nI (by omega) (by omega)
  have hv3 : vp_in (nI i + 3) L := by rw [show (3 : Int32) = nI 3 from rfl, nI_add]; exact vp_in_nI (by omega) (by omega)
  have hv4 : vp_in (nI i + 4) L := by rw [show (4 : Int32) = nI 4 from rfl, nI_add]; exact vp_in_nI (by omega) (by omega)
  refine lv_aload_n hx hb dL_law_325 rfl (lv_at hl 2 rfl) ?_
  refine lv_aload_n hx hb dL_law_326 rfl (lv_at hl 3 rfl) ?_
  refine lv_iload_n hx hb dL_law_327 rfl (lv_at hl 0 rfl) ?_
  refine lv_iconst (v := 1) hx hb dL_law_328 (by decide) ?_
  refine lv_iadd hx hb dL_law_329 ?_
  refine va_sld hx hb hX hbl hbA hS hv1 dL_law_330 ?_
  refine lv_aload_n hx hb dL_law_331 rfl (lv_at hl 3 rfl) ?_
  refine lv_iload_n hx hb dL_law_332 rfl (lv_at hl 0 rfl) ?_
  refine lv_iconst (v := 2) hx hb dL_law_333 (by decide) ?_
  refine lv_iadd hx hb dL_law_334 ?_
  refine va_sld hx hb hX hbl hbA hS hv2 dL_law_335 ?_
  refine W.eq (g2 := F0 m 336 ls (([.int (xs (nI i + 1).toNatClampNeg), .int (xs (nI i + 2).toNatClampNeg)] : List Value).reverse ++ .ref (ax 0) :: [])) rfl ?_
  refine cx_int C0 hl.1 (As := [.int (xs (nI i + 1).toNatClampNeg), .int (xs (nI i + 2).toNatClampNeg)]) (rest := []) (c_X2_asks l g ax σ (xs (nI i + 1).toNatClampNeg) (xs (nI i + 2).toNatClampNeg) h.1) (cwV 2 hts gL_law_X2_asks rfl rfl rfl (by decide +kernel) ⟨Nat.le_of_ble_eq_true rfl, Nat.le_of_ble_eq_true rfl⟩) rfl (Nat.le_of_ble_eq_true rfl) dL_law_336 hP hD hS (fun r0 u0 H locs w0 hP hS => ?_)
  have hD := hD.addr (wL2_addr (σ' := u0) (τ' := τ))
  refine lv_aload_n hx hb dL_law_339 rfl (lv_at hl 1 rfl) ?_
  refine lv_aload_n hx hb dL_law_340 rfl (lv_at hl 3 rfl) ?_
  refine lv_iload_n hx hb dL_law_341 rfl (lv_at hl 0 rfl) ?_
  refine lv_iconst (v := 1) hx hb dL_law_342 (by decide) ?_
  refine lv_iadd hx hb dL_law_343 ?_
  refine va_sld hx hb hX hbl hbA hS hv1 dL_law_344 ?_
  refine lv_aload_n hx hb dL_law_345 rfl (lv_at hl 3 rfl) ?_
  refine lv_iload_n hx hb dL_law_346 rfl (lv_at hl 0 rfl) ?_
  refine lv_iconst (v := 2) hx hb dL_law_347 (by decide) ?_
  refine lv_iadd hx hb dL_law_348 ?_
  refine va_sld hx hb hX hbl hbA hS hv2 dL_law_349 ?_
  refine W.eq (g2 := F0 m 350 ls (([.int (xs (nI i + 1).toNatClampNeg), .int (xs (nI i + 2).toNatClampNeg)] : List Value).reverse ++ .ref (am 0) :: [.int r0])) rfl ?_
  refine cm_int C0 hl.1 (As := [.int (xs (nI i + 1).toNatClampNeg), .int (xs (nI i + 2).toNatClampNeg)]) (rest := [.int r0]) (c_X3_asks l g am τ (xs (nI i + 1).toNatClampNeg) (xs (nI i + 2).toNatClampNeg) ⟨h.S.1, goodS.lt h.S⟩) (cwV 2 hts gL_law_X3_asks rfl rfl rfl (by decide +kernel) ⟨Nat.le_of_ble_eq_true rfl, Nat.le_of_ble_eq_true rfl⟩) rfl (Nat.le_of_ble_eq_true rfl) dL_law_350 hP hD hS (fun r1 u1 H locs w1 hP hS => ?_)
  have hD := hD.addr (wL2_addr (σ' := u0) (τ' := u1))
  obtain ⟨er, hR⟩ := s_asks h (xs (nI i + 1).toNatClampNeg) (xs (nI i + 2).toNatClampNeg) r0 u0 r1 u1 w0 w1
  exact lv_icmp_eq (tgt := 1197) hx hb dL_law_353 (by decide) (fun _ => kk H locs u0 u1 hR hP hS) (fun cn => absurd er cn)
set_option maxHeartbeats 4000000 in
set_option maxRecDepth 100000 in
theorem lc_heard {p : Program} {e : Env} {s : State} {m : MethodId} {args : Array Value} {below : List Frame} {meth : Method} {c : Code} {H : Heap} {locs : List Loc} {Q : State → Prop} {ls : Array Slot} {g : CX} {b L i : Nat} {xs : Nat → Int32} {ax am : Nat → Nat} {σ : KX} {τ : KM} (l : Launch) (C0 : LawAt p s m args meth c g b L xs) (hL : L ≤ 2560) (hi : i + 5 ≤ L) (h : Rel σ τ) (hP : va_P (gD g) vwCl (wL2 g ax am σ τ) H) (hD : va_D (fun q => s.heap.size ≤ q) (wL2 g ax am σ τ)) (hS : va_S (fun q => s.heap.size ≤ q) s.heap H locs) (hl : lv_has ls 4 [(3, .int (nI i)), (2, .ref (am 0)), (1, .ref (ax 0)), (0, .ref b)])
    (kk : ∀ (H1 : Heap) (locs1 : List Loc) (σ1 : KX) (τ1 : KM), Rel σ1 τ1 → va_P (gD g) vwCl (wL2 g ax am σ1 τ1) H1 → va_S (fun q => s.heap.size ≤ q) s.heap H1 locs1 → W p l e room_1 s m args below meth c H1 locs1 600000 7302249 Q (F0 m 1197 ls [])) : W p l e room_1 s m args below meth c H locs 600000 7302249 Q (F0 m 358 ls []) := by
  have hx := C0.1
  have hb := C0.2.1
  have hX := C0.2.2.2.2.2.2.2.1
  have hbl := C0.2.2.2.2.2.2.2.2
  have hts := C0.2.2.2.2.1
  have hbA : ¬ (fun q : Nat => s.heap.size ≤ q) b := Nat.not_le.mpr hbl
  have hv0 : vp_in (nI i) L := vp_in_nI (by omega) (by omega)
  have hv1 : vp_in (nI i + 1) L := by rw [show (1 : Int32) = nI 1 from rfl, nI_add]; exact vp_in_nI (by omega) (by omega)
  have hv2 : vp_in (nI i + 2) L := by rw [show (2 : Int32) = nI 2 from rfl, nI_add]; exact vp_in_nI (by omega) (by omega)
  have hv3 : vp_in (nI i + 3) L := by rw [show (3 : Int32) = nI 3 from rfl, nI_add]; exact vp_in_nI (by omega) (by omega)
  have hv4 : vp_in (nI i + 4) L := by rw [show (4 : Int32) = nI 4 from rfl, nI_add]; exact vp_in_nI (by omega) (by omega)
  refine lv_aload_n hx hb dL_law_358 rfl (lv_at hl 2 rfl) ?_
  refine lv_aload_n hx hb dL_law_359 rfl (lv_at hl 3 rfl) ?_
  refine lv_iload_n hx hb dL_law_360 rfl (lv_at hl 0 rfl) ?_
  refine lv_iconst (v := 1) hx hb dL_law_361 (by decide) ?_
  refine lv_iadd hx hb dL_law_362 ?_
  refine va_sld hx hb hX hbl hbA hS hv1 dL_law_363 ?_
  refine lv_aload_n hx hb dL_law_364 rfl (lv_at hl 3 rfl) ?_
  refine lv_iload_n hx hb dL_law_365 rfl (lv_at hl 0 rfl) ?_
  refine lv_iconst (v := 2) hx hb dL_law_366 (by decide) ?_
  refine lv_iadd hx hb dL_law_367 ?_
  refine va_sld hx hb hX hbl hbA hS hv2 dL_law_368 ?_
  refine W.eq (g2 := F0 m 369 ls (([.int (xs (nI i + 1).toNatClampNeg), .int (xs (nI i + 2).toNatClampNeg)] : List Value).reverse ++ .ref (ax 0) :: [])) rfl ?_
  refine cx_int C0 hl.1 (As := [.int (xs (nI i + 1).toNatClampNeg), .int (xs (nI i + 2).toNatClampNeg)]) (rest := []) (c_X2_heard l g ax σ (xs (nI i + 1).toNatClampNeg) (xs (nI i + 2).toNatClampNeg) h.1) (cwV 2 hts gL_law_X2_heard rfl rfl rfl (by decide +kernel) ⟨Nat.le_of_ble_eq_true rfl, Nat.le_of_ble_eq_true rfl⟩) rfl (Nat.le_of_ble_eq_true rfl) dL_law_369 hP hD hS (fun r0 u0 H locs w0 hP hS => ?_)
  have hD := hD.addr (wL2_addr (σ' := u0) (τ' := τ))
  refine lv_aload_n hx hb dL_law_372 rfl (lv_at hl 1 rfl) ?_
  refine lv_aload_n hx hb dL_law_373 rfl (lv_at hl 3 rfl) ?_
  refine lv_iload_n hx hb dL_law_374 rfl (lv_at hl 0 rfl) ?_
  refine lv_iconst (v := 1) hx hb dL_law_375 (by decide) ?_
  refine lv_iadd hx hb dL_law_376 ?_
  refine va_sld hx hb hX hbl hbA hS hv1 dL_law_377 ?_
  refine lv_aload_n hx hb dL_law_378 rfl (lv_at hl 3 rfl) ?_
  refine lv_iload_n hx hb dL_law_379 rfl (lv_at hl 0 rfl) ?_
  refine lv_iconst (v := 2) hx hb dL_law_380 (by decide) ?_
  refine lv_iadd hx hb dL_law_381 ?_
  refine va_sld hx hb hX hbl hbA hS hv2 dL_law_382 ?_
  refine W.eq (g2 := F0 m 383 ls (([.int (xs (nI i + 1).toNatClampNeg), .int (xs (nI i + 2).toNatClampNeg)] : List Value).reverse ++ .ref (am 0) :: [.int r0])) rfl ?_
  refine cm_int C0 hl.1 (As := [.int (xs (nI i + 1).toNatClampNeg), .int (xs (nI i + 2).toNatClampNeg)]) (rest := [.int r0]) (c_X3_heard l g am τ (xs (nI i + 1).toNatClampNeg) (xs (nI i + 2).toNatClampNeg) h.S.1) (cwV 2 hts gL_law_X3_heard rfl rfl rfl (by decide +kernel) ⟨Nat.le_of_ble_eq_true rfl, Nat.le_of_ble_eq_true rfl⟩) rfl (Nat.le_of_ble_eq_true rfl) dL_law_383 hP hD hS (fun r1 u1 H locs w1 hP hS => ?_)
  have hD := hD.addr (wL2_addr (σ' := u0) (τ' := u1))
  obtain ⟨er, hR⟩ := s_heard h (xs (nI i + 1).toNatClampNeg) (xs (nI i + 2).toNatClampNeg) r0 u0 r1 u1 w0 w1
  exact lv_icmp_eq (tgt := 1197) hx hb dL_law_386 (by decide) (fun _ => kk H locs u0 u1 hR hP hS) (fun cn => absurd er cn)
set_option maxHeartbeats 4000000 in
set_option maxRecDepth 100000 in
theorem lc_sets {p : Program} {e : Env} {s : State} {m : MethodId} {args : Array Value} {below : List Frame} {meth : Method} {c : Code} {H : Heap} {locs : List Loc} {Q : State → Prop} {ls : Array Slot} {g : CX} {b L i : Nat} {xs : Nat → Int32} {ax am : Nat → Nat} {σ : KX} {τ : KM} (l : Launch) (C0 : LawAt p s m args meth c g b L xs) (hL : L ≤ 2560) (hi : i + 5 ≤ L) (h : Rel σ τ) (hP : va_P (gD g) vwCl (wL2 g ax am σ τ) H) (hD : va_D (fun q => s.heap.size ≤ q) (wL2 g ax am σ τ)) (hS : va_S (fun q => s.heap.size ≤ q) s.heap H locs) (hl : lv_has ls 4 [(3, .int (nI i)), (2, .ref (am 0)), (1, .ref (ax 0)), (0, .ref b)])
    (kk : ∀ (H1 : Heap) (locs1 : List Loc) (σ1 : KX) (τ1 : KM), Rel σ1 τ1 → va_P (gD g) vwCl (wL2 g ax am σ1 τ1) H1 → va_S (fun q => s.heap.size ≤ q) s.heap H1 locs1 → W p l e room_1 s m args below meth c H1 locs1 600000 7302249 Q (F0 m 1197 ls [])) : W p l e room_1 s m args below meth c H locs 600000 7302249 Q (F0 m 391 ls []) := by
  have hx := C0.1
  have hb := C0.2.1
  have hX := C0.2.2.2.2.2.2.2.1
  have hbl := C0.2.2.2.2.2.2.2.2
  have hts := C0.2.2.2.2.1
  have hbA : ¬ (fun q : Nat => s.heap.size ≤ q) b := Nat.not_le.mpr hbl
  have hv0 : vp_in (nI i) L := vp_in_nI (by omega) (by omega)
  have hv1 : vp_in (nI i + 1) L := by rw [show (1 : Int32) = nI 1 from rfl, nI_add]; exact vp_in_nI (by omega) (by omega)
  have hv2 : vp_in (nI i + 2) L := by rw [show (2 : Int32) = nI 2 from rfl, nI_add]; exact vp_in_nI (by omega) (by omega)
  have hv3 : vp_in (nI i + 3) L := by rw [show (3 : Int32) = nI 3 from rfl, nI_add]; exact vp_in_nI (by omega) (by omega)
  have hv4 : vp_in (nI i + 4) L := by rw [show (4 : Int32) = nI 4 from rfl, nI_add]; exact vp_in_nI (by omega) (by omega)
  refine lv_aload_n hx hb dL_law_391 rfl (lv_at hl 2 rfl) ?_
  refine lv_aload_n hx hb dL_law_392 rfl (lv_at hl 3 rfl) ?_
  refine lv_iload_n hx hb dL_law_393 rfl (lv_at hl 0 rfl) ?_
  refine lv_iconst (v := 1) hx hb dL_law_394 (by decide) ?_
  refine lv_iadd hx hb dL_law_395 ?_
  refine va_sld hx hb hX hbl hbA hS hv1 dL_law_396 ?_
  refine W.eq (g2 := F0 m 397 ls (([.int (xs (nI i + 1).toNatClampNeg)] : List Value).reverse ++ .ref (ax 0) :: [])) rfl ?_
  refine cx_int C0 hl.1 (As := [.int (xs (nI i + 1).toNatClampNeg)]) (rest := []) (c_X2_sets l g ax σ (xs (nI i + 1).toNatClampNeg) h.1) (cwV 1 hts gL_law_X2_sets rfl rfl rfl (by decide +kernel) ⟨Nat.le_of_ble_eq_true rfl, Nat.le_of_ble_eq_true rfl⟩) rfl (Nat.le_of_ble_eq_true rfl) dL_law_397 hP hD hS (fun r0 u0 H locs w0 hP hS => ?_)
  have hD := hD.addr (wL2_addr (σ' := u0) (τ' := τ))
  refine lv_aload_n hx hb dL_law_400 rfl (lv_at hl 1 rfl) ?_
  refine lv_aload_n hx hb dL_law_401 rfl (lv_at hl 3 rfl) ?_
  refine lv_iload_n hx hb dL_law_402 rfl (lv_at hl 0 rfl) ?_
  refine lv_iconst (v := 1) hx hb dL_law_403 (by decide) ?_
  refine lv_iadd hx hb dL_law_404 ?_
  refine va_sld hx hb hX hbl hbA hS hv1 dL_law_405 ?_
  refine W.eq (g2 := F0 m 406 ls (([.int (xs (nI i + 1).toNatClampNeg)] : List Value).reverse ++ .ref (am 0) :: [.int r0])) rfl ?_
  refine cm_int C0 hl.1 (As := [.int (xs (nI i + 1).toNatClampNeg)]) (rest := [.int r0]) (c_X3_sets l g am τ (xs (nI i + 1).toNatClampNeg)) (cwV 1 hts gL_law_X3_sets rfl rfl rfl (by decide +kernel) ⟨Nat.le_of_ble_eq_true rfl, Nat.le_of_ble_eq_true rfl⟩) rfl (Nat.le_of_ble_eq_true rfl) dL_law_406 hP hD hS (fun r1 u1 H locs w1 hP hS => ?_)
  have hD := hD.addr (wL2_addr (σ' := u0) (τ' := u1))
  obtain ⟨er, hR⟩ := s_sets h (xs (nI i + 1).toNatClampNeg) r0 u0 r1 u1 w0 w1
  exact lv_icmp_eq (tgt := 1197) hx hb dL_law_409 (by decide) (fun _ => kk H locs u0 u1 hR hP hS) (fun cn => absurd er cn)
set_option maxHeartbeats 4000000 in
set_option maxRecDepth 100000 in
theorem lc_knows {p : Program} {e : Env} {s : State} {m : MethodId} {args : Array Value} {below : List Frame} {meth : Method} {c : Code} {H : Heap} {locs : List Loc} {Q : State → Prop} {ls : Array Slot} {g : CX} {b L i : Nat} {xs : Nat → Int32} {ax am : Nat → Nat} {σ : KX} {τ : KM} (l : Launch) (C0 : LawAt p s m args meth c g b L xs) (hL : L ≤ 2560) (hi : i + 5 ≤ L) (h : Rel σ τ) (hP : va_P (gD g) vwCl (wL2 g ax am σ τ) H) (hD : va_D (fun q => s.heap.size ≤ q) (wL2 g ax am σ τ)) (hS : va_S (fun q => s.heap.size ≤ q) s.heap H locs) (hl : lv_has ls 4 [(3, .int (nI i)), (2, .ref (am 0)), (1, .ref (ax 0)), (0, .ref b)])
    (kk : ∀ (H1 : Heap) (locs1 : List Loc) (σ1 : KX) (τ1 : KM), Rel σ1 τ1 → va_P (gD g) vwCl (wL2 g ax am σ1 τ1) H1 → va_S (fun q => s.heap.size ≤ q) s.heap H1 locs1 → W p l e room_1 s m args below meth c H1 locs1 600000 7302249 Q (F0 m 1197 ls [])) : W p l e room_1 s m args below meth c H locs 600000 7302249 Q (F0 m 414 ls []) := by
  have hx := C0.1
  have hb := C0.2.1
  have hX := C0.2.2.2.2.2.2.2.1
  have hbl := C0.2.2.2.2.2.2.2.2
  have hts := C0.2.2.2.2.1
  have hbA : ¬ (fun q : Nat => s.heap.size ≤ q) b := Nat.not_le.mpr hbl
  have hv0 : vp_in (nI i) L := vp_in_nI (by omega) (by omega)
  have hv1 : vp_in (nI i + 1) L := by rw [show (1 : Int32) = nI 1 from rfl, nI_add]; exact vp_in_nI (by omega) (by omega)
  have hv2 : vp_in (nI i + 2) L := by rw [show (2 : Int32) = nI 2 from rfl, nI_add]; exact vp_in_nI (by omega) (by omega)
  have hv3 : vp_in (nI i + 3) L := by rw [show (3 : Int32) = nI 3 from rfl, nI_add]; exact vp_in_nI (by omega) (by omega)
  have hv4 : vp_in (nI i + 4) L := by rw [show (4 : Int32) = nI 4 from rfl, nI_add]; exact vp_in_nI (by omega) (by omega)
  refine lv_aload_n hx hb dL_law_414 rfl (lv_at hl 2 rfl) ?_
  refine lv_aload_n hx hb dL_law_415 rfl (lv_at hl 3 rfl) ?_
  refine lv_iload_n hx hb dL_law_416 rfl (lv_at hl 0 rfl) ?_
  refine lv_iconst (v := 1) hx hb dL_law_417 (by decide) ?_
  refine lv_iadd hx hb dL_law_418 ?_
  refine va_sld hx hb hX hbl hbA hS hv1 dL_law_419 ?_
  refine lv_aload_n hx hb dL_law_420 rfl (lv_at hl 3 rfl) ?_
  refine lv_iload_n hx hb dL_law_421 rfl (lv_at hl 0 rfl) ?_
  refine lv_iconst (v := 2) hx hb dL_law_422 (by decide) ?_
  refine lv_iadd hx hb dL_law_423 ?_
  refine va_sld hx hb hX hbl hbA hS hv2 dL_law_424 ?_
  refine W.eq (g2 := F0 m 425 ls (([.int (xs (nI i + 1).toNatClampNeg), .int (xs (nI i + 2).toNatClampNeg)] : List Value).reverse ++ .ref (ax 0) :: [])) rfl ?_
  refine cx_int C0 hl.1 (As := [.int (xs (nI i + 1).toNatClampNeg), .int (xs (nI i + 2).toNatClampNeg)]) (rest := []) (c_X2_knows l g ax σ (xs (nI i + 1).toNatClampNeg) (xs (nI i + 2).toNatClampNeg) h.1) (cwV 2 hts gL_law_X2_knows rfl rfl rfl (by decide +kernel) ⟨Nat.le_of_ble_eq_true rfl, Nat.le_of_ble_eq_true rfl⟩) rfl (Nat.le_of_ble_eq_true rfl) dL_law_425 hP hD hS (fun r0 u0 H locs w0 hP hS => ?_)
  have hD := hD.addr (wL2_addr (σ' := u0) (τ' := τ))
  refine lv_aload_n hx hb dL_law_428 rfl (lv_at hl 1 rfl) ?_
  refine lv_aload_n hx hb dL_law_429 rfl (lv_at hl 3 rfl) ?_
  refine lv_iload_n hx hb dL_law_430 rfl (lv_at hl 0 rfl) ?_
  refine lv_iconst (v := 1) hx hb dL_law_431 (by decide) ?_
  refine lv_iadd hx hb dL_law_432 ?_
  refine va_sld hx hb hX hbl hbA hS hv1 dL_law_433 ?_
  refine lv_aload_n hx hb dL_law_434 rfl (lv_at hl 3 rfl) ?_
  refine lv_iload_n hx hb dL_law_435 rfl (lv_at hl 0 rfl) ?_
  refine lv_iconst (v := 2) hx hb dL_law_436 (by decide) ?_
  refine lv_iadd hx hb dL_law_437 ?_
  refine va_sld hx hb hX hbl hbA hS hv2 dL_law_438 ?_
  refine W.eq (g2 := F0 m 439 ls (([.int (xs (nI i + 1).toNatClampNeg), .int (xs (nI i + 2).toNatClampNeg)] : List Value).reverse ++ .ref (am 0) :: [.int r0])) rfl ?_
  refine cm_int C0 hl.1 (As := [.int (xs (nI i + 1).toNatClampNeg), .int (xs (nI i + 2).toNatClampNeg)]) (rest := [.int r0]) (c_X3_knows l g am τ (xs (nI i + 1).toNatClampNeg) (xs (nI i + 2).toNatClampNeg) h.S.1) (cwV 2 hts gL_law_X3_knows rfl rfl rfl (by decide +kernel) ⟨Nat.le_of_ble_eq_true rfl, Nat.le_of_ble_eq_true rfl⟩) rfl (Nat.le_of_ble_eq_true rfl) dL_law_439 hP hD hS (fun r1 u1 H locs w1 hP hS => ?_)
  have hD := hD.addr (wL2_addr (σ' := u0) (τ' := u1))
  obtain ⟨er, hR⟩ := s_knows h (xs (nI i + 1).toNatClampNeg) (xs (nI i + 2).toNatClampNeg) r0 u0 r1 u1 w0 w1
  exact lv_icmp_eq (tgt := 1197) hx hb dL_law_442 (by decide) (fun _ => kk H locs u0 u1 hR hP hS) (fun cn => absurd er cn)
set_option maxHeartbeats 4000000 in
set_option maxRecDepth 100000 in
theorem lc_turn {p : Program} {e : Env} {s : State} {m : MethodId} {args : Array Value} {below : List Frame} {meth : Method} {c : Code} {H : Heap} {locs : List Loc} {Q : State → Prop} {ls : Array Slot} {g : CX} {b L i : Nat} {xs : Nat → Int32} {ax am : Nat → Nat} {σ : KX} {τ : KM} (l : Launch) (C0 : LawAt p s m args meth c g b L xs) (hL : L ≤ 2560) (hi : i + 5 ≤ L) (h : Rel σ τ) (hP : va_P (gD g) vwCl (wL2 g ax am σ τ) H) (hD : va_D (fun q => s.heap.size ≤ q) (wL2 g ax am σ τ)) (hS : va_S (fun q => s.heap.size ≤ q) s.heap H locs) (hl : lv_has ls 4 [(3, .int (nI i)), (2, .ref (am 0)), (1, .ref (ax 0)), (0, .ref b)])
    (kk : ∀ (H1 : Heap) (locs1 : List Loc) (σ1 : KX) (τ1 : KM), Rel σ1 τ1 → va_P (gD g) vwCl (wL2 g ax am σ1 τ1) H1 → va_S (fun q => s.heap.size ≤ q) s.heap H1 locs1 → W p l e room_1 s m args below meth c H1 locs1 600000 7302249 Q (F0 m 1197 ls [])) : W p l e room_1 s m args below meth c H locs 600000 7302249 Q (F0 m 447 ls []) := by
  have hx := C0.1
  have hb := C0.2.1
  have hX := C0.2.2.2.2.2.2.2.1
  have hbl := C0.2.2.2.2.2.2.2.2
  have hts := C0.2.2.2.2.1
  have hbA : ¬ (fun q : Nat => s.heap.size ≤ q) b := Nat.not_le.mpr hbl
  have hv0 : vp_in (nI i) L := vp_in_nI (by omega) (by omega)
  have hv1 : vp_in (nI i + 1) L := by rw [show (1 : Int32) = nI 1 from rfl, nI_add]; exact vp_in_nI (by omega) (by omega)
  have hv2 : vp_in (nI i + 2) L := by rw [show (2 : Int32) = nI 2 from rfl, nI_add]; exact vp_in_nI (by omega) (by omega)
  have hv3 : vp_in (nI i + 3) L := by rw [show (3 : Int32) = nI 3 from rfl, nI_add]; exact vp_in_nI (by omega) (by omega)
  have hv4 : vp_in (nI i + 4) L := by rw [show (4 : Int32) = nI 4 from rfl, nI_add]; exact vp_in_nI (by omega) (by omega)
  refine lv_aload_n hx hb dL_law_447 rfl (lv_at hl 2 rfl) ?_
  refine lv_aload_n hx hb dL_law_448 rfl (lv_at hl 3 rfl) ?_
  refine lv_iload_n hx hb dL_law_449 rfl (lv_at hl 0 rfl) ?_
  refine lv_iconst (v := 1) hx hb dL_law_450 (by decide) ?_
  refine lv_iadd hx hb dL_law_451 ?_
  refine va_sld hx hb hX hbl hbA hS hv1 dL_law_452 ?_
  refine lv_aload_n hx hb dL_law_453 rfl (lv_at hl 3 rfl) ?_
  refine lv_iload_n hx hb dL_law_454 rfl (lv_at hl 0 rfl) ?_
  refine lv_iconst (v := 2) hx hb dL_law_455 (by decide) ?_
  refine lv_iadd hx hb dL_law_456 ?_
  refine va_sld hx hb hX hbl hbA hS hv2 dL_law_457 ?_
  refine lv_aload_n hx hb dL_law_458 rfl (lv_at hl 3 rfl) ?_
  refine lv_iload_n hx hb dL_law_459 rfl (lv_at hl 0 rfl) ?_
  refine lv_iconst (v := 3) hx hb dL_law_460 (by decide) ?_
  refine lv_iadd hx hb dL_law_461 ?_
  refine va_sld hx hb hX hbl hbA hS hv3 dL_law_462 ?_
  refine W.eq (g2 := F0 m 463 ls (([.int (xs (nI i + 1).toNatClampNeg), .int (xs (nI i + 2).toNatClampNeg), .int (xs (nI i + 3).toNatClampNeg)] : List Value).reverse ++ .ref (ax 0) :: [])) rfl ?_
  refine cx_int C0 hl.1 (As := [.int (xs (nI i + 1).toNatClampNeg), .int (xs (nI i + 2).toNatClampNeg), .int (xs (nI i + 3).toNatClampNeg)]) (rest := []) (c_X2_turn l g ax σ (xs (nI i + 1).toNatClampNeg) (xs (nI i + 2).toNatClampNeg) (xs (nI i + 3).toNatClampNeg) h.1) (cwV 3 hts gL_law_X2_turn rfl rfl rfl (by decide +kernel) ⟨Nat.le_of_ble_eq_true rfl, Nat.le_of_ble_eq_true rfl⟩) rfl (Nat.le_of_ble_eq_true rfl) dL_law_463 hP hD hS (fun r0 u0 H locs w0 hP hS => ?_)
  have hD := hD.addr (wL2_addr (σ' := u0) (τ' := τ))
  refine lv_aload_n hx hb dL_law_466 rfl (lv_at hl 1 rfl) ?_
  refine lv_aload_n hx hb dL_law_467 rfl (lv_at hl 3 rfl) ?_
  refine lv_iload_n hx hb dL_law_468 rfl (lv_at hl 0 rfl) ?_
  refine lv_iconst (v := 1) hx hb dL_law_469 (by decide) ?_
  refine lv_iadd hx hb dL_law_470 ?_
  refine va_sld hx hb hX hbl hbA hS hv1 dL_law_471 ?_
  refine lv_aload_n hx hb dL_law_472 rfl (lv_at hl 3 rfl) ?_
  refine lv_iload_n hx hb dL_law_473 rfl (lv_at hl 0 rfl) ?_
  refine lv_iconst (v := 2) hx hb dL_law_474 (by decide) ?_
  refine lv_iadd hx hb dL_law_475 ?_
  refine va_sld hx hb hX hbl hbA hS hv2 dL_law_476 ?_
  refine lv_aload_n hx hb dL_law_477 rfl (lv_at hl 3 rfl) ?_
  refine lv_iload_n hx hb dL_law_478 rfl (lv_at hl 0 rfl) ?_
  refine lv_iconst (v := 3) hx hb dL_law_479 (by decide) ?_
  refine lv_iadd hx hb dL_law_480 ?_
  refine va_sld hx hb hX hbl hbA hS hv3 dL_law_481 ?_
  refine W.eq (g2 := F0 m 482 ls (([.int (xs (nI i + 1).toNatClampNeg), .int (xs (nI i + 2).toNatClampNeg), .int (xs (nI i + 3).toNatClampNeg)] : List Value).reverse ++ .ref (am 0) :: [.int r0])) rfl ?_
  refine cm_int C0 hl.1 (As := [.int (xs (nI i + 1).toNatClampNeg), .int (xs (nI i + 2).toNatClampNeg), .int (xs (nI i + 3).toNatClampNeg)]) (rest := [.int r0]) (c_X3_turn l g am τ (xs (nI i + 1).toNatClampNeg) (xs (nI i + 2).toNatClampNeg) (xs (nI i + 3).toNatClampNeg) h.S.1) (cwV 3 hts gL_law_X3_turn rfl rfl rfl (by decide +kernel) ⟨Nat.le_of_ble_eq_true rfl, Nat.le_of_ble_eq_true rfl⟩) rfl (Nat.le_of_ble_eq_true rfl) dL_law_482 hP hD hS (fun r1 u1 H locs w1 hP hS => ?_)
  have hD := hD.addr (wL2_addr (σ' := u0) (τ' := u1))
  obtain ⟨er, hR⟩ := s_turn h (xs (nI i + 1).toNatClampNeg) (xs (nI i + 2).toNatClampNeg) (xs (nI i + 3).toNatClampNeg) r0 u0 r1 u1 w0 w1
  exact lv_icmp_eq (tgt := 1197) hx hb dL_law_485 (by decide) (fun _ => kk H locs u0 u1 hR hP hS) (fun cn => absurd er cn)
