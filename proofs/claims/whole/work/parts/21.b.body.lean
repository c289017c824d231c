set_option maxHeartbeats 8000000 in
set_option maxRecDepth 100000 in
theorem law_body {p : Program} {e : Env} {s : State} {m : MethodId} {args : Array Value} {below : List Frame} {meth : Method} {c : Code} {H : Heap} {locs : List Loc} {Q : State → Prop} {ls : Array Slot} {g : CX} {b L i : Nat} {xs : Nat → Int32} {ax am : Nat → Nat} {σ : KX} {τ : KM} (l : Launch) (C0 : LawAt p s m args meth c g b L xs) (hL : L ≤ 2560) (hi : i + 5 ≤ L) (h : Rel σ τ) (hP : va_P (gD g) vwCl (wL2 g ax am σ τ) H) (hD : va_D (fun q => s.heap.size ≤ q) (wL2 g ax am σ τ)) (hS : va_S (fun q => s.heap.size ≤ q) s.heap H locs) (hl : lv_has ls 4 [(3, .int (nI i)), (2, .ref (am 0)), (1, .ref (ax 0)), (0, .ref b)])
    (kk : ∀ (H1 : Heap) (locs1 : List Loc) (σ1 : KX) (τ1 : KM), Rel σ1 τ1 → va_P (gD g) vwCl (wL2 g ax am σ1 τ1) H1 → va_S (fun q => s.heap.size ≤ q) s.heap H1 locs1 → W p l e room_1 s m args below meth c H1 locs1 600000 7302249 Q (F0 m 1197 ls [])) : W p l e room_1 s m args below meth c H locs 600000 7302249 Q (F0 m 26 ls []) := by
  have hx := C0.1
  have hb := C0.2.1
  have hX := C0.2.2.2.2.2.2.2.1
  have hbl := C0.2.2.2.2.2.2.2.2
  have hbA : ¬ (fun q : Nat => s.heap.size ≤ q) b := Nat.not_le.mpr hbl
  have hv0 : vp_in (nI i) L := vp_in_nI (by omega) (by omega)
  refine lv_aload_n hx hb dL_law_26 rfl (lv_at hl 3 rfl) ?_
  refine lv_iload_n hx hb dL_law_27 rfl (lv_at hl 0 rfl) ?_
  refine va_sld hx hb hX hbl hbA hS hv0 dL_law_28 ?_
  refine lv_bipush (v := 63) hx hb dL_law_29 (by decide) ?_
  refine lv_iand hx hb dL_law_31 ?_
  generalize xs (nI i).toNatClampNeg &&& 63 = x
  by_cases d0 : x = 0
  · exact lv_tableIn (off := 168) (tgt := 200) hx hb dL_law_32 (by rw [d0]; decide) (by rw [d0]; decide) (by rw [d0]; rfl) (by decide) (lc_letter l C0 hL hi h hP hD hS hl kk)
  by_cases d1 : x = 1
  · exact lv_tableIn (off := 191) (tgt := 223) hx hb dL_law_32 (by rw [d1]; decide) (by rw [d1]; decide) (by rw [d1]; rfl) (by decide) (lc_court l C0 hL hi h hP hD hS hl kk)
  by_cases d2 : x = 2
  · exact lv_tableIn (off := 204) (tgt := 236) hx hb dL_law_32 (by rw [d2]; decide) (by rw [d2]; decide) (by rw [d2]; rfl) (by decide) (lc_fact l C0 hL hi h hP hD hS hl kk)
  by_cases d3 : x = 3
  · exact lv_tableIn (off := 227) (tgt := 259) hx hb dL_law_32 (by rw [d3]; decide) (by rw [d3]; decide) (by rw [d3]; rfl) (by decide) (lc_question l C0 hL hi h hP hD hS hl kk)
  by_cases d4 : x = 4
  · exact lv_tableIn (off := 260) (tgt := 292) hx hb dL_law_32 (by rw [d4]; decide) (by rw [d4]; decide) (by rw [d4]; rfl) (by decide) (lc_witness l C0 hL hi h hP hD hS hl kk)
  by_cases d5 : x = 5
  · exact lv_tableIn (off := 293) (tgt := 325) hx hb dL_law_32 (by rw [d5]; decide) (by rw [d5]; decide) (by rw [d5]; rfl) (by decide) (lc_asks l C0 hL hi h hP hD hS hl kk)
  by_cases d6 : x = 6
  · exact lv_tableIn (off := 326) (tgt := 358) hx hb dL_law_32 (by rw [d6]; decide) (by rw [d6]; decide) (by rw [d6]; rfl) (by decide) (lc_heard l C0 hL hi h hP hD hS hl kk)
  by_cases d7 : x = 7
  · exact lv_tableIn (off := 359) (tgt := 391) hx hb dL_law_32 (by rw [d7]; decide) (by rw [d7]; decide) (by rw [d7]; rfl) (by decide) (lc_sets l C0 hL hi h hP hD hS hl kk)
  by_cases d8 : x = 8
  · exact lv_tableIn (off := 382) (tgt := 414) hx hb dL_law_32 (by rw [d8]; decide) (by rw [d8]; decide) (by rw [d8]; rfl) (by decide) (lc_knows l C0 hL hi h hP hD hS hl kk)
  by_cases d9 : x = 9
  · exact lv_tableIn (off := 415) (tgt := 447) hx hb dL_law_32 (by rw [d9]; decide) (by rw [d9]; decide) (by rw [d9]; rfl) (by decide) (lc_turn l C0 hL hi h hP hD hS hl kk)
  by_cases d10 : x = 10
  · exact lv_tableIn (off := 458) (tgt := 490) hx hb dL_law_32 (by rw [d10]; decide) (by rw [d10]; decide) (by rw [d10]; rfl) (by decide) (lc_empties l C0 hL hi h hP hD hS hl kk)
  by_cases d11 : x = 11
  · exact lv_tableIn (off := 471) (tgt := 503) hx hb dL_law_32 (by rw [d11]; decide) (by rw [d11]; decide) (by rw [d11]; rfl) (by decide) (lc_answer l C0 hL hi h hP hD hS hl kk)
  by_cases d12 : x = 12
  · exact lv_tableIn (off := 514) (tgt := 546) hx hb dL_law_32 (by rw [d12]; decide) (by rw [d12]; decide) (by rw [d12]; rfl) (by decide) (lc_fits l C0 hL hi h hP hD hS hl kk)
  by_cases d13 : x = 13
  · exact lv_tableIn (off := 537) (tgt := 569) hx hb dL_law_32 (by rw [d13]; decide) (by rw [d13]; decide) (by rw [d13]; rfl) (by decide) (lc_jury l C0 hL hi h hP hD hS hl kk)
  by_cases d14 : x = 14
  · exact lv_tableIn (off := 560) (tgt := 592) hx hb dL_law_32 (by rw [d14]; decide) (by rw [d14]; decide) (by rw [d14]; rfl) (by decide) (lc_sure l C0 hL hi h hP hD hS hl kk)
  by_cases d15 : x = 15
  · exact lv_tableIn (off := 583) (tgt := 615) hx hb dL_law_32 (by rw [d15]; decide) (by rw [d15]; decide) (by rw [d15]; rfl) (by decide) (lc_next l C0 hL hi h hP hD hS hl kk)
  by_cases d16 : x = 16
  · exact lv_tableIn (off := 606) (tgt := 638) hx hb dL_law_32 (by rw [d16]; decide) (by rw [d16]; decide) (by rw [d16]; rfl) (by decide) (lc_settle l C0 hL hi h hP hD hS hl kk)
  by_cases d17 : x = 17
  · exact lv_tableIn (off := 649) (tgt := 681) hx hb dL_law_32 (by rw [d17]; decide) (by rw [d17]; decide) (by rw [d17]; rfl) (by decide) (lc_words l C0 hL hi h hP hD hS hl kk)
  by_cases d18 : x = 18
  · exact lv_tableIn (off := 682) (tgt := 714) hx hb dL_law_32 (by rw [d18]; decide) (by rw [d18]; decide) (by rw [d18]; rfl) (by decide) (lc_liars l C0 hL hi h hP hD hS hl kk)
  by_cases d19 : x = 19
  · exact lv_tableIn (off := 695) (tgt := 727) hx hb dL_law_32 (by rw [d19]; decide) (by rw [d19]; decide) (by rw [d19]; rfl) (by decide) (lc_clash l C0 hL hi h hP hD hS hl kk)
  by_cases d20 : x = 20
  · exact lv_tableIn (off := 708) (tgt := 740) hx hb dL_law_32 (by rw [d20]; decide) (by rw [d20]; decide) (by rw [d20]; rfl) (by decide) (lc_trueOf l C0 hL hi h hP hD hS hl kk)
  by_cases d21 : x = 21
  · exact lv_tableIn (off := 731) (tgt := 763) hx hb dL_law_32 (by rw [d21]; decide) (by rw [d21]; decide) (by rw [d21]; rfl) (by decide) (lc_talker l C0 hL hi h hP hD hS hl kk)
  by_cases d22 : x = 22
  · exact lv_tableIn (off := 744) (tgt := 776) hx hb dL_law_32 (by rw [d22]; decide) (by rw [d22]; decide) (by rw [d22]; rfl) (by decide) (lc_betrays l C0 hL hi h hP hD hS hl kk)
  by_cases d23 : x = 23
  · exact lv_tableIn (off := 767) (tgt := 799) hx hb dL_law_32 (by rw [d23]; decide) (by rw [d23]; decide) (by rw [d23]; rfl) (by decide) (lc_verdict l C0 hL hi h hP hD hS hl kk)
  by_cases d24 : x = 24
  · exact lv_tableIn (off := 801) (tgt := 833) hx hb dL_law_32 (by rw [d24]; decide) (by rw [d24]; decide) (by rw [d24]; rfl) (by decide) (lc_hidden l C0 hL hi h hP hD hS hl kk)
  by_cases d25 : x = 25
  · exact lv_tableIn (off := 814) (tgt := 846) hx hb dL_law_32 (by rw [d25]; decide) (by rw [d25]; decide) (by rw [d25]; rfl) (by decide) (lc_same l C0 hL hi h hP hD hS hl kk)
  by_cases d26 : x = 26
  · exact lv_tableIn (off := 837) (tgt := 869) hx hb dL_law_32 (by rw [d26]; decide) (by rw [d26]; decide) (by rw [d26]; rfl) (by decide) (lc_implies l C0 hL hi h hP hD hS hl kk)
  by_cases d27 : x = 27
  · exact lv_tableIn (off := 870) (tgt := 902) hx hb dL_law_32 (by rw [d27]; decide) (by rw [d27]; decide) (by rw [d27]; rfl) (by decide) (lc_two l C0 hL hi h hP hD hS hl kk)
  by_cases d28 : x = 28
  · exact lv_tableIn (off := 913) (tgt := 945) hx hb dL_law_32 (by rw [d28]; decide) (by rw [d28]; decide) (by rw [d28]; rfl) (by decide) (lc_drawn l C0 hL hi h hP hD hS hl kk)
  by_cases d29 : x = 29
  · exact lv_tableIn (off := 967) (tgt := 999) hx hb dL_law_32 (by rw [d29]; decide) (by rw [d29]; decide) (by rw [d29]; rfl) (by decide) (lc_mean l C0 hL hi h hP hD hS hl kk)
  by_cases d30 : x = 30
  · exact lv_tableIn (off := 991) (tgt := 1023) hx hb dL_law_32 (by rw [d30]; decide) (by rw [d30]; decide) (by rw [d30]; rfl) (by decide) (lc_whatIs l C0 hL hi h hP hD hS hl kk)
  by_cases d31 : x = 31
  · exact lv_tableIn (off := 1024) (tgt := 1056) hx hb dL_law_32 (by rw [d31]; decide) (by rw [d31]; decide) (by rw [d31]; rfl) (by decide) (lc_row l C0 hL hi h hP hD hS hl kk)
  by_cases d32 : x = 32
  · exact lv_tableIn (off := 1047) (tgt := 1079) hx hb dL_law_32 (by rw [d32]; decide) (by rw [d32]; decide) (by rw [d32]; rfl) (by decide) (lc_judge l C0 hL hi h hP hD hS hl kk)
  by_cases d33 : x = 33
  · exact lv_tableIn (off := 1060) (tgt := 1092) hx hb dL_law_32 (by rw [d33]; decide) (by rw [d33]; decide) (by rw [d33]; rfl) (by decide) (lc_clear l C0 hL hi h hP hD hS hl kk)
  by_cases d34 : x = 34
  · exact lv_tableIn (off := 1073) (tgt := 1105) hx hb dL_law_32 (by rw [d34]; decide) (by rw [d34]; decide) (by rw [d34]; rfl) (by decide) (lc_lots l C0 hL hi h hP hD hS hl kk)
  by_cases d35 : x = 35
  · exact lv_tableIn (off := 1116) (tgt := 1148) hx hb dL_law_32 (by rw [d35]; decide) (by rw [d35]; decide) (by rw [d35]; rfl) (by decide) (lc_image l C0 hL hi h hP hD hS hl kk)
  by_cases d36 : x = 36
  · exact lv_tableIn (off := 1129) (tgt := 1161) hx hb dL_law_32 (by rw [d36]; decide) (by rw [d36]; decide) (by rw [d36]; rfl) (by decide) (lc_on l C0 hL hi h hP hD hS hl kk)
  by_cases d37 : x = 37
  · exact lv_tableIn (off := 1142) (tgt := 1174) hx hb dL_law_32 (by rw [d37]; decide) (by rw [d37]; decide) (by rw [d37]; rfl) (by decide) (lc_count l C0 hL hi h hP hD hS hl kk)
  refine lv_tableOut (tgt := 1197) hx hb dL_law_32 (by have n0 := lv_neT (a := 0) d0 (by decide); have n1 := lv_neT (a := 1) d1 (by decide); have n2 := lv_neT (a := 2) d2 (by decide); have n3 := lv_neT (a := 3) d3 (by decide); have n4 := lv_neT (a := 4) d4 (by decide); have n5 := lv_neT (a := 5) d5 (by decide); have n6 := lv_neT (a := 6) d6 (by decide); have n7 := lv_neT (a := 7) d7 (by decide); have n8 := lv_neT (a := 8) d8 (by decide); have n9 := lv_neT (a := 9) d9 (by decide); have n10 := lv_neT (a := 10) d10 (by decide); have n11 := lv_neT (a := 11) d11 (by decide); have n12 := lv_neT (a := 12) d12 (by decide); have n13 := lv_neT (a := 13) d13 (by decide); have n14 := lv_neT (a := 14) d14 (by decide); have n15 := lv_neT (a := 15) d15 (by decide); have n16 := lv_neT (a := 16) d16 (by decide); have n17 := lv_neT (a := 17) d17 (by decide); have n18 := lv_neT (a := 18) d18 (by decide); have n19 := lv_neT (a := 19) d19 (by decide); have n20 := lv_neT (a := 20) d20 (by decide); have n21 := lv_neT (a := 21) d21 (by decide); have n22 := lv_neT (a := 22) d22 (by decide); have n23 := lv_neT (a := 23) d23 (by decide); have n24 := lv_neT (a := 24) d24 (by decide); have n25 := lv_neT (a := 25) d25 (by decide); have n26 := lv_neT (a := 26) d26 (by decide); have n27 := lv_neT (a := 27) d27 (by decide); have n28 := lv_neT (a := 28) d28 (by decide); have n29 := lv_neT (a := 29) d29 (by decide); have n30 := lv_neT (a := 30) d30 (by decide); have n31 := lv_neT (a := 31) d31 (by decide); have n32 := lv_neT (a := 32) d32 (by decide); have n33 := lv_neT (a := 33) d33 (by decide); have n34 := lv_neT (a := 34) d34 (by decide); have n35 := lv_neT (a := 35) d35 (by decide); have n36 := lv_neT (a := 36) d36 (by decide); have n37 := lv_neT (a := 37) d37 (by decide); omega) (by decide) ?_
  exact kk H locs σ τ h hP hS
