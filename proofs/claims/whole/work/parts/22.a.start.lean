/-! THE CLAIM OUT OF ONE WALK OF THE LAW'S BODY. Your part is whole_start (and what it stands on); all else here is the same for every law, but numbers. -/
def R_law : String := "JuryHearsAnswersLaw"
def lw_P (b : Addr) (xs : List Int32) (args : Array Value) (s : State) : Prop := args = #[.ref b] ∧ s.IntsAt b xs ∧ xs.length ≤ 2560 ∧ (Jvm.Cond.and given_1 narrow_1).before args s = true
def lw_Q (_ : Array Value) (s : State) (o : Outcome) (t : State) : Prop := o = .returned (some (.int 1)) ∧ Framed s o t [] 600000 7302249
def lw_Z (below : List Frame) (a : Array Value) (s : State) : State → Prop := fun t => ∃ o, t.status = .running ∧ Ended t below o ∧ lw_Q a s o t
/-- the law's own end, with 1 on the stack, nothing written that was there before, its room as the claim has it -/
theorem lw_ret {p : Program} {l : Launch} {e : Env} {s : State} {m : MethodId} {below : List Frame} {meth : Method} {c : Code} {b : Nat} (hx : p.tables.exec = Jvm.exec) (hb : c.code = code) (hr : meth.sig.returnType = ret) (hlocks : meth.locks = false) {pc : Nat} {H : Heap} {ls : Array Slot} (hdg : decode code pc = .ok (.ireturn, 1)) : W p l e room_1 s m #[Value.ref b] below meth c H [] 600000 7302249 (lw_Z below #[Value.ref b] s) (F0 m pc ls [.int 1]) := by
  intro T hT X
  obtain ⟨fs, hret, hrun, hended, hW, hframe⟩ := X.leave (v := some (.int 1)) (hlocks := hlocks) (fun h => by rw [hr] at h; cases h)
  have hmeth' : T.vm.method? m = some meth := X.method'
  refine ⟨T.setFrames fs, ?_, .returned (some (.int 1)), hrun, hended, rfl, ⟨_, rfl⟩, hW, hframe⟩
  jvm_step X.here [X.here.top, hx, hb, hdg, hmeth', hr, ret, narrow_b1]
  (try refine ⟨rfl, ?_⟩); (try refine ⟨rfl, ?_⟩)
  first | (intro acts; rw [hret _ acts rfl rfl rfl]) | rw [hret _ _ rfl rfl rfl]
  exact Steps.refl _
/-- what holds at the law's entry: the machine, the code, the tables' words (any of lw_tbl by 'hts w (by decide +kernel)'), the script of L ints xs at the cell b, what the Statement gives of the start (any of its parts by flat_of_before) -/
def lw_At (p : Program) (s : State) (m : MethodId) (meth : Method) (c : Code) (b L : Nat) (xs : Nat → Int32) : Prop :=
  p.tables.exec = Jvm.exec ∧ c.code = code ∧ meth.sig.returnType = ret ∧ c.maxLocals = 4 ∧ s.vm.findClass R_law = some m.cls ∧ (∀ w ∈ lw_tbl, w.before #[Value.ref b] s = true) ∧ va_X b L xs s s.heap ∧ b < s.heap.size ∧ meth.locks = false ∧ (Jvm.Cond.and given_1 narrow_1).before #[Value.ref b] s = true
/-! THE START: what the Statement gives, the two objects; the loop -/
theorem arr_K {args : Array Value} {s : State} {ty : FieldType} (h : (Cond.arrayClass ty).before args s = true) (hn : ∀ c : ClassId, va_RA s c ty = (s.vm.findClass ("[" ++ ty.toString) = some c)) : ∃ cA : ClassId, ArrOfT s cA ty ∧ va_RA s cA ty := by
  obtain ⟨cA, kA, comp, hfind, hk, hkind⟩ := Cond.arrayClass_spec h
  exact ⟨cA, fun n z => ⟨fun k h => (by cases h), kA, hk, comp, hkind⟩, by rw [hn]; exact hfind⟩
set_option maxHeartbeats 8000000 in
set_option maxRecDepth 100000 in
theorem law_loop {p : Program} {e : Env} {s : State} {m : MethodId} {below : List Frame} {meth : Method} {c : Code} {g : CX} {b L : Nat} {xs : Nat → Int32} {ax am : Nat → Nat} (l : Launch) (hL : L ≤ 2560) (C : lw_At p s m meth c b L xs) (C0 : LawAt p s m #[Value.ref b] meth c g b L xs) : ∀ (n i : Nat) (σ : KX) (τ : KM), L < i + n → i ≤ L + 5 → Rel σ τ → ∀ (H : Heap) (locs : List Loc) (ls : Array Slot), va_P (gD g) vwCl (wL2 g ax am σ τ) H → va_D (fun q => s.heap.size ≤ q) (wL2 g ax am σ τ) → va_S (fun q => s.heap.size ≤ q) s.heap H locs → lv_has ls 4 [(3, .int (nI i)), (2, .ref (am 0)), (1, .ref (ax 0)), (0, .ref b)] →
    W p l e room_1 s m #[Value.ref b] below meth c H locs 600000 7302249 (lw_Z below #[Value.ref b] s) (F0 m 18 ls []) := by
  intro n
  induction n with
  | zero =>
    intro i σ τ h1 h2 hR H locs ls hP hD hS hl
    obtain ⟨hx, hb, hr, hml, hown, hts, hX, hbl, hlocks, hgv⟩ := id C
    have hbA : ¬ (fun q : Nat => s.heap.size ≤ q) b := Nat.not_le.mpr hbl
    refine lv_iload_n hx hb dL_law_18 rfl (lv_at hl 0 rfl) ?_
    refine lv_aload_n hx hb dL_law_19 rfl (lv_at hl 3 rfl) ?_
    refine va_slen hx hb hX hbl hbA hS dL_law_20 ?_
    refine lv_iconst (v := 5) hx hb dL_law_21 (by decide) ?_
    refine lv_isub hx hb dL_law_22 ?_
    have hc : nI L - 5 < nI i := by
      rw [int_lt, show (5 : Int32) = nI 5 from rfl, pk_sub_toInt (by omega) (by decide), nI_toInt (by omega)]; omega
    refine lv_icmp_gt (tgt := 1203) hx hb dL_law_23 (by decide) (fun _ => ?_) (fun cn => absurd hc cn)
    refine lv_iconst (v := 1) hx hb dL_law_1203 (by decide) ?_
    refine va_forget hS.2.2 ?_
    exact lw_ret hx hb hr hlocks dL_law_1204
  | succ n ih =>
    intro i σ τ h1 h2 hR H locs ls hP hD hS hl
    obtain ⟨hx, hb, hr, hml, hown, hts, hX, hbl, hlocks, hgv⟩ := id C
    have hbA : ¬ (fun q : Nat => s.heap.size ≤ q) b := Nat.not_le.mpr hbl
    refine lv_iload_n hx hb dL_law_18 rfl (lv_at hl 0 rfl) ?_
    refine lv_aload_n hx hb dL_law_19 rfl (lv_at hl 3 rfl) ?_
    refine va_slen hx hb hX hbl hbA hS dL_law_20 ?_
    refine lv_iconst (v := 5) hx hb dL_law_21 (by decide) ?_
    refine lv_isub hx hb dL_law_22 ?_
    have hc : (nI L - 5 < nI i) ↔ L < i + 5 := by
      rw [int_lt, show (5 : Int32) = nI 5 from rfl, pk_sub_toInt (by omega) (by decide), nI_toInt (by omega)]; omega
    refine lv_icmp_gt (tgt := 1203) hx hb dL_law_23 (by decide) (fun cp => ?_) (fun cn => ?_)
    · refine lv_iconst (v := 1) hx hb dL_law_1203 (by decide) ?_
      refine va_forget hS.2.2 ?_
      exact lw_ret hx hb hr hlocks dL_law_1204
    · have hi : i + 5 ≤ L := Nat.not_lt.mp fun q => cn (hc.mpr q)
      refine law_body l C0 hL hi hR hP hD hS hl (fun H1 locs1 σ1 τ1 hR1 hP1 hS1 => ?_)
      refine lv_iinc (v := nI i + 5) (lv' := [(3, .int (nI i + 5)), (2, .ref (am 0)), (1, .ref (ax 0)), (0, .ref b)]) hx hb dL_law_1197 hl (k := 0) rfl (by first | rfl | exact congrArg _ (by decide)) (by decide) rfl (fun ls hl => ?_)
      refine lv_goto (tgt := 18) hx hb dL_law_1200 (by decide) ?_
      rw [show nI i + 5 = nI (i + 5) from nI_add i 5] at hl
      exact ih (i + 5) σ1 τ1 (by omega) (by omega) hR1 H1 locs1 ls hP1 (hD.addr wL2_addr) hS1 hl
abbrev tmS (i : Nat) : Term := .string "JuryHearsAnswers$Script" (19 + 2 * i)
theorem fl_ex : ∀ i, i < 7 → Cond.exactly (tmS i) "java/lang/String" ∈ flatC (Jvm.Cond.and given_1 narrow_1) := by decide +kernel
theorem fl_co : ∀ i, i < 7 → Cond.eq (.field (tmS i) "java/lang/String" "coder" "B") (.int 0) ∈ flatC (Jvm.Cond.and given_1 narrow_1) := by decide +kernel
theorem fl_ar : ∀ i, i < 7 → Cond.arrayOf (.field (tmS i) "java/lang/String" "value" "[B") .byte ∈ flatC (Jvm.Cond.and given_1 narrow_1) := by decide +kernel
theorem fl_le : ∀ i, i < 7 → Cond.eq (.length (.field (tmS i) "java/lang/String" "value" "[B")) (.int (Int32.ofNat (lenS.getD i 0))) ∈ flatC (Jvm.Cond.and given_1 narrow_1) := by decide +kernel
theorem fl_el : ∀ i, i < 7 → ∀ j, j < lenS.getD i 0 → Cond.eq (.elem (.field (tmS i) "java/lang/String" "value" "[B") (.int (Int32.ofNat j))) (.int ((bytS.getD i []).getD j 0)) ∈ flatC (Jvm.Cond.and given_1 narrow_1) := by decide +kernel
theorem fl_ne : ∀ i, i < 7 → ∀ j, j < 7 → i ≠ j → (Cond.not (Cond.eq (tmS i) (tmS j)) ∈ flatC (Jvm.Cond.and given_1 narrow_1) ∨ Cond.not (Cond.eq (tmS j) (tmS i)) ∈ flatC (Jvm.Cond.and given_1 narrow_1)) := by decide +kernel
theorem fl_fc : ∀ j, j < 6 → Cond.eq (.elem (.static "JuryHearsAnswers" "FACT_CASES" "[J") (.int (Int32.ofNat j))) (.long (fcT j)) ∈ flatC (Jvm.Cond.and given_1 narrow_1) := by decide +kernel
set_option maxHeartbeats 8000000 in
set_option maxRecDepth 100000 in
/-- what the Statement gives of literals, statics, links -/
theorem EN_start {p : Program} {s : State} {m : MethodId} {meth : Method} {c : Code} {b L : Nat} {xs : Nat → Int32} (C0 : lw_At p s m meth c b L xs) : ∃ g : CX, va_K (gD g) vwCl (tys g) s ∧ EN g (fun q => s.heap.size ≤ q) s := by
  obtain ⟨hx, hb, hr, hml, hown, hts, hX, hbl, hlocks, hgv⟩ := id C0
  have hAn : ∀ a : Nat, a < s.heap.size → ¬ (fun q : Nat => s.heap.size ≤ q) a := fun a h => Nat.not_le.mpr h
  have hs := flat_of_before _ hgv
  obtain ⟨k0, i0, K0⟩ := u_known (C := RX0) (T := TX0) (N := 17) (n := 17) hts inX0 (hts (.instantiable RX0 17) (List.mem_of_getElem? (i := 85) (by decide +kernel)))
  obtain ⟨k1, i1, K1⟩ := u_known (C := RX1) (T := TX1) (N := 2) (n := 2) hts inX1 (hts (.instantiable RX1 2) (List.mem_of_getElem? (i := 161) (by decide +kernel)))
  obtain ⟨k2, i2, K2⟩ := u_known (C := RX2) (T := TX2) (N := 9) (n := 9) hts inX2 (hts (.instantiable RX2 9) (List.mem_of_getElem? (i := 77) (by decide +kernel)))
  obtain ⟨k3, i3, K3⟩ := u_known (C := RX3) (T := TX3) (N := 33) (n := 33) hts inX3 (hts (.instantiable RX3 33) (List.mem_of_getElem? (i := 755) (by decide +kernel)))
  obtain ⟨cI, aI, rI⟩ := arr_K (hts (.arrayClass .int) (List.mem_of_getElem? (i := 158) (by decide +kernel))) (fun _ => rfl)
  obtain ⟨cJ, aJ, rJ⟩ := arr_K (hts (.arrayClass .long) (List.mem_of_getElem? (i := 159) (by decide +kernel))) (fun _ => rfl)
  obtain ⟨cC, aC, rC⟩ := arr_K (hts (.arrayClass .char) (List.mem_of_getElem? (i := 174) (by decide +kernel))) (fun _ => rfl)
  obtain ⟨tF, eF, hTF⟩ := va_Tof (tm := .static "JuryHearsAnswers" "FACT_CASES" "[J") (ty := .long) (N := 6) (f := fun j => .long (fcT j)) (A := (fun q : Nat => s.heap.size ≤ q)) (by decide) (hs _ (by decide +kernel)) (va_eqt (hs _ (by decide +kernel))) (fun j hj => va_eqtl (hs _ (fl_fc j hj))) hAn
  have hZF := va_Zof (A := (fun q : Nat => s.heap.size ≤ q)) (hts (.laysStatic "JuryHearsAnswers" "FACT_CASES" "[J") (List.mem_of_getElem? (i := 386) (by decide +kernel))) (hts (.initialized RX2) (List.mem_of_getElem? (i := 64) (by decide +kernel))) eF hAn
  obtain ⟨adK, adV, hSS, hev⟩ := vk_Sof (N := 7) (tm := tmS) (len := lenS) (byt := bytS) (A := (fun q : Nat => s.heap.size ≤ q)) (fun i hi => Nat.lt_of_le_of_lt (len_7 i hi) (by decide)) (fun i hi => hs _ (fl_ex i hi)) (fun i hi => hs _ (fl_co i hi)) (fun i hi => hs _ (fl_ar i hi)) (fun i hi => hs _ (fl_le i hi)) (fun i hi j hj => hs _ (fl_el i hi j hj)) (fun i j hi hj hn => (fl_ne i hi j hj hn).elim (fun q => Or.inl (hs _ q)) (fun q => Or.inr (hs _ q))) hAn
  have hZC := va_Zof (v := .int 1) (A := (fun q : Nat => s.heap.size ≤ q)) (hts (.laysStatic "java/lang/String" "COMPACT_STRINGS" "Z") (List.mem_of_getElem? (i := 237) (by decide +kernel))) (hts (.initialized "java/lang/String") (List.mem_of_getElem? (i := 68) (by decide +kernel))) (va_eqi (hs _ (by decide +kernel))) hAn
  have hZQ := va_Zqof (A := (fun q : Nat => s.heap.size ≤ q)) (hts (.laysStatic "jdk/internal/util/Preconditions" "SIOOBE_FORMATTER" "Ljava/util/function/BiFunction;") (List.mem_of_getElem? (i := 265) (by decide +kernel))) (hts (.initialized "jdk/internal/util/Preconditions") (List.mem_of_getElem? (i := 70) (by decide +kernel))) (hs _ (by decide +kernel)) hAn
  refine ⟨((fun k => match k with | 0 => k0 | 1 => k1 | 2 => k2 | _ => k3, fun k => match k with | 0 => i0 | 1 => i1 | 2 => i2 | _ => i3), cI, cJ, cC, adK, adV, tF), ⟨fun k q hq => ?_, fun k q hq => ?_⟩, ?_⟩
  · match k, hq with
    | 0, hq => cases hq; exact K0
    | 1, hq => cases hq; exact K1
    | 2, hq => cases hq; exact K2
    | 3, hq => cases hq; exact K3
    | k + 4, hq => simp [vwCl] at hq
  · match k, hq with
    | 0, hq => cases hq; exact ⟨aI, rI⟩
    | 1, hq => cases hq; exact ⟨aJ, rJ⟩
    | 2, hq => cases hq; exact ⟨aC, rC⟩
    | k + 3, hq => simp [tys] at hq
  · refine ⟨⟨va_Nw.of rfl (hts (.methodLinkNest RX0 71 yX2_isFact RX2) (List.mem_of_getElem? (i := 374) (by decide +kernel))), va_Nw.of rfl (hts (.methodLinkNest RX0 75 yX2_factCases RX2) (List.mem_of_getElem? (i := 381) (by decide +kernel))), va_Nw.of rfl (hts (.methodLinkNest RX0 101 yX2_isIn RX2) (List.mem_of_getElem? (i := 443) (by decide +kernel))), va_Nw.of rfl (hts (.methodLinkNest RX2 9 yX0_init RX2) (List.mem_of_getElem? (i := 86) (by decide +kernel))), va_Nw.of rfl (hts (.methodLinkNest RX2 24 yX1_init RX2) (List.mem_of_getElem? (i := 162) (by decide +kernel)))⟩, ⟨hZF, hTF⟩, ⟨hSS, vk_R.of (hts (.stringRef RX1 19 "9;") (List.mem_of_getElem? (i := 241) (by decide +kernel))) (hev 0 (by decide)), vk_R.of (hts (.stringRef RX1 21 "999;") (List.mem_of_getElem? (i := 242) (by decide +kernel))) (hev 1 (by decide)), vk_R.of (hts (.stringRef RX1 23 "w999;") (List.mem_of_getElem? (i := 243) (by decide +kernel))) (hev 2 (by decide)), vk_R.of (hts (.stringRef RX1 25 "99;") (List.mem_of_getElem? (i := 244) (by decide +kernel))) (hev 3 (by decide)), vk_R.of (hts (.stringRef RX1 27 ";") (List.mem_of_getElem? (i := 245) (by decide +kernel))) (hev 4 (by decide)), vk_R.of (hts (.stringRef RX1 29 "") (List.mem_of_getElem? (i := 227) (by decide +kernel))) (hev 5 (by decide)), vk_R.of (hts (.stringRef RX1 31 "wlbfrc") (List.mem_of_getElem? (i := 291) (by decide +kernel))) (hev 6 (by decide))⟩, hZC, hZQ⟩
set_option maxHeartbeats 20000000 in
set_option maxRecDepth 100000 in
/-- THE LAW, from its entry -/
theorem whole_start {p : Program} {e : Env} {s : State} {m : MethodId} {below : List Frame} {meth : Method} {c : Code} (l : Launch) (hflags : l.flags = flags0) {b L : Nat} {xs : Nat → Int32} (hL : L ≤ 2560) (C0 : lw_At p s m meth c b L xs) : W p l e room_1 s m #[Value.ref b] below meth c s.heap [] 0 0 (lw_Z below #[Value.ref b] s) (entryFrame m ([Value.ref b] : List Value).toArray 4) := by
  obtain ⟨hx, hb, hr, hml, hown, hts, hX, hbl, hlocks, hgv⟩ := id C0
  obtain ⟨g, hK, hE⟩ := EN_start C0
  have htw : ∀ w ∈ wsL_law, w.before #[Value.ref b] s = true := fun w h => hts w (wsL_law_in w h)
  have C1 : LawAt p s m #[Value.ref b] meth c g b L xs := ⟨hx, hb, hml, hown, htw, hK, hE, hX, hbl⟩
  have hn1 := hE.1.2.2.2.1
  have hn2 := hE.1.2.2.2.2
  have hA : ∀ q : Nat, s.heap.size ≤ q → (fun q : Nat => s.heap.size ≤ q) q := fun _ h => h
  have hS : va_S (fun q : Nat => s.heap.size ≤ q) s.heap s.heap [] := va_S.rf
  have hP : va_P (gD g) vwCl [] s.heap := fun k q h => by simp at h
  have hD : va_D (fun q : Nat => s.heap.size ≤ q) [] := ⟨fun i j p q h => by simp at h, fun k q h => by simp at h⟩
  have hl := lv_entry ([.ref b]) (n := 4) (Nat.le_of_ble_eq_true rfl)
  rw [lg_entry_eq]
  generalize (lg_sl ([.ref b]) ++ List.replicate (4 - (lg_sl ([.ref b])).length) Slot.unset).toArray = ls at hl ⊢
  have hl : lv_has ls 4 [(0, .ref b)] := hl
  refine va_new (ci := 2) (fs := [.null, .null, .null, .null, .null, .null, .null, .int 0, .int 0]) (C := RX2) (T := TX2) (N := 9) hx hb hts inX2 tyX2 tyX2_ok hown (hts (.classLink RL 7 RX2) (List.mem_of_getElem? (i := 76) (by decide +kernel))) (hts (.instantiable RX2 9) (List.mem_of_getElem? (i := 77) (by decide +kernel))) (hts (.initialized RX2) (List.mem_of_getElem? (i := 64) (by decide +kernel))) hK hP hD hS hA rfl (fun j hj => by rcases (show j = 0 ∨ j = 1 ∨ j = 2 ∨ j = 3 ∨ j = 4 ∨ j = 5 ∨ j = 6 ∨ j = 7 ∨ j = 8 by omega) with rfl | rfl | rfl | rfl | rfl | rfl | rfl | rfl | rfl <;> rfl) (Nat.le_of_ble_eq_true rfl) (Nat.le_of_ble_eq_true rfl) dL_law_0 (fun q0 H hP hD hS => ?_)
  have hP : va_P (gD g) vwCl ([(q0, .inr (2, [.null, .null, .null, .null, .null, .null, .null, .int 0, .int 0]))]) H := hP
  have hD : va_D (fun q : Nat => s.heap.size ≤ q) ([(q0, .inr (2, [.null, .null, .null, .null, .null, .null, .null, .int 0, .int 0]))]) := hD
  refine W.widen (k := 1) (n := 9) (by omega) (by omega) ?_
  refine lv_dup hx hb dL_law_3 rfl ?_
  have hPc := hP.sub (ws' := [(q0, .inr (2, [.null, .null, .null, .null, .null, .null, .null, .int 0, .int 0]))]) [0] rfl
  have hDc := hD.sub (ws' := [(q0, .inr (2, [.null, .null, .null, .null, .null, .null, .null, .int 0, .int 0]))]) [0] (by decide) rfl
  have hFc := va_free (wc := [(q0, .inr (2, [.null, .null, .null, .null, .null, .null, .null, .int 0, .int 0]))]) hD hS hA [0] rfl
  refine va_callv (va_runI (As := []) (rest := [.ref q0]) ⟨hx, hb, hml, hown, htw⟩ (c_X2_init l g q0 H.size) (cwI 0 htw gL_law_X2_init rfl rfl rfl (hts (.initialized RX2) (List.mem_of_getElem? (i := 64) (by decide +kernel))) (hts (.methodLink RL 9 yX2_init) (List.mem_of_getElem? (i := 78) (by decide +kernel))) (hts (.instanceMethod yX2_init) (List.mem_of_getElem? (i := 79) (by decide +kernel))) rfl (by decide +kernel) ⟨Nat.le_of_ble_eq_true rfl, Nat.le_of_ble_eq_true rfl⟩) ⟨RN_blind, fun U hU hW => ⟨rfl, by rw [hU], by rw [hU]; exact hPc, va_K.moved hW.alike hK, hDc.weaken (fun _ _ _ _ => trivial), hn1.warmM hW, hn2.warmM hW⟩⟩ rfl rfl hl.1 rfl (lv_room (Nat.le_of_ble_eq_true rfl)) dL_law_4 ⟨Nat.le_of_ble_eq_true rfl, Nat.le_of_ble_eq_true rfl⟩) hS (fun q _ h => hFc q h) hFc (fun ax t H1 locs ht hvm hw hB hz1 hk1 hS => ?_)
  obtain ⟨hP1, hD1⟩ := hB
  rw [ht] at hP1
  obtain ⟨hPn, hDn⟩ := va_join (wr := []) (w1 := wX g ax kX0) hP hD [0] [] rfl rfl (by decide) (by decide) hk1 hFc hP1 hD1
  clear hP hD
  generalize H1 = H at hPn hS ⊢
  clear hPc hDc hFc hk1 hP1 hD1 hz1
  subst hw
  have hP := hPn
  have hD := hDn
  clear hPn hDn
  refine W.widen (k := 45) (n := 518) (by omega) (by omega) ?_
  have hP : va_P (gD g) vwCl (wX g ax kX0) H := hP
  have hD : va_D (fun q : Nat => s.heap.size ≤ q) (wX g ax kX0) := hD
  refine lv_astore_n (lv' := [(1, .ref (ax 0)), (0, .ref b)]) hx hb dL_law_7 rfl hl (by decide) rfl (fun ls hl => ?_)
  refine va_new (ci := 3) (fs := [.null, .null, .null, .null, .null, .null, .null, .null, .null, .null, .null, .int 0, .int 0, .int 0, .int 0, .int 0, .null, .null, .null, .null, .int 0, .int 0, .int 0, .null, .int 0, .int 0, .int 0, .null, .null, .null, .null, .int 0, .int 0]) (C := RX3) (T := TX3) (N := 33) hx hb hts inX3 tyX3 tyX3_ok hown (hts (.classLink RL 10 RX3) (List.mem_of_getElem? (i := 754) (by decide +kernel))) (hts (.instantiable RX3 33) (List.mem_of_getElem? (i := 755) (by decide +kernel))) (hts (.initialized RX3) (List.mem_of_getElem? (i := 67) (by decide +kernel))) hK hP hD hS hA rfl (fun j hj => by rcases (show j = 0 ∨ j = 1 ∨ j = 2 ∨ j = 3 ∨ j = 4 ∨ j = 5 ∨ j = 6 ∨ j = 7 ∨ j = 8 ∨ j = 9 ∨ j = 10 ∨ j = 11 ∨ j = 12 ∨ j = 13 ∨ j = 14 ∨ j = 15 ∨ j = 16 ∨ j = 17 ∨ j = 18 ∨ j = 19 ∨ j = 20 ∨ j = 21 ∨ j = 22 ∨ j = 23 ∨ j = 24 ∨ j = 25 ∨ j = 26 ∨ j = 27 ∨ j = 28 ∨ j = 29 ∨ j = 30 ∨ j = 31 ∨ j = 32 by omega) with rfl | rfl | rfl | rfl | rfl | rfl | rfl | rfl | rfl | rfl | rfl | rfl | rfl | rfl | rfl | rfl | rfl | rfl | rfl | rfl | rfl | rfl | rfl | rfl | rfl | rfl | rfl | rfl | rfl | rfl | rfl | rfl | rfl <;> rfl) (Nat.le_of_ble_eq_true rfl) (Nat.le_of_ble_eq_true rfl) dL_law_8 (fun q8 H hP hD hS => ?_)
  have hP : va_P (gD g) vwCl (wX g ax kX0 ++ [(q8, .inr (3, [.null, .null, .null, .null, .null, .null, .null, .null, .null, .null, .null, .int 0, .int 0, .int 0, .int 0, .int 0, .null, .null, .null, .null, .int 0, .int 0, .int 0, .null, .int 0, .int 0, .int 0, .null, .null, .null, .null, .int 0, .int 0]))]) H := hP
  have hD : va_D (fun q : Nat => s.heap.size ≤ q) (wX g ax kX0 ++ [(q8, .inr (3, [.null, .null, .null, .null, .null, .null, .null, .null, .null, .null, .null, .int 0, .int 0, .int 0, .int 0, .int 0, .null, .null, .null, .null, .int 0, .int 0, .int 0, .null, .int 0, .int 0, .int 0, .null, .null, .null, .null, .int 0, .int 0]))]) := hD
  refine W.widen (k := 46) (n := 551) (by omega) (by omega) ?_
  refine lv_dup hx hb dL_law_11 rfl ?_
  have hPc := hP.sub (ws' := [(q8, .inr (3, [.null, .null, .null, .null, .null, .null, .null, .null, .null, .null, .null, .int 0, .int 0, .int 0, .int 0, .int 0, .null, .null, .null, .null, .int 0, .int 0, .int 0, .null, .int 0, .int 0, .int 0, .null, .null, .null, .null, .int 0, .int 0]))]) [45] rfl
  have hDc := hD.sub (ws' := [(q8, .inr (3, [.null, .null, .null, .null, .null, .null, .null, .null, .null, .null, .null, .int 0, .int 0, .int 0, .int 0, .int 0, .null, .null, .null, .null, .int 0, .int 0, .int 0, .null, .int 0, .int 0, .int 0, .null, .null, .null, .null, .int 0, .int 0]))]) [45] (by decide) rfl
  have hFc := va_free (wc := [(q8, .inr (3, [.null, .null, .null, .null, .null, .null, .null, .null, .null, .null, .null, .int 0, .int 0, .int 0, .int 0, .int 0, .null, .null, .null, .null, .int 0, .int 0, .int 0, .null, .int 0, .int 0, .int 0, .null, .null, .null, .null, .int 0, .int 0]))]) hD hS hA [45] rfl
  refine va_callv (va_runI (As := []) (rest := [.ref q8]) ⟨hx, hb, hml, hown, htw⟩ (c_X3_init l g q8 H.size) (cwI 0 htw gL_law_X3_init rfl rfl rfl (hts (.initialized RX3) (List.mem_of_getElem? (i := 67) (by decide +kernel))) (hts (.methodLink RL 12 yX3_init) (List.mem_of_getElem? (i := 756) (by decide +kernel))) (hts (.instanceMethod yX3_init) (List.mem_of_getElem? (i := 757) (by decide +kernel))) rfl (by decide +kernel) ⟨Nat.le_of_ble_eq_true rfl, Nat.le_of_ble_eq_true rfl⟩) ⟨RN_blind, fun U hU hW => ⟨rfl, by rw [hU], by rw [hU]; exact hPc, va_K.moved hW.alike hK, hDc.weaken (fun _ _ _ _ => trivial), hn1.warmM hW, hn2.warmM hW⟩⟩ rfl rfl hl.1 rfl (lv_room (Nat.le_of_ble_eq_true rfl)) dL_law_12 ⟨Nat.le_of_ble_eq_true rfl, Nat.le_of_ble_eq_true rfl⟩) hS (fun q _ h => hFc q h) hFc (fun am t H1 locs ht hvm hw hB hz1 hk1 hS => ?_)
  obtain ⟨hP1, hD1⟩ := hB
  rw [ht] at hP1
  obtain ⟨hPn, hDn⟩ := va_join (wr := wX g ax kX0) (w1 := wM g am kM0) hP hD [45] [0, 1, 2, 3, 4, 5, 6, 7, 8, 9, 10, 11, 12, 13, 14, 15, 16, 17, 18, 19, 20, 21, 22, 23, 24, 25, 26, 27, 28, 29, 30, 31, 32, 33, 34, 35, 36, 37, 38, 39, 40, 41, 42, 43, 44] rfl rfl (by decide) (by decide) hk1 hFc hP1 hD1
  clear hP hD
  generalize H1 = H at hPn hS ⊢
  clear hPc hDc hFc hk1 hP1 hD1 hz1
  subst hw
  have hP := hPn
  have hD := hDn
  clear hPn hDn
  refine W.widen (k := 66) (n := 1401) (by omega) (by omega) ?_
  have hP : va_P (gD g) vwCl (wL2 g ax am kX0 kM0) H := hP
  have hD : va_D (fun q : Nat => s.heap.size ≤ q) (wL2 g ax am kX0 kM0) := hD
  refine lv_astore_n (lv' := [(2, .ref (am 0)), (1, .ref (ax 0)), (0, .ref b)]) hx hb dL_law_15 rfl hl (by decide) rfl (fun ls hl => ?_)
  refine lv_iconst (v := 0) hx hb dL_law_16 (by decide) ?_
  refine lv_istore_n (lv' := [(3, .int 0), (2, .ref (am 0)), (1, .ref (ax 0)), (0, .ref b)]) hx hb dL_law_17 rfl hl (by decide) rfl (fun ls hl => ?_)
  refine W.widen (k := 600000) (n := 7302249) (Nat.le_of_ble_eq_true rfl) (Nat.le_of_ble_eq_true rfl) ?_
  exact law_loop l hL C0 C1 (L + 1) 0 kX0 kM0 (by omega) (by omega) rel_0 H _ ls hP hD hS hl
