/-! MY STATES: what the class and the reference hold, as tuples; the worlds; contracts that change nothing, contracts that change their world -/
abbrev vwCl : List vw_C := [(RX0, TX0, 17), (RX1, TX1, 2), (RX2, TX2, 9), (RX3, TX3, 33)]
abbrev FI : Type := Nat → Int32
abbrev FL : Type := Nat → Int64
/-- what the image keeps: case, asked, questions, witnesses, heard; form, first, second, kind, figure, knows, whom, what, said, when -/
abbrev SS : Type := Int32 × Int32 × Int32 × Int32 × Int32 × FI × FI × FI × FI × FI × FI × FI × FI × FI × FI
abbrev sCase (x : SS) : Int32 := x.1
abbrev sAsked (x : SS) : Int32 := x.2.1
abbrev sNq (x : SS) : Int32 := x.2.2.1
abbrev sNw (x : SS) : Int32 := x.2.2.2.1
abbrev sNh (x : SS) : Int32 := x.2.2.2.2.1
abbrev sForm (x : SS) : FI := x.2.2.2.2.2.1
abbrev sFirst (x : SS) : FI := x.2.2.2.2.2.2.1
abbrev sSecond (x : SS) : FI := x.2.2.2.2.2.2.2.1
abbrev sKind (x : SS) : FI := x.2.2.2.2.2.2.2.2.1
abbrev sFigure (x : SS) : FI := x.2.2.2.2.2.2.2.2.2.1
abbrev sKnows (x : SS) : FI := x.2.2.2.2.2.2.2.2.2.2.1
abbrev sWhom (x : SS) : FI := x.2.2.2.2.2.2.2.2.2.2.2.1
abbrev sWhat (x : SS) : FI := x.2.2.2.2.2.2.2.2.2.2.2.2.1
abbrev sSaid (x : SS) : FI := x.2.2.2.2.2.2.2.2.2.2.2.2.2.1
abbrev sWhen (x : SS) : FI := x.2.2.2.2.2.2.2.2.2.2.2.2.2.2
/-- a Court of the class: the shared part, needed, truth -/
abbrev KC : Type := SS × FI × FL
abbrev cS (x : KC) : SS := x.1
abbrev cNeeded (x : KC) : FI := x.2.1
abbrev cTruth (x : KC) : FL := x.2.2
/-- the class: now, taken, trial, (letters, text), row, refusals, kept, rowLength, isTaken -/
abbrev KZ : Type := Int32 × FI
abbrev zLen (x : KZ) : Int32 := x.1
abbrev zText (x : KZ) : FI := x.2
abbrev KX : Type := KC × KC × KC × KZ × FI × FI × FL × Int32 × Int32
abbrev xNow (x : KX) : KC := x.1
abbrev xTaken (x : KX) : KC := x.2.1
abbrev xTrial (x : KX) : KC := x.2.2.1
abbrev xScr (x : KX) : KZ := x.2.2.2.1
abbrev xRow (x : KX) : FI := x.2.2.2.2.1
abbrev xRefus (x : KX) : FI := x.2.2.2.2.2.1
abbrev xKept (x : KX) : FL := x.2.2.2.2.2.2.1
abbrev xRowLen (x : KX) : Int32 := x.2.2.2.2.2.2.2.1
abbrev xIsTaken (x : KX) : Int32 := x.2.2.2.2.2.2.2.2
/-- the reference: the shared part; (tape, letter, letterAt, told, taped, at, statements); (kept, hasImage, isKeeping, cursor); (fit, left, leftBy); (row, rowMany); lots; refused -/
abbrev KT : Type := FI × FI × FI × FI × Int32 × Int32 × Int32
abbrev tTape (x : KT) : FI := x.1
abbrev tLetter (x : KT) : FI := x.2.1
abbrev tLetterAt (x : KT) : FI := x.2.2.1
abbrev tTold (x : KT) : FI := x.2.2.2.1
abbrev tTaped (x : KT) : Int32 := x.2.2.2.2.1
abbrev tAt (x : KT) : Int32 := x.2.2.2.2.2.1
abbrev tStm (x : KT) : Int32 := x.2.2.2.2.2.2
abbrev KK : Type := FI × Int32 × Int32 × Int32
abbrev kKept (x : KK) : FI := x.1
abbrev kHas (x : KK) : Int32 := x.2.1
abbrev kKeep (x : KK) : Int32 := x.2.2.1
abbrev kCur (x : KK) : Int32 := x.2.2.2
abbrev KF : Type := FI × FI × FI
abbrev fFit (x : KF) : FI := x.1
abbrev fLeft (x : KF) : FI := x.2.1
abbrev fLeftBy (x : KF) : FI := x.2.2
abbrev KM : Type := SS × KT × KK × KF × FI × Int32 × Int32 × FI
abbrev mS (x : KM) : SS := x.1
abbrev mT (x : KM) : KT := x.2.1
abbrev mK (x : KM) : KK := x.2.2.1
abbrev mF (x : KM) : KF := x.2.2.2.1
abbrev mRow (x : KM) : FI := x.2.2.2.2.1
abbrev mRowMany (x : KM) : Int32 := x.2.2.2.2.2.1
abbrev mLots (x : KM) : Int32 := x.2.2.2.2.2.2.1
abbrev mRefused (x : KM) : FI := x.2.2.2.2.2.2.2
/-- what is the same all through a run: where things lie; int[], long[], char[]; the literals' places, their bytes', FACT_CASES' -/
abbrev CX : Type := va_G × ClassId × ClassId × ClassId × (Nat → Nat) × (Nat → Nat) × Nat
abbrev gD (g : CX) : va_G := g.1
abbrev gI (g : CX) : ClassId := g.2.1
abbrev gJ (g : CX) : ClassId := g.2.2.1
abbrev gC (g : CX) : ClassId := g.2.2.2.1
abbrev gK (g : CX) : Nat → Nat := g.2.2.2.2.1
abbrev gV (g : CX) : Nat → Nat := g.2.2.2.2.2.1
abbrev gT (g : CX) : Nat := g.2.2.2.2.2.2
abbrev tys (g : CX) : List (ClassId × FieldType) := [(gI g, .int), (gJ g, .long), (gC g, .char)]
/-- a Court's thirteen cells, from place o of the addresses on -/
abbrev wC (g : CX) (ad : Nat → Nat) (o : Nat) (x : KC) : va_W := [(ad o, .inr (0, [.int (sCase (cS x)), .int (sAsked (cS x)), .int (sNq (cS x)), .int (sNw (cS x)), .int (sNh (cS x)), .ref (ad (o + 1)), .ref (ad (o + 2)), .ref (ad (o + 3)), .ref (ad (o + 4)), .ref (ad (o + 5)), .ref (ad (o + 6)), .ref (ad (o + 7)), .ref (ad (o + 8)), .ref (ad (o + 9)), .ref (ad (o + 10)), .ref (ad (o + 11)), .ref (ad (o + 12))])),
  (ad (o + 1), .inl (gI g, 8, .inl (sForm (cS x)))), (ad (o + 2), .inl (gI g, 8, .inl (sFirst (cS x)))), (ad (o + 3), .inl (gI g, 8, .inl (sSecond (cS x)))), (ad (o + 4), .inl (gI g, 8, .inl (cNeeded x))), (ad (o + 5), .inl (gJ g, 8, .inr (.inl (cTruth x)))),
  (ad (o + 6), .inl (gI g, 5, .inl (sKind (cS x)))), (ad (o + 7), .inl (gI g, 5, .inl (sFigure (cS x)))), (ad (o + 8), .inl (gI g, 5, .inl (sKnows (cS x)))),
  (ad (o + 9), .inl (gI g, 12, .inl (sWhom (cS x)))), (ad (o + 10), .inl (gI g, 12, .inl (sWhat (cS x)))), (ad (o + 11), .inl (gI g, 12, .inl (sSaid (cS x)))), (ad (o + 12), .inl (gI g, 12, .inl (sWhen (cS x))))]
/-- the Script's two cells -/
abbrev wZ (g : CX) (ad : Nat → Nat) (o : Nat) (x : KZ) : va_W := [(ad o, .inr (1, [.int (zLen x), .ref (ad (o + 1))])), (ad (o + 1), .inl (gC g, 96, .inl (zText x)))]
/-- the class's 45 cells -/
abbrev wX (g : CX) (ad : Nat → Nat) (x : KX) : va_W := [(ad 0, .inr (2, [.ref (ad 4), .ref (ad 17), .ref (ad 30), .ref (ad 43), .ref (ad 1), .ref (ad 2), .ref (ad 3), .int (xRowLen x), .int (xIsTaken x)])),
  (ad 1, .inl (gI g, 12, .inl (xRow x))), (ad 2, .inl (gI g, 7, .inl (xRefus x))), (ad 3, .inl (gJ g, 32, .inr (.inl (xKept x))))] ++ (wC g ad 4 (xNow x) ++ (wC g ad 17 (xTaken x) ++ (wC g ad 30 (xTrial x) ++ wZ g ad 43 (xScr x))))
/-- its three Courts; one Court and the letters -/
abbrev K3 : Type := KC × KC × KC
abbrev nNow (x : K3) : KC := x.1
abbrev nTaken (x : K3) : KC := x.2.1
abbrev nTrial (x : K3) : KC := x.2.2
abbrev wT (g : CX) (ad : Nat → Nat) (x : K3) : va_W := wC g ad 4 (nNow x) ++ (wC g ad 17 (nTaken x) ++ wC g ad 30 (nTrial x))
abbrev KP : Type := KC × KZ
abbrev qCourt (x : KP) : KC := x.1
abbrev qScr (x : KP) : KZ := x.2
abbrev wP (g : CX) (ad : Nat → Nat) (x : KP) : va_W := wC g ad 30 (qCourt x) ++ wZ g ad 43 (qScr x)
abbrev wL (g : CX) (ad : Nat → Nat) (o : Nat) (x : FL) : va_W := [(ad o, .inl (gJ g, 32, .inr (.inl x)))]
/-- the reference's object, what its fields hold -/
abbrev oM (ad : Nat → Nat) (x : KM) : List Value := [.ref (ad 1), .ref (ad 2), .ref (ad 3), .ref (ad 4), .ref (ad 5), .ref (ad 6), .ref (ad 7), .ref (ad 8), .ref (ad 9), .ref (ad 10), .ref (ad 11), .int (sCase (mS x)), .int (sNq (mS x)), .int (sNw (mS x)), .int (sNh (mS x)), .int (sAsked (mS x)), .ref (ad 12), .ref (ad 13), .ref (ad 14), .ref (ad 15), .int (tTaped (mT x)), .int (tAt (mT x)), .int (tStm (mT x)), .ref (ad 16), .int (kHas (mK x)), .int (kKeep (mK x)), .int (kCur (mK x)), .ref (ad 17), .ref (ad 18), .ref (ad 19), .ref (ad 20), .int (mRowMany x), .int (mLots x)]
/-- the reference's 21 cells -/
abbrev wM (g : CX) (ad : Nat → Nat) (x : KM) : va_W := [(ad 0, .inr (3, oM ad x)),
  (ad 1, .inl (gI g, 7, .inl (mRefused x))), (ad 2, .inl (gI g, 8, .inl (sForm (mS x)))), (ad 3, .inl (gI g, 8, .inl (sFirst (mS x)))), (ad 4, .inl (gI g, 8, .inl (sSecond (mS x)))), (ad 5, .inl (gI g, 5, .inl (sKind (mS x)))), (ad 6, .inl (gI g, 5, .inl (sFigure (mS x)))), (ad 7, .inl (gI g, 5, .inl (sKnows (mS x)))),
  (ad 8, .inl (gI g, 12, .inl (sWhom (mS x)))), (ad 9, .inl (gI g, 12, .inl (sWhat (mS x)))), (ad 10, .inl (gI g, 12, .inl (sSaid (mS x)))), (ad 11, .inl (gI g, 12, .inl (sWhen (mS x)))),
  (ad 12, .inl (gI g, 96, .inl (tTape (mT x)))), (ad 13, .inl (gI g, 48, .inl (tLetter (mT x)))), (ad 14, .inl (gI g, 48, .inl (tLetterAt (mT x)))), (ad 15, .inl (gI g, 144, .inl (tTold (mT x)))), (ad 16, .inl (gI g, 276, .inl (kKept (mK x)))),
  (ad 17, .inl (gI g, 64, .inl (fFit (mF x)))), (ad 18, .inl (gI g, 64, .inl (fLeft (mF x)))), (ad 19, .inl (gI g, 4, .inl (fLeftBy (mF x)))), (ad 20, .inl (gI g, 12, .inl (mRow x)))]
/-- what is given all along of the machine: links among nest mates, FACT_CASES, the literals -/
def lenS : List Nat := [2, 4, 5, 3, 1, 0, 6]
def bytS : List (List Int32) := [[57, 59], [57, 57, 57, 59], [119, 57, 57, 57, 59], [57, 57, 59], [59], [], [119, 108, 98, 102, 114, 99]]
def fcT : Nat → Int64 := fun k => [(-6148914691236517206 : Int64), -3689348814741910324, -1085102592571150096, -71777214294589696, -281470681808896, -4294967296].getD k 0
def EN (g : CX) (A : Nat → Prop) (U : State) : Prop :=
  (va_Nw (.methodLinkNest RX0 71 yX2_isFact RX2) U ∧ va_Nw (.methodLinkNest RX0 75 yX2_factCases RX2) U ∧ va_Nw (.methodLinkNest RX0 101 yX2_isIn RX2) U ∧ va_Nw (.methodLinkNest RX2 9 yX0_init RX2) U ∧ va_Nw (.methodLinkNest RX2 24 yX1_init RX2) U) ∧
  (va_Z RX2 "FACT_CASES" "[J" (.ref (gT g)) A U U.heap ∧ va_T .long (gT g) 6 (fun j => .long (fcT j)) A U U.heap) ∧
  (vk_S 7 lenS bytS (gK g) (gV g) A U U.heap ∧ vk_R RX1 19 "9;" (gK g 0) U ∧ vk_R RX1 21 "999;" (gK g 1) U ∧ vk_R RX1 23 "w999;" (gK g 2) U ∧ vk_R RX1 25 "99;" (gK g 3) U ∧ vk_R RX1 27 ";" (gK g 4) U ∧ vk_R RX1 29 "" (gK g 5) U ∧ vk_R RX1 31 "wlbfrc" (gK g 6) U) ∧
  (va_Z "java/lang/String" "COMPACT_STRINGS" "Z" (.int 1) A U U.heap ∧ va_Zq "jdk/internal/util/Preconditions" "SIOOBE_FORMATTER" "Ljava/util/function/BiFunction;" A U U.heap)
theorem EN.call {g : CX} {A A1 : Nat → Prop} {s U : State} {H : Heap} {locs : List Loc} (h : EN g A s) (hW : s.WarmedH U.vm) (hU : U.heap = H) (hS : va_S A s.heap H locs) (hA : ∀ q, A1 q → A q) : EN g A1 U := by
  subst hU
  have hq : ∀ a : Nat, a < s.heap.size → ¬ A a → U.heap[a]? = s.heap[a]? := hS.2.1
  have hv := hW.alike
  obtain ⟨⟨n1, n2, n3, n4, n5⟩, ⟨z1, z2⟩, ⟨k1, r1, r2, r3, r4, r5, r6, r7⟩, z3, z4⟩ := h
  exact ⟨⟨n1.warmM hW, n2.warmM hW, n3.warmM hW, n4.warmM hW, n5.warmM hW⟩, ⟨((z1.moved hv).kept hq).narrow hA, ((z2.moved hv).kept hq).narrow hA⟩, ⟨((k1.moved hv).kept hq).narrow hA, r1.warm hW, r2.warm hW, r3.warm hW, r4.warm hW, r5.warm hW, r6.warm hW, r7.warm hW⟩, ((z3.moved hv).kept hq).narrow hA, ((z4.moved hv).kept hq).narrow hA⟩
theorem EN.same {g : CX} {A : Nat → Prop} {U : State} (f : JFrame) (mk : MethodId) (a : Array Value) (h : EN g A U) : EN g A (U.calling f mk a) := by
  have hv : U.vm.Alike (U.calling f mk a).vm := Vm.Alike.refl U.vm
  obtain ⟨⟨n1, n2, n3, n4, n5⟩, ⟨z1, z2⟩, ⟨k1, r1, r2, r3, r4, r5, r6, r7⟩, z3, z4⟩ := h
  exact ⟨⟨n1.same rfl rfl, n2.same rfl rfl, n3.same rfl rfl, n4.same rfl rfl, n5.same rfl rfl⟩, ⟨z1.moved hv, z2.moved hv⟩, ⟨k1.moved hv, r1.same rfl, r2.same rfl, r3.same rfl, r4.same rfl, r5.same rfl, r6.same rfl, r7.same rfl⟩, z3.moved hv, z4.moved hv⟩
/-- nothing -/
abbrev A0 : Nat → Prop := fun _ => False
/-- a contract's start that reads its world -/
def RO (g : CX) (ws : va_W) (U : State) : Prop := va_P (gD g) vwCl ws U.heap ∧ va_K (gD g) vwCl (tys g) U ∧ EN g A0 U
theorem RO_blind {g : CX} {av : List Value} {ws : va_W} : FrameBlind (va_Pc av (RO g ws)) := fun a U f mk q => ⟨q.1, q.2.1, va_K.moved (u := U) (U := U.calling f mk a) (Vm.Alike.refl U.vm) q.2.2.1, q.2.2.2.same f mk a⟩
/-- the addresses of n cells from place o on -/
def AD (ad : Nat → Nat) (o n : Nat) : Nat → Prop := fun q => ∃ k, k < n ∧ q = ad (o + k)
/-- a contract's start that may write its world -/
def RW (g : CX) (A : Nat → Prop) (ws : va_W) (U : State) : Prop := va_P (gD g) vwCl ws U.heap ∧ va_K (gD g) vwCl (tys g) U ∧ EN g A U ∧ va_D A ws
theorem RW_blind {g : CX} {A : Nat → Prop} {av : List Value} {ws : va_W} : FrameBlind (va_Pc av (RW g A ws)) := fun a U f mk q => ⟨q.1, q.2.1, va_K.moved (u := U) (U := U.calling f mk a) (Vm.Alike.refl U.vm) q.2.2.1, q.2.2.2.1.same f mk a, q.2.2.2.2⟩
theorem va_D.addr {A : Nat → Prop} {ws ws' : va_W} (h : ws.map Prod.fst = ws'.map Prod.fst) (hD : va_D A ws) : va_D A ws' := by
  have key : ∀ (k : Nat) (q : Nat × va_E), ws'[k]? = some q → ∃ q0, ws[k]? = some q0 ∧ q0.1 = q.1 := by
    intro k q hk
    have h1 : (ws'.map Prod.fst)[k]? = some q.1 := by rw [List.getElem?_map, hk]; rfl
    rw [← h, List.getElem?_map] at h1
    cases hq : ws[k]? with
    | none => rw [hq] at h1; cases h1
    | some q0 => rw [hq] at h1; exact ⟨q0, rfl, Option.some.inj h1⟩
  refine ⟨fun i j p q hi hj hpq => ?_, fun k q hk => ?_⟩
  · obtain ⟨p0, h1, h2⟩ := key i p hi
    obtain ⟨q0, h3, h4⟩ := key j q hj
    exact hD.1 i j p0 q0 h1 h3 (h2.trans (hpq.trans h4.symm))
  · obtain ⟨q0, h1, h2⟩ := key k q hk
    rw [← h2]; exact hD.2 k q0 h1
theorem AD_of {ad : Nat → Nat} {o n : Nat} {ws : va_W} (h : ws.map Prod.fst = (List.range n).map (fun k => ad (o + k))) : ∀ (k : Nat) (q : Nat × va_E), ws[k]? = some q → AD ad o n q.1 := by
  intro k q hk
  have h1 : (ws.map Prod.fst)[k]? = some q.1 := by rw [List.getElem?_map, hk]; rfl
  rw [h, List.getElem?_map] at h1
  cases hr : (List.range n)[k]? with
  | none => rw [hr] at h1; cases h1
  | some j =>
    rw [hr] at h1
    have hj : j ∈ List.range n := List.mem_of_getElem? hr
    exact ⟨j, List.mem_range.mp hj, (Option.some.inj h1).symm⟩
theorem AD_at {ad : Nat → Nat} {o n : Nat} {ws : va_W} (h : ws.map Prod.fst = (List.range n).map (fun k => ad (o + k))) : ∀ q, AD ad o n q → ∃ (k : Nat) (e : va_E), ws[k]? = some (q, e) := by
  rintro q ⟨k, hk, rfl⟩
  have h1 : ((List.range n).map (fun k => ad (o + k)))[k]? = some (ad (o + k)) := by rw [List.getElem?_map, List.getElem?_range hk]; rfl
  rw [← h, List.getElem?_map] at h1
  cases hq : ws[k]? with
  | none => rw [hq] at h1; cases h1
  | some q0 => rw [hq] at h1; exact ⟨k, q0.2, by rw [hq]; exact congrArg some (Prod.ext (Option.some.inj h1) rfl)⟩
/-- a part of the world, cut out of its middle, and put back changed -/
theorem mid_P {D : va_G} {cl : List vw_C} {a b c : va_W} {H : Heap} (h : va_P D cl (a ++ (b ++ c)) H) : va_P D cl b H := by
  intro k q hk
  refine h (a.length + k) q ?_
  rw [List.getElem?_append_right (by omega), show a.length + k - a.length = k by omega, List.getElem?_append_left (List.getElem?_eq_some_iff.mp hk).1]
  exact hk
theorem mid_D {A : Nat → Prop} {a b c : va_W} (h : va_D A (a ++ (b ++ c))) : va_D A b := by
  have key : ∀ (k : Nat) (q : Nat × va_E), b[k]? = some q → (a ++ (b ++ c))[a.length + k]? = some q := by
    intro k q hk
    rw [List.getElem?_append_right (by omega), show a.length + k - a.length = k by omega, List.getElem?_append_left (List.getElem?_eq_some_iff.mp hk).1]
    exact hk
  refine ⟨fun i j p q hi hj hpq => ?_, fun k q hk => h.2 _ q (key k q hk)⟩
  have := h.1 _ _ p q (key i p hi) (key j q hj) hpq
  omega
theorem mid_join {D : va_G} {cl : List vw_C} {A B : Nat → Prop} {a b b' c : va_W} {H H1 : Heap} (hP : va_P D cl (a ++ (b ++ c)) H) (hD : va_D A (a ++ (b ++ c))) (hB : ∀ q, B q → ∃ (k : Nat) (e : va_E), b[k]? = some (q, e)) (hk : ∀ q : Nat, q < H.size → ¬ B q → H1[q]? = H[q]?) (hl : b'.length = b.length) (hP1 : va_P D cl b' H1) : va_P D cl (a ++ (b' ++ c)) H1 := by
  have old : ∀ (k : Nat) (q : Nat × va_E), (a ++ (b ++ c))[k]? = some q → (k < a.length ∨ a.length + b.length ≤ k) → va_at D cl q H1 := by
    intro k q hq hn
    refine (hP k q hq).kept (hk q.1 (hP k q hq).lt (fun hb => ?_))
    obtain ⟨j, e, hj⟩ := hB _ hb
    have hjl := (List.getElem?_eq_some_iff.mp hj).1
    have h2 : (a ++ (b ++ c))[a.length + j]? = some (q.1, e) := by
      rw [List.getElem?_append_right (by omega), show a.length + j - a.length = j by omega, List.getElem?_append_left hjl]
      exact hj
    have := hD.1 k (a.length + j) q (q.1, e) hq h2 rfl
    omega
  intro k q hq
  by_cases h1 : k < a.length
  · rw [List.getElem?_append_left h1] at hq
    exact old k q (by rw [List.getElem?_append_left h1]; exact hq) (Or.inl h1)
  · rw [List.getElem?_append_right (by omega)] at hq
    by_cases h2 : k - a.length < b'.length
    · rw [List.getElem?_append_left h2] at hq
      exact hP1 _ q hq
    · rw [List.getElem?_append_right (by omega)] at hq
      refine old k q ?_ (Or.inr (by omega))
      rw [List.getElem?_append_right (by omega), List.getElem?_append_right (by omega), ← hl]
      exact hq
section CALLS
variable {p : Program} {l : Launch} {e : Env} {R : Room} {s : State} {m : MethodId} {args : Array Value} {below : List Frame} {meth : Method} {c : Code} {H : Heap} {locs : List Loc} {cells slots : Nat} {Q : State → Prop}
variable {pc : Nat} {ls : Array Slot} {rest st0 : List Value} {a : Array Value} {AA : Nat → Prop} {H0 : Heap} {D : va_G} {cl : List vw_C} {ws : va_W}
/-- behind a call that changes nothing: the world is as it was -/
theorem ro_int {post : Int32 → Prop} (hr : va_Run p l e R s m args below meth c H locs cells slots 0 0 (F0 m pc ls st0) rest (va_Qi (fun r (_ : Unit) => post r) (fun _ _ => True) A0 a) A0) (hS : va_S AA H0 H locs) (hP : va_P D cl ws H)
    (kk : ∀ (r : Int32) (H : Heap) (locs : List Loc), post r → va_P D cl ws H → va_S AA H0 H locs → W p l e R s m args below meth c H locs cells slots Q (F0 m (pc + 3) ls (.int r :: rest))) : W p l e R s m args below meth c H locs cells slots Q (F0 m pc ls st0) :=
  va_calli hr hS (fun _ _ h => h.elim) (fun _ h => h.elim) (fun r _ t H1 locs1 _ _ hw _ _ hk hS => kk r H1 locs1 hw (hP.kept fun k q hq => hk q.1 (hP k q hq).lt fun h => h) hS)
theorem ro_long {post : Int64 → Prop} (hr : va_Run p l e R s m args below meth c H locs cells slots 0 0 (F0 m pc ls st0) rest (va_Ql (fun r (_ : Unit) => post r) (fun _ _ => True) A0 a) A0) (hS : va_S AA H0 H locs) (hP : va_P D cl ws H)
    (kk : ∀ (r : Int64) (H : Heap) (locs : List Loc), post r → va_P D cl ws H → va_S AA H0 H locs → W p l e R s m args below meth c H locs cells slots Q (F0 m (pc + 3) ls (.long r :: rest))) : W p l e R s m args below meth c H locs cells slots Q (F0 m pc ls st0) :=
  va_calll hr hS (fun _ _ h => h.elim) (fun _ h => h.elim) (fun r _ t H1 locs1 _ _ hw _ _ hk hS => kk r H1 locs1 hw (hP.kept fun k q hq => hk q.1 (hP k q hq).lt fun h => h) hS)
/-- behind a call that changes its own cells (A1): what came back, and what else is unchanged -/
theorem rw_int {S : Type} {post : Int32 → S → Prop} {w1 : S → va_W} {A1 : Nat → Prop} (hr : va_Run p l e R s m args below meth c H locs cells slots 0 0 (F0 m pc ls st0) rest (va_Qi post (fun u t => va_P D cl (w1 u) t.heap) A1 a) A1) (hS : va_S AA H0 H locs) (hA : ∀ q, A1 q → AA q)
    (kk : ∀ (r : Int32) (u : S) (H1 : Heap) (locs : List Loc), post r u → va_P D cl (w1 u) H1 → (∀ q : Nat, q < H.size → ¬ A1 q → H1[q]? = H[q]?) → va_S AA H0 H1 locs → W p l e R s m args below meth c H1 locs cells slots Q (F0 m (pc + 3) ls (.int r :: rest))) : W p l e R s m args below meth c H locs cells slots Q (F0 m pc ls st0) :=
  va_calli hr hS (fun q _ h => hA q h) hA (fun r u t H1 locs1 ht _ hw hB _ hk hS => kk r u H1 locs1 hw (ht ▸ hB) hk hS)
theorem rw_long {S : Type} {post : Int64 → S → Prop} {w1 : S → va_W} {A1 : Nat → Prop} (hr : va_Run p l e R s m args below meth c H locs cells slots 0 0 (F0 m pc ls st0) rest (va_Ql post (fun u t => va_P D cl (w1 u) t.heap) A1 a) A1) (hS : va_S AA H0 H locs) (hA : ∀ q, A1 q → AA q)
    (kk : ∀ (r : Int64) (u : S) (H1 : Heap) (locs : List Loc), post r u → va_P D cl (w1 u) H1 → (∀ q : Nat, q < H.size → ¬ A1 q → H1[q]? = H[q]?) → va_S AA H0 H1 locs → W p l e R s m args below meth c H1 locs cells slots Q (F0 m (pc + 3) ls (.long r :: rest))) : W p l e R s m args below meth c H locs cells slots Q (F0 m pc ls st0) :=
  va_calll hr hS (fun q _ h => hA q h) hA (fun r u t H1 locs1 ht _ hw hB _ hk hS => kk r u H1 locs1 hw (ht ▸ hB) hk hS)
theorem rw_void {S : Type} {post : S → Prop} {w1 : S → va_W} {A1 : Nat → Prop} (hr : va_Run p l e R s m args below meth c H locs cells slots 0 0 (F0 m pc ls st0) rest (va_Qv post (fun u t => va_P D cl (w1 u) t.heap) A1 a) A1) (hS : va_S AA H0 H locs) (hA : ∀ q, A1 q → AA q)
    (kk : ∀ (u : S) (H1 : Heap) (locs : List Loc), post u → va_P D cl (w1 u) H1 → (∀ q : Nat, q < H.size → ¬ A1 q → H1[q]? = H[q]?) → va_S AA H0 H1 locs → W p l e R s m args below meth c H1 locs cells slots Q (F0 m (pc + 3) ls rest)) : W p l e R s m args below meth c H locs cells slots Q (F0 m pc ls st0) :=
  va_callv hr hS (fun q _ h => hA q h) hA (fun u t H1 locs1 ht _ hw hB _ hk hS => kk u H1 locs1 hw (ht ▸ hB) hk hS)
end CALLS
def b2i (b : Bool) : Int32 := if b then 1 else 0
theorem b2i_z {b : Bool} : (b2i b = 0) ↔ b = false := by cases b <;> decide
theorem b2i_nar (b : Bool) : narrow .boolean (.int (b2i b)) = .int (b2i b) := by cases b <;> rfl
abbrev lushr (x : Int64) (y : Int32) : Int64 := (x.toUInt64 >>> (y.toInt64.toUInt64 &&& Int64.toUInt64 63)).toInt64
theorem AD_sub {ad : Nat → Nat} {a n b m : Nat} (h1 : b ≤ a) (h2 : a + n ≤ b + m) : ∀ q, AD ad a n q → AD ad b m q := by
  rintro q ⟨k, hk, rfl⟩
  exact ⟨a - b + k, by omega, by rw [show b + (a - b + k) = a + k by omega]⟩
theorem mid_at {D : va_G} {cl : List vw_C} {A B : Nat → Prop} {ws b b' : va_W} {H H1 : Heap} (hP : va_P D cl ws H) (hD : va_D A ws) (i n : Nat) (hb : (ws.drop i).take n = b) (hB : ∀ q, B q → ∃ (k : Nat) (e : va_E), b[k]? = some (q, e)) (hk : ∀ q : Nat, q < H.size → ¬ B q → H1[q]? = H[q]?) (hP1 : va_P D cl b' H1) (hl : b'.length = b.length) : va_P D cl (ws.take i ++ (b' ++ (ws.drop i).drop n)) H1 := by
  have e : ws = ws.take i ++ (b ++ (ws.drop i).drop n) := by rw [← hb, List.take_append_drop, List.take_append_drop]
  rw [e] at hP hD
  exact mid_join hP hD hB hk hl hP1
/-- 64 places of one array -/
abbrev wA (g : CX) (ad : Nat → Nat) (o : Nat) (x : FI) : va_W := [(ad o, .inl (gI g, 64, .inl x))]
abbrev jmax (x y : Int32) : Int32 := if x < y then y else x
theorem lv_tableD {p : Program} {l : Launch} {e : Env} {R : Room} {s : State} {m : MethodId} {args : Array Value} {below : List Frame} {meth : Method} {c : Code} {H : Heap} {locs : List Loc} {cells slots : Nat} {Q : State → Prop} {pc : Nat} {ls : Array Slot} {rest : List Value} {cc : ByteArray} (hexec : p.tables.exec = Jvm.exec) (hb : c.code = cc) {dflt lo hi : Int} {offs : Array Int} {len : Nat} {x : Int32} {tgt : Nat} (hdg : decode cc pc = .ok (.tableswitch dflt lo hi offs, len)) (h : x.toInt < lo ∨ hi < x.toInt ∨ offs[(x.toInt - lo).toNat]? = some dflt) (ht : (pc : Int) + dflt = (tgt : Int))
    (k : W p l e R s m args below meth c H locs cells slots Q (F0 m tgt ls rest)) : W p l e R s m args below meth c H locs cells slots Q (F0 m pc ls (.int x :: rest)) := by
  by_cases h1 : x.toInt < lo
  · exact lv_tableOut hexec hb hdg (Or.inl h1) ht k
  · by_cases h2 : hi < x.toInt
    · exact lv_tableOut hexec hb hdg (Or.inr h2) ht k
    · exact lv_tableIn hexec hb hdg h1 h2 ((h.resolve_left h1).resolve_left h2) ht k
