/-! LITERALS, LETTERS, THE COURT of the class, in its own words -/
theorem ro_str {p : Program} {l : Launch} {e : Env} {R : Room} {s : State} {m : MethodId} {args : Array Value} {below : List Frame} {meth : Method} {c : Code} {H : Heap} {locs : List Loc} {cells slots : Nat} {Q : State → Prop} {pc : Nat} {ls : Array Slot} {rest st0 : List Value} {a : Array Value} {AA : Nat → Prop} {H0 : Heap} {D : va_G} {cl : List vw_C} {ws : va_W} {ad : Nat → Nat} {post : Nat → Prop} (hr : va_Run p l e R s m args below meth c H locs cells slots 0 0 (F0 m pc ls st0) rest (va_Qr post (fun r a _ => a = ad r) A0 a) A0) (hS : va_S AA H0 H locs) (hP : va_P D cl ws H)
    (kk : ∀ (r : Nat) (H : Heap) (locs : List Loc), post r → va_P D cl ws H → va_S AA H0 H locs → W p l e R s m args below meth c H locs cells slots Q (F0 m (pc + 3) ls (.ref (ad r) :: rest))) : W p l e R s m args below meth c H locs cells slots Q (F0 m pc ls st0) :=
  va_callr hr hS (fun _ _ h => h.elim) (fun _ h => h.elim) (fun r ra t H1 locs1 _ _ hw hB _ hk hS => by
    subst hB
    exact kk r H1 locs1 hw (hP.kept fun k q hq => hk q.1 (hP k q hq).lt fun h => h) hS)
theorem ro_void {p : Program} {l : Launch} {e : Env} {R : Room} {s : State} {m : MethodId} {args : Array Value} {below : List Frame} {meth : Method} {c : Code} {H : Heap} {locs : List Loc} {cells slots : Nat} {Q : State → Prop} {pc : Nat} {ls : Array Slot} {rest st0 : List Value} {a : Array Value} {AA : Nat → Prop} {H0 : Heap} {D : va_G} {cl : List vw_C} {ws : va_W} {post : Prop} (hr : va_Run p l e R s m args below meth c H locs cells slots 0 0 (F0 m pc ls st0) rest (va_Qv (fun (_ : Unit) => post) (fun _ _ => True) A0 a) A0) (hS : va_S AA H0 H locs) (hP : va_P D cl ws H)
    (kk : ∀ (H : Heap) (locs : List Loc), va_P D cl ws H → va_S AA H0 H locs → W p l e R s m args below meth c H locs cells slots Q (F0 m (pc + 3) ls rest)) : W p l e R s m args below meth c H locs cells slots Q (F0 m pc ls st0) :=
  va_callv hr hS (fun _ _ h => h.elim) (fun _ h => h.elim) (fun r t H1 locs1 _ _ hw _ _ hk hS => kk H1 locs1 (hP.kept fun k q hq => hk q.1 (hP k q hq).lt fun h => h) hS)
def lenI (i : Nat) : Int32 := nI (lenS.getD i 0)
def chS (i : Nat) (k : Int32) : Int32 := (bytS.getD i []).getD k.toNatClampNeg 0
def ixS (i : Nat) (c : Int32) : Int32 := match firstN (fun k => decide ((bytS.getD i []).getD k 0 = c)) (lenS.getD i 0) 0 with
  | some k => nI k
  | none => -1
/-- the letters: how many, each a letter -/
def okZ (z : KZ) : Prop := (0 ≤ zLen z ∧ zLen z ≤ 96) ∧ ∀ k : Nat, 0 ≤ zText z k ∧ zText z k ≤ 255
def signI (z : KZ) (p : Int32) : Int32 := if 0 ≤ p ∧ p < zLen z ∧ p < 96 then zText z p.toNatClampNeg else 0
def shapeN (c : Int32) : Nat := if c = 102 then 0 else if c = 113 then 1 else if c = 119 then 2 else if c = 107 then 3 else if c = 97 then 3 else if c = 110 then 4 else 5
def ofShapeI (s w : Int32) : Int32 := if w = 57 then b2i (decide (48 ≤ s) && decide (s ≤ 57)) else if w = 119 then b2i (decide (0 ≤ ixS 6 s)) else b2i (decide (s = w))
/-- from a place on: the shape that is wanted, how much of it has come -/
def brokenFrom (z : KZ) : Nat → Nat → Nat → Int32 → Int32
  | 0, _, w, c => if zLen z = 0 then zLen z else if c < lenI w then zLen z else -1
  | d + 1, k, w, c =>
    if lenI w ≤ c then (if lenI (shapeN (zText z k)) = 0 then nI k else brokenFrom z d (k + 1) (shapeN (zText z k)) 0)
    else if ofShapeI (zText z k) (chS w c) = 0 then nI k else brokenFrom z d (k + 1) w (c + 1)
def brokenV (z : KZ) : Int32 := brokenFrom z (zLen z).toNatClampNeg 0 5 0
def stLenV (z : KZ) (p : Int32) : Int32 := 1 + lenI (shapeN (signI z p))
def digV (z : KZ) (p : Int32) : Int32 := signI z p - 48
def setSC (c : KC) (x : SS) : KC := (x, cNeeded c, cTruth c)
def playWC (z : KZ) (c : KC) (p : Int32) : Int32 × KC :=
  let k := ixS 6 (signI z (p + 1))
  let f := digV z (p + 2)
  let b := 10 * digV z (p + 3) + digV z (p + 4)
  (b2i (wOkB (cS c) k f b), setSC c (if wOkB (cS c) k f b then addW (cS c) k f b else cS c))
def playC (z : KZ) (c : KC) (p : Int32) : Int32 × KC :=
  let s := signI z p
  let a := digV z (p + 1)
  let b := digV z (p + 2)
  if s = 102 then (isFactI a, setSC c (if isFactI a = 0 then cS c else sSetCase (cS c) (sCase (cS c) ^^^ (1 <<< (a &&& 31)))))
  else if s = 113 then (b2i (qOkB (cS c) a b (digV z (p + 3))), if qOkB (cS c) a b (digV z (p + 3)) then addQC c a b (digV z (p + 3)) else c)
  else if s = 119 then playWC z c p
  else if s = 107 then (flipKI (cS c) a b, setSC c (if flipKI (cS c) a b = 0 then cS c else sSetKnows (cS c) (upd (sKnows (cS c)) a.toNatClampNeg (sKnows (cS c) a.toNatClampNeg ^^^ (1 <<< (b &&& 31))))))
  else if s = 97 then (if canAskI (cS c) a b = 0 then (0, c) else (1, setSC c (askS (cS c) a b)))
  else if s = 110 then (1, setSC c (sSetNh (cS c) 0))
  else (0, c)
/-- statements come one by one: the answer, and the court where nothing was wrong -/
def playFrom (z : KZ) : Nat → Int32 → Int32 → KC → Int32 × Option KC
  | 0, _, n, c => (n, some c)
  | d + 1, p, n, c => if p < zLen z ∧ n < 96 then (let r := playC z c p; if r.1 = 0 then (-2000 - p, none) else playFrom z d (p + stLenV z p) (n + 1) r.2) else (n, some c)
def courtXV (z : KZ) (c : KC) : Int32 := if 0 ≤ brokenV z then -1000 - brokenV z else (playFrom z 97 0 0 c).1
def courtXN (z : KZ) (c : KC) : KC := if 0 ≤ brokenV z then c else match (playFrom z 97 0 0 c).2 with
  | some r => r
  | none => c
abbrev jmin (x y : Int32) : Int32 := if y < x then y else x
