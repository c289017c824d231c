/-! THE PARSE AND THE IMAGE of the reference, in its own words -/
abbrev mkT (a b c d : FI) (e f g : Int32) : KT := (a, b, c, d, e, f, g)
def tSetAt (t : KT) (v : Int32) : KT := mkT (tTape t) (tLetter t) (tLetterAt t) (tTold t) (tTaped t) v (tStm t)
def tSetTold (t : KT) (v : FI) : KT := mkT (tTape t) (tLetter t) (tLetterAt t) v (tTaped t) (tAt t) (tStm t)
def nxt (t : KT) (a : Int32) : Int32 := if a < tTaped t then tTape t a.toNatClampNeg else -1
def rdLoop (t : KT) : Nat → Int32 → Int32 → Bool × Int32 × Int32
  | 0, a, v => (true, a, v)
  | n + 1, a, v => if isInM (nxt t a) 48 57 = 0 then (false, a, v) else rdLoop t n (a + 1) (10 * v + nxt t a - 48)
def rdD (t : KT) (p d : Int32) : Int32 × KT := let r := rdLoop t d.toNatClampNeg (tAt t) 0; if r.1 = true then (1, tSetTold (tSetAt t r.2.1) (upd (tTold t) p.toNatClampNeg r.2.2)) else (0, tSetAt t r.2.1)
def kindOfI (b : Int32) : Int32 := if b = 119 then 0 else if b = 108 then 1 else if b = 98 then 2 else if b = 102 then 3 else if b = 114 then 4 else if b = 99 then 5 else -1
def rdW (t : KT) (p : Int32) : Int32 × KT :=
  let k := kindOfI (nxt t (tAt t))
  let t1 := tSetTold t (upd (tTold t) p.toNatClampNeg k)
  if k < 0 then (0, t1) else
    let a := rdD (tSetAt t1 (tAt t1 + 1)) (p + 1) 1
    if a.1 = 0 then (0, a.2) else
      let b := rdD a.2 (p + 2) 2
      if b.1 = 0 then (0, b.2) else (1, b.2)
def rdAll (t : KT) (b p : Int32) : Int32 × KT :=
  if b = 102 then rdD t p 1
  else if b = 113 then
    let a := rdD t p 1
    if a.1 = 0 then (0, a.2) else
      let c := rdD a.2 (p + 1) 1
      if c.1 = 0 then (0, c.2) else
        let d := rdD c.2 (p + 2) 1
        if d.1 = 0 then (0, d.2) else (1, d.2)
  else if b = 119 then rdW t p
  else if b = 110 then (1, t)
  else
    let a := rdD t p 1
    if a.1 = 0 then (0, a.2) else
      let c := rdD a.2 (p + 1) 1
      if c.1 = 0 then (0, c.2) else (1, c.2)
def isHeadB (b : Int32) : Bool := decide (b = 102) || decide (b = 113) || decide (b = 119) || decide (b = 107) || decide (b = 97) || decide (b = 110)
def stmT (t : KT) : Int32 × KT :=
  let b := nxt t (tAt t)
  if isHeadB b then
    let t1 := mkT (tTape t) (upd (tLetter t) (tStm t).toNatClampNeg b) (upd (tLetterAt t) (tStm t).toNatClampNeg (tAt t)) (tTold t) (tTaped t) (tAt t + 1) (tStm t)
    let r := rdAll t1 b (3 * tStm t)
    if r.1 = 0 then (0, r.2) else if nxt r.2 (tAt r.2) = 59 then (1, tSetAt r.2 (tAt r.2 + 1)) else (0, r.2)
  else (0, t)
/-- where the parse stands: at and taped in range, how many statements -/
def okT (t : KT) : Prop := (0 ≤ tTaped t ∧ tTaped t ≤ 96) ∧ (0 ≤ tAt t ∧ tAt t ≤ tTaped t) ∧ (0 ≤ tStm t ∧ tStm t + tStm t ≤ tAt t)
def rdCourt : Nat → KT → Bool × KT
  | 0, t => (true, t)
  | n + 1, t => if tAt t < tTaped t ∨ tStm t = 0 then (let r := stmT t; if r.1 = 0 then (false, r.2) else rdCourt n (mkT (tTape r.2) (tLetter r.2) (tLetterAt r.2) (tTold r.2) (tTaped r.2) (tAt r.2) (tStm r.2 + 1))) else (true, t)
def cqB (t : KT) (x : SS) (p : Int32) : Bool := !decide (4 < tTold t p.toNatClampNeg) && !decide (isFactI (tTold t (p + 1).toNatClampNeg) = 0) && !decide (isFactI (tTold t (p + 2).toNatClampNeg) = 0) && !decide (sNq x = 8)
def cwB (t : KT) (x : SS) (p : Int32) : Bool := !decide (64 ≤ tTold t (p + 2).toNatClampNeg) && !decide (sNw x = 5)
def caB (x : SS) (w q : Int32) : Bool := !decide (isWitnessI x w = 0) && !decide (isQuestionI x q = 0) && !decide (sAsked x = 999)
def comesI (t : KT) (x : SS) (k : Int32) : Int32 × SS :=
  let p := 3 * k
  let a := tTold t p.toNatClampNeg
  let b := tTold t (p + 1).toNatClampNeg
  let c := tTold t (p + 2).toNatClampNeg
  let h := tLetter t k.toNatClampNeg
  if h = 102 then (if isFactI a = 0 then (0, x) else (1, sSetCase x (sCase x ^^^ (1 <<< (a &&& 31)))))
  else if h = 113 then (if cqB t x p then (1, addQ x a b c) else (0, x))
  else if h = 119 then (if cwB t x p then (1, addW x a b c) else (0, x))
  else if h = 107 then (if isWitnessI x a = 0 ∨ isFactI b = 0 then (0, x) else (1, sSetKnows x (upd (sKnows x) a.toNatClampNeg (sKnows x a.toNatClampNeg ^^^ (1 <<< (b &&& 31))))))
  else if h = 97 then (if caB x a b then (1, askS x a b) else (0, x))
  else (1, sSetNh x 0)
/-- statements come one by one, from the k-th on: the place of the first that can't; the shared part -/
def comesN (t : KT) : Nat → Nat → SS → Option Int32 × SS
  | 0, _, x => (none, x)
  | n + 1, k, x => let r := comesI t x (nI k); if r.1 = 0 then (some (tLetterAt t k), r.2) else comesN t n (k + 1) r.2
def courtT (t : KT) : Bool × KT := rdCourt 49 (mkT (tTape t) (tLetter t) (tLetterAt t) (tTold t) (tTaped t) 0 0)
def courtV (t : KT) (x : SS) : Int32 :=
  let r := courtT t
  if r.1 = false then -1000 - tAt r.2 else match (comesN r.2 (tStm r.2).toNatClampNeg 0 x).1 with
    | some at_ => -2000 - at_
    | none => tStm r.2
def courtS (t : KT) (x : SS) : SS :=
  let r := courtT t
  if r.1 = false then x else match (comesN r.2 (tStm r.2).toNatClampNeg 0 x).1 with
    | some _ => x
    | none => (comesN r.2 (tStm r.2).toNatClampNeg 0 x).2
/-! rows kept, and put back -/
def saveA (kept : FI) (c : Int32) (n : Nat) (f : FI) : FI := fun j => if c.toNatClampNeg ≤ j ∧ j < c.toNatClampNeg + n then f (j - c.toNatClampNeg) else kept j
def loadA (kept : FI) (c : Int32) (n : Nat) (f : FI) : FI := tab n (fun k => kept (c.toNatClampNeg + k)) f
def save1 (kept : FI) (c : Int32) (v : Int32) : FI := upd kept c.toNatClampNeg v
/-- from place c on all of the shared part is kept -/
def saveS (k : FI) (c : Int32) (x : SS) : FI :=
  save1 (save1 (save1 (save1 (save1 (saveA (saveA (saveA (saveA (saveA (saveA (saveA (saveA (saveA (saveA k c 8 (sForm x)) (c + 8) 8 (sFirst x)) (c + 16) 8 (sSecond x)) (c + 24) 5 (sKind x)) (c + 29) 5 (sFigure x)) (c + 34) 5 (sKnows x)) (c + 39) 12 (sWhom x)) (c + 51) 12 (sWhat x)) (c + 63) 12 (sSaid x)) (c + 75) 12 (sWhen x)) (c + 87) (sCase x)) (c + 88) (sNq x)) (c + 89) (sNw x)) (c + 90) (sNh x)) (c + 91) (sAsked x)
def loadS (k : FI) (c : Int32) (x : SS) : SS :=
  mkS (k (c + 87).toNatClampNeg) (k (c + 91).toNatClampNeg) (k (c + 88).toNatClampNeg) (k (c + 89).toNatClampNeg) (k (c + 90).toNatClampNeg) (loadA k c 8 (sForm x)) (loadA k (c + 8) 8 (sFirst x)) (loadA k (c + 16) 8 (sSecond x)) (loadA k (c + 24) 5 (sKind x)) (loadA k (c + 29) 5 (sFigure x)) (loadA k (c + 34) 5 (sKnows x)) (loadA k (c + 39) 12 (sWhom x)) (loadA k (c + 51) 12 (sWhat x)) (loadA k (c + 63) 12 (sSaid x)) (loadA k (c + 75) 12 (sWhen x))
/-- what lies ahead of place 92 is k's -/
def mixK (k f : FI) : FI := fun j => if j < 92 then k j else f j

theorem ad_wM (g : CX) (ad : Nat → Nat) (σ τ : KM) : (wM g ad σ).map Prod.fst = (wM g ad τ).map Prod.fst := rfl
