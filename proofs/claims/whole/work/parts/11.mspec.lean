/-! WHAT THE METHODS OF THE REFERENCE ANSWER, in their own words -/
def allN (p : Nat → Bool) : Nat → Bool
  | 0 => true
  | n + 1 => allN p n && p n
def anyN (p : Nat → Bool) : Nat → Bool
  | 0 => false
  | n + 1 => anyN p n || p n
/-- how many ahead of n -/
def cntN (p : Nat → Bool) : Nat → Int32
  | 0 => 0
  | n + 1 => cntN p n + b2i (p n)
/-- a set of those ahead of n -/
def setN (p : Nat → Bool) : Nat → Int32
  | 0 => 0
  | n + 1 => setN p n ||| (if p n then 1 <<< (nI n &&& 31) else 0)
def sumN (f : Nat → Int32) : Nat → Int32
  | 0 => 0
  | n + 1 => sumN f n + f n
def sumL (f : Nat → Int64) : Nat → Int64
  | 0 => 0
  | n + 1 => sumL f n + f n
/-- the first of n, from place i on -/
def firstN (p : Nat → Bool) : Nat → Nat → Option Nat
  | 0, _ => none
  | n + 1, i => if p i then some i else firstN p n (i + 1)
/-- 64 places are told anew -/
def tab (n : Nat) (f : Nat → Int32) (old : FI) : FI := fun k => if k < n then f k else old k
def boundI (v a b : Int32) : Int32 := if v < a then -4 else if b < v then -6 else 0
def isInM (v a b : Int32) : Int32 := b2i (decide (a ≤ v) && decide (v ≤ b))
def hasB (v k : Int32) : Bool := decide ((v >>> (k &&& 31)) &&& 1 = 1)
def isQuestionI (x : SS) (q : Int32) : Int32 := b2i (decide (0 ≤ q) && decide (q < sNq x))
def isWitnessI (x : SS) (w : Int32) : Int32 := b2i (decide (0 ≤ w) && decide (w < sNw x))
def soB (x : SS) (q by_ : Int32) : Bool :=
  let f := sForm x q.toNatClampNeg
  let a := hasB by_ (sFirst x q.toNatClampNeg)
  let b := hasB by_ (sSecond x q.toNatClampNeg)
  if f = 0 then a else if f = 1 then !a else if f = 2 then a && b else if f = 3 then a || b else a == b
def plainI (x : SS) (w q by_ : Int32) : Int32 :=
  if hasB (sKnows x w.toNatClampNeg) (sFirst x q.toNatClampNeg) = false then 2
  else if 1 < sForm x q.toNatClampNeg ∧ hasB (sKnows x w.toNatClampNeg) (sSecond x q.toNatClampNeg) = false then 2
  else b2i (soB x q by_)
def ansI (x : SS) (w q by_ t : Int32) : Int32 :=
  let k := sKind x w.toNatClampNeg
  let is := plainI x w q by_
  if k = 1 then (if is = 2 then is else 1 - is)
  else if k = 2 then (if is = 0 then 2 else is)
  else if k = 3 then (if t - t / (sFigure x w.toNatClampNeg + 1) * (sFigure x w.toNatClampNeg + 1) = 0 then 2 else is)
  else if k = 4 then plainI x w ((q + 1) - (q + 1) / sNq x * sNq x) by_
  else if k = 5 then 1 else is
def hitB (x : SS) (q by_ : Int32) (k : Nat) : Bool := decide (ansI x (sWhom x k) q by_ (sWhen x k) = sSaid x k)
def fitsAllB (x : SS) (by_ : Int32) : Bool := allN (fun k => hitB x (sWhat x k) by_ k) (sNh x).toNatClampNeg
def couldB (x : SS) (k : Nat) (by_ : Int32) : Bool := anyN (fun q => hitB x (nI q) by_ k) (sNq x).toNatClampNeg
def fitsJuryB (x : SS) (by_ : Int32) : Bool := allN (fun k => couldB x k by_) (sNh x).toNatClampNeg
def fitOf (x : SS) (j : Int32) (k : Nat) : Int32 := b2i (if j = 0 then fitsAllB x (nI k) else fitsJuryB x (nI k))
def leastOf (f : FI) : Int32 := match firstN (fun k => decide (f k = 1)) 64 0 with
  | none => -9
  | some k => nI k
def andN (f : FI) : Nat → Int32
  | 0 => 63
  | n + 1 => andN f n &&& (if f n = 1 then nI n else 63)
def orN (f : FI) : Nat → Int32
  | 0 => 0
  | n + 1 => orN f n ||| (if f n = 1 then nI n else 0)
def sureOf (f : FI) : Int32 := if sumN f 64 = 0 then 0 else andN f 64 ||| (63 &&& (orN f 64 ^^^ (-1)))
def powI (a : Int32) : Nat → Int32
  | 0 => 1
  | n + 1 => powI a n * a
/-! refusals: what is refused, and why; shared by class and reference -/
def rsX (w v : Int32) : Int32 := if w = 0 then v else w
def refuX (f : FI) (c : Int32) : FI := upd f (- c).toNatClampNeg (f (- c).toNatClampNeg + 1)
def rfX (f : FI) (w : Int32) : FI := if w = 0 then f else refuX f w
def rsL (w : Int32) (v : Int64) : Int64 := if w = 0 then v else 4000000000000000000 - w.toInt64
def whyLetter (n c : Int32) : Int32 := if boundI c 0 255 = 0 then (if n = 96 then -6 else 0) else boundI c 0 255
def whyFact (f : Int32) : Int32 := if isFactI f = 0 then -1 else 0
def whyQuestion (x : SS) (q w : Int32) : Int32 := if isQuestionI x q = 0 then -1 else if w = 0 ∨ w = 1 ∨ w = 2 ∨ w = 3 then 0 else -2
def whyWitness (x : SS) (q w : Int32) : Int32 := if isWitnessI x q = 0 then -1 else if w = 0 ∨ w = 1 ∨ w = 2 then 0 else -2
def whyAsks (x : SS) (w q : Int32) : Int32 := if isWitnessI x w = 0 ∨ isQuestionI x q = 0 then -1 else if sAsked x = 999 then -6 else 0
def whyHeard (x : SS) (k w : Int32) : Int32 := if k < 0 ∨ sNh x ≤ k then -1 else if w = 0 ∨ w = 1 ∨ w = 2 ∨ w = 3 then 0 else -2
def whyKnows (x : SS) (w b : Int32) : Int32 := if isWitnessI x w = 0 then -1 else boundI b 0 63
def whyTurn (x : SS) (w k f : Int32) : Int32 := if isWitnessI x w = 0 then -1 else if isInM k 0 5 = 0 then -2 else boundI f 0 9
def whyAnswer (x : SS) (w q c : Int32) : Int32 := if isWitnessI x w = 0 ∨ isQuestionI x q = 0 then -1 else boundI c (-1) 63
def why01 (p : Int32) : Int32 := if isInM p 0 1 = 0 then -2 else 0
def whySettle (x : SS) (w f p : Int32) : Int32 := if isWitnessI x w = 0 ∨ isFactI f = 0 then -1 else why01 p
def whyWords (x : SS) (w a : Int32) : Int32 := if isWitnessI x w = 0 then -1 else if isInM a 0 2 = 0 then -2 else 0
def whyW (x : SS) (w : Int32) : Int32 := if isWitnessI x w = 0 then -1 else 0
def whyPlace (x : SS) (k : Int32) : Int32 := if k < 0 ∨ sNh x ≤ k then -1 else 0
def whyVerdict (f p : Int32) : Int32 := if isFactI f = 0 then -1 else why01 p
def whyImplies (x : SS) (a b : Int32) : Int32 := if isQuestionI x a = 0 ∨ isQuestionI x b = 0 then -1 else 0
def whyTwo (x : SS) (w a b : Int32) : Int32 := if isWitnessI x w = 0 ∨ isQuestionI x a = 0 ∨ isQuestionI x b = 0 then -1 else 0
def whyDrawn (x : SS) (w n f p : Int32) : Int32 := if isWitnessI x w = 0 ∨ isFactI f = 0 then -1 else if boundI n 0 4 = 0 then (if isInM p 0 1 = 0 then -2 else if sNq x = 0 then -3 else 0) else boundI n 0 4
def whyWhatIs (x : SS) (rm w p : Int32) : Int32 := if isWitnessI x w = 0 then -1 else if isInM p 0 1 = 0 then -2 else if sNq x < rm then -3 else 0
def whyRow (n v : Int32) : Int32 := if boundI v 0 99 = 0 then (if n = 12 then -6 else 0) else boundI v 0 99
def whyLots (x : SS) (n p : Int32) : Int32 := if boundI n 1 20 = 0 then (if isInM p 0 1 = 0 then -2 else if sNw x = 0 ∨ sNq x = 0 then -3 else 0) else boundI n 1 20
/-! the shared part, changed -/
abbrev mkS (a b c d e : Int32) (f g h i j k l m n o : FI) : SS := (a, b, c, d, e, f, g, h, i, j, k, l, m, n, o)
def sSetCase (x : SS) (v : Int32) : SS := mkS v (sAsked x) (sNq x) (sNw x) (sNh x) (sForm x) (sFirst x) (sSecond x) (sKind x) (sFigure x) (sKnows x) (sWhom x) (sWhat x) (sSaid x) (sWhen x)
def sSetNh (x : SS) (v : Int32) : SS := mkS (sCase x) (sAsked x) (sNq x) (sNw x) v (sForm x) (sFirst x) (sSecond x) (sKind x) (sFigure x) (sKnows x) (sWhom x) (sWhat x) (sSaid x) (sWhen x)
def sSetKnows (x : SS) (v : FI) : SS := mkS (sCase x) (sAsked x) (sNq x) (sNw x) (sNh x) (sForm x) (sFirst x) (sSecond x) (sKind x) (sFigure x) v (sWhom x) (sWhat x) (sSaid x) (sWhen x)
def sSetKind (x : SS) (v : FI) : SS := mkS (sCase x) (sAsked x) (sNq x) (sNw x) (sNh x) (sForm x) (sFirst x) (sSecond x) v (sFigure x) (sKnows x) (sWhom x) (sWhat x) (sSaid x) (sWhen x)
def sSetKF (x : SS) (v w : FI) : SS := mkS (sCase x) (sAsked x) (sNq x) (sNw x) (sNh x) (sForm x) (sFirst x) (sSecond x) v w (sKnows x) (sWhom x) (sWhat x) (sSaid x) (sWhen x)
def sSetQ (x : SS) (n : Int32) (f g h : FI) : SS := mkS (sCase x) (sAsked x) n (sNw x) (sNh x) f g h (sKind x) (sFigure x) (sKnows x) (sWhom x) (sWhat x) (sSaid x) (sWhen x)
def sSetW (x : SS) (n : Int32) (f g h : FI) : SS := mkS (sCase x) (sAsked x) (sNq x) n (sNh x) (sForm x) (sFirst x) (sSecond x) f g h (sWhom x) (sWhat x) (sSaid x) (sWhen x)
def shF (x : SS) (f : FI) : FI := if sNh x = 12 then (fun k => if k < 11 then f (k + 1) else f k) else f
def shN (x : SS) : Int32 := if sNh x = 12 then 11 else sNh x
/-- one is asked: his answer, the shared part behind it -/
def askV (x : SS) (w q : Int32) : Int32 := ansI x w q (sCase x) (sAsked x + 1)
def askS (x : SS) (w q : Int32) : SS := mkS (sCase x) (sAsked x + 1) (sNq x) (sNw x) (shN x + 1) (sForm x) (sFirst x) (sSecond x) (sKind x) (sFigure x) (sKnows x) (upd (shF x (sWhom x)) (shN x).toNatClampNeg w) (upd (shF x (sWhat x)) (shN x).toNatClampNeg q) (upd (shF x (sSaid x)) (shN x).toNatClampNeg (askV x w q)) (upd (shF x (sWhen x)) (shN x).toNatClampNeg (sAsked x + 1))
def addQ (x : SS) (f a b : Int32) : SS := sSetQ x (sNq x + 1) (upd (sForm x) (sNq x).toNatClampNeg f) (upd (sFirst x) (sNq x).toNatClampNeg a) (upd (sSecond x) (sNq x).toNatClampNeg b)
def addW (x : SS) (k f b : Int32) : SS := sSetW x (sNw x + 1) (upd (sKind x) (sNw x).toNatClampNeg k) (upd (sFigure x) (sNw x).toNatClampNeg f) (upd (sKnows x) (sNw x).toNatClampNeg b)
/-! values that calls answer, in the reference's words -/
def questionV (x : SS) (q w : Int32) : Int32 := if w = 0 then sForm x q.toNatClampNeg else if w = 1 then sFirst x q.toNatClampNeg else if w = 2 then sSecond x q.toNatClampNeg else b2i (soB x q (sCase x))
def witnessV (x : SS) (q w : Int32) : Int32 := if w = 0 then sKind x q.toNatClampNeg else if w = 1 then sFigure x q.toNatClampNeg else sKnows x q.toNatClampNeg
def heardV (x : SS) (k w : Int32) : Int32 := if w = 0 then sWhom x k.toNatClampNeg else if w = 1 then sWhat x k.toNatClampNeg else if w = 2 then sSaid x k.toNatClampNeg else sWhen x k.toNatClampNeg
def foldN {β : Type} (f : Nat → β → β) : Nat → β → β
  | 0, b => b
  | n + 1, b => f n (foldN f n b)
def jm (a n : Int32) : Int32 := if a < n then n else a
def cntFit (x : SS) (fit : FI) (w q v : Int32) : Int32 := cntN (fun k => decide (fit k = 1) && decide (ansI x w q (nI k) (sAsked x + 1) = v)) 64
def worstI (x : SS) (fit : FI) (w q : Int32) : Int32 := jm (jm (jm 0 (cntFit x fit w q 0)) (cntFit x fit w q 1)) (cntFit x fit w q 2)
def nextStep (x : SS) (fit : FI) (w q : Int32) (b : Int32 × Int32) : Int32 × Int32 := if 0 ≤ b.1 ∧ b.2 ≤ worstI x fit w q then b else (10 * w + q, worstI x fit w q)
def nextBest (x : SS) (fit : FI) : Int32 × Int32 := foldN (fun w b => foldN (fun q b => nextStep x fit (nI w) (nI q) b) (sNq x).toNatClampNeg b) (sNw x).toNatClampNeg (-9, -9)
/-- the case rows that calls tell anew -/
def fitM (x : SS) (j : Int32) (old : FI) : FI := tab 64 (fitOf x j) old
def leftAsk (x : SS) (w q t : Int32) (l : FI) : FI := tab 64 (fun k => b2i (decide (l k = 1) && decide (ansI x w q (nI k) t = ansI x w q (sCase x) t))) l
/-- questions by a number of so many: the k-th of n -/
def codeQ (x : SS) (code : Int32) (n k : Nat) : Int32 := let d := code / powI (sNq x) (n - 1 - k); d - d / sNq x * sNq x
def leftCode (x : SS) (w code : Int32) (n : Nat) (fit : FI) : Nat → FI → FI
  | 0, old => tab 64 fit old
  | k + 1, old => leftAsk x w (codeQ x code n k) (sAsked x + 1 + nI k) (leftCode x w code n fit k old)
def settledB (x : SS) (fit : FI) (w f code : Int32) (n : Nat) : Bool := hasB (sureOf (leftCode x w code n fit n fit)) f
def settleFrom (x : SS) (fit : FI) (w f : Int32) (p : Int32) : Nat → Nat → Int32
  | 0, _ => -9
  | d + 1, many => match firstN (fun c => settledB x fit w f (nI c) many) (powI (sNq x) many).toNatClampNeg 0 with
    | some c => if p = 0 then nI many else nI c / powI (sNq x) (many - 1)
    | none => settleFrom x fit w f p d (many + 1)
def settleV (x : SS) (fit : FI) (w f p : Int32) : Int32 := if hasB (sureOf fit) f then (if p = 0 then 0 else -9) else settleFrom x fit w f p 3 1
def wordsV (x : SS) (w a : Int32) : Int32 := cntN (fun q => decide (ansI x w (nI q) (sCase x) (sAsked x + 1) = a)) (sNq x).toNatClampNeg
def trueAt (x : SS) (k by_ : Int32) : Int32 := if sSaid x k.toNatClampNeg = 2 then 2 else b2i (soB x (sWhat x k.toNatClampNeg) by_ == decide (sSaid x k.toNatClampNeg = 1))
def liedB (x : SS) (w by_ : Int32) : Bool := anyN (fun k => decide (sWhom x k = w) && decide (trueAt x (nI k) by_ = 0)) (sNh x).toNatClampNeg
def liarB (x : SS) (fit : FI) (w : Int32) : Bool := allN (fun k => !decide (fit k = 1) || liedB x w (nI k)) 64 && decide (0 < sumN fit 64)
def liarsV (x : SS) (fit : FI) : Int32 := setN (fun w => liarB x fit (nI w)) (sNw x).toNatClampNeg
def bothB (x : SS) (a b : Int32) : Bool := anyN (fun k => hitB x (sWhat x a.toNatClampNeg) (nI k) a.toNatClampNeg && hitB x (sWhat x b.toNatClampNeg) (nI k) b.toNatClampNeg) 64
def clashFrom (x : SS) (n : Nat) : Nat → Nat → Int32
  | 0, _ => -9
  | d + 1, a => match firstN (fun b => !bothB x (nI a) (nI b)) (n - (a + 1)) (a + 1) with
    | some b => 100 * nI a + nI b
    | none => clashFrom x n d (a + 1)
def clashV (x : SS) : Int32 := clashFrom x (sNh x).toNatClampNeg (sNh x).toNatClampNeg 0
def trueOfV (x : SS) (w : Int32) : Int32 := cntN (fun k => decide (sWhom x k = w) && decide (trueAt x (nI k) (sCase x) = 1)) (sNh x).toNatClampNeg
def talkN (x : SS) (w : Int32) : Int32 := cntN (fun k => decide (sWhom x k = w) && !decide (sSaid x k = 2)) (sNh x).toNatClampNeg
def talkerV (x : SS) : Int32 := (foldN (fun w (b : Int32 × Int32) => if talkN x (nI w) ≤ b.2 then b else (nI w, talkN x (nI w))) (sNw x).toNatClampNeg (-9, 0)).1
def betraysV (x : SS) (k : Int32) : Int32 := cntN (fun q => hitB x (nI q) (sCase x) k.toNatClampNeg) (sNq x).toNatClampNeg
def gcdL (a b : Int64) : Int64 := lN (Nat.gcd a.toNatClampNeg b.toNatClampNeg)
def partOfV (u d : Int64) (p : Int32) : Int64 := if d = 0 then p.toInt64 else (if p = 0 then u else d) / gcdL u d
def verdictV (fit : FI) (f p : Int32) : Int64 := partOfV (sumL (fun k => if fit k = 1 ∧ hasB (nI k) f = true then 1 else 0) 64) (sumN fit 64).toInt64 p
def bitsI (v : Int32) : Int32 := sumN (fun k => (v >>> (nI k &&& 31)) &&& 1) 31
def meanV (fit : FI) (p : Int32) : Int64 := partOfV (sumL (fun k => if fit k = 1 then (bitsI (nI k)).toInt64 else 0) 64) (sumN fit 64).toInt64 p
def hiddenB (x : SS) (q : Int32) : Bool := allN (fun w => decide (ansI x (nI w) q (sCase x) (sAsked x + 1) = 2)) (sNw x).toNatClampNeg
def hiddenV (x : SS) : Int32 := setN (fun q => hiddenB x (nI q)) (sNq x).toNatClampNeg
def sameB (x : SS) (a b : Int32) : Bool := allN (fun k => soB x a (nI k) == soB x b (nI k)) 64
/-- pairs a, b (a < b), from the last on: how many, the first -/
def sameRow (x : SS) (a : Nat) : Nat → Nat → Int32 × Int32 → Int32 × Int32
  | 0, _, acc => acc
  | d + 1, b, acc => sameRow x a d (b - 1) (if sameB x (nI a) (nI b) then (acc.1 + 1, 10 * nI a + nI b) else acc)
def sameFrom (x : SS) (n : Nat) : Nat → Int32 × Int32 → Int32 × Int32
  | 0, acc => acc
  | a + 1, acc => sameFrom x n a (sameRow x a (n - 1 - a) (n - 1) acc)
def sameV (x : SS) (p : Int32) : Int32 := let r := sameFrom x (sNq x).toNatClampNeg (sNq x).toNatClampNeg (0, -9); if p = 0 then r.1 else r.2
def impliesV (x : SS) (fit : FI) (a b : Int32) : Int32 := b2i (allN (fun k => !(decide (fit k = 1) && soB x a (nI k) && !soB x b (nI k))) 64)
def remI (a b : Int32) : Int32 := a - a / b * b
def leftTwo (x : SS) (fit : FI) (w a b : Int32) (k : Nat) : Int32 := sumN (leftAsk x w (remI (b + remI (nI k) 2) (sNq x)) (sAsked x + 2) (leftAsk x w (remI (a + nI k / 2) (sNq x)) (sAsked x + 1) (tab 64 fit fit))) 64
def twoV (x : SS) (fit : FI) (w a b : Int32) : Int32 :=
  let l := leftTwo x fit w a b
  match firstN (fun k => decide (l (k ^^^ 2) ≤ l k) && decide (l k ≤ l (k ^^^ 1))) 4 0 with
  | some k => 10 * (nI k / 2) + remI (nI k) 2
  | none => -9
def drawnV (x : SS) (fit : FI) (w : Int32) (n : Nat) (f p : Int32) : Int64 := partOfV (sumL (fun c => if settledB x fit w f (nI c) n then 1 else 0) (powI (sNq x) n).toNatClampNeg) (powI (sNq x) n).toInt64 p
def rowB (x : SS) (row : FI) (m : Int32) (w : Int32) : Bool := allN (fun q => decide (ansI x w (nI q) (sCase x) (sAsked x + 1) = row q)) m.toNatClampNeg
def kindsV (x : SS) (row : FI) (m w : Int32) : Int32 := setN (fun v => rowB (sSetKind x (upd (sKind x) w.toNatClampNeg (nI v))) row m w) 6
def knownV (x : SS) (row : FI) (m w : Int32) : Int32 := cntN (fun v => rowB (sSetKnows x (upd (sKnows x) w.toNatClampNeg (nI v))) row m w) 64
def judgeV (x : SS) (row : FI) (m : Int32) : Int32 := match firstN (fun k => decide (sNh x ≤ nI k) || !decide (sSaid x k = row k)) m.toNatClampNeg 0 with
  | some k => nI k
  | none => -9
def drawZ (z : Int32) : Int32 := z * 1664525 + 1013904223
def drawV (z m : Int32) : Int32 := remI ((drawZ z &&& 2147483647) / 256) m
/-- one session's askings: the seed, the answers yes so far, the shared part -/
def sessionN (nw nq : Int32) : Nat → Int32 × Int32 × SS → Int32 × Int32 × SS
  | 0, a => a
  | n + 1, a => let b := sessionN nw nq n a; (drawZ (drawZ b.1), b.2.1 + b2i (decide (askV b.2.2 (drawV b.1 nw) (drawV (drawZ b.1) nq) = 1)), askS b.2.2 (drawV b.1 nw) (drawV (drawZ b.1) nq))
def lotsN (x : SS) : Nat → Int32 × Int32 × Int32 → Int32 × Int32 × Int32
  | 0, a => a
  | n + 1, a => let b := lotsN x n a; let r := sessionN (sNw x) (sNq x) 6 (b.1, b.2.1, x); (r.1, r.2.1, b.2.2 + sumN (fitOf r.2.2 0) 64)
def lotsV (x : SS) (n z p : Int32) : Int32 := let r := lotsN x n.toNatClampNeg (z, 0, 0); if p = 0 then r.2.1 else r.2.2
def soSetV (x : SS) : Int32 := setN (fun q => soB x (nI q) (sCase x)) (sNq x).toNatClampNeg
def countV (x : SS) (ref : FI) (rm tp p : Int32) : Int32 := if isInM p 11 16 = 0 then (if p = 0 then sNq x else if p = 1 then sNw x else if p = 2 then sCase x else if p = 3 then sNh x else if p = 4 then sAsked x else if p = 5 then soSetV x else if p = 6 then rm else if p = 7 then tp else -9) else ref (p - 10).toNatClampNeg
theorem P_at {D : va_G} {cl : List vw_C} {ws : va_W} {H : Heap} {t : State} (ht : t.heap = H) (h : va_P D cl ws H) : va_P D cl ws t.heap := by rw [ht]; exact h
