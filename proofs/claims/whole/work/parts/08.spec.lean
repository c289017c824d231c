/-! WHAT THE METHODS OF THE CLASS ANSWER, in their own words -/
def popcN (x : Nat) : Nat → Nat
  | 0 => 0
  | n + 1 => popcN x n + (x / 2 ^ n) % 2
/-- how many bits -/
def popc (x : Int64) : Int32 := nI (popcN x.toBitVec.toNat 64)
def isFactI (p : Int32) : Int32 := b2i (decide (0 ≤ p) && decide (p < 6))
def isPartI (p : Int32) : Int32 := b2i (decide (p = 0) || decide (p = 1))
def factCasesL (p : Int32) : Int64 := if isFactI p = 0 then 0 else fcT p.toNatClampNeg
def isInI (x : Int64) (c : Int32) : Int32 := b2i (!decide (lushr x c &&& 1 = 0))
def sizeOrLeastI (x : Int64) (w : Int32) : Int32 := if w = 0 then popc x else if x = 0 then -9 else popc ((x &&& (- x)) - 1)
def isSureI (x f : Int64) : Int32 := b2i (!decide (x = 0) && (decide (x &&& f = 0) || decide (x &&& f = x)))
def gcdI (a b : Int32) : Int32 := nI (Nat.gcd a.toNatClampNeg b.toNatClampNeg)
def leastTermsL (a b p : Int32) : Int64 := if a ≤ 0 ∨ b ≤ 0 then (if p = 0 then 0 else 1) else ((if p = 0 then a else b) / gcdI a b).toInt64
def drawOnI (z : Int32) : Int32 := z * 1664525 + 1013904223
def drawBelowI (z m : Int32) : Int32 := if 0 < m then (z &&& 2147483647) / 256 - (z &&& 2147483647) / 256 / m * m else 0
def inQ (x : SS) (q : Int32) : Prop := 0 ≤ q ∧ q < sNq x
def inW (x : SS) (w : Int32) : Prop := 0 ≤ w ∧ w < sNw x
/-- what always holds of the shared part -/
def okS (x : SS) : Prop := (0 ≤ sCase x ∧ sCase x ≤ 63) ∧ (0 ≤ sAsked x ∧ sAsked x ≤ 5000) ∧ (0 ≤ sNq x ∧ sNq x ≤ 8) ∧ (0 ≤ sNw x ∧ sNw x ≤ 5) ∧ (0 ≤ sNh x ∧ sNh x ≤ 12) ∧
  (∀ k : Nat, nI k < sNq x → k < 8 → (0 ≤ sForm x k ∧ sForm x k ≤ 4) ∧ (0 ≤ sFirst x k ∧ sFirst x k ≤ 5) ∧ (0 ≤ sSecond x k ∧ sSecond x k ≤ 5)) ∧
  (∀ k : Nat, nI k < sNw x → k < 5 → (0 ≤ sKind x k ∧ sKind x k ≤ 5) ∧ (0 ≤ sFigure x k ∧ sFigure x k ≤ 9) ∧ (0 ≤ sKnows x k ∧ sKnows x k ≤ 63)) ∧
  (∀ k : Nat, nI k < sNh x → k < 12 → inW x (sWhom x k) ∧ inQ x (sWhat x k) ∧ (0 ≤ sSaid x k ∧ sSaid x k ≤ 2) ∧ (0 ≤ sWhen x k ∧ sWhen x k ≤ 5000))
/-- the cases by which a form of two facts is so -/
def casesSoL (f : Int32) (a b : Int64) : Int64 := if f = 0 then a else if f = 1 then a ^^^ (-1) else if f = 2 then a &&& b else if f = 3 then a ||| b else (a ^^^ b) ^^^ (-1)
def neededI (f a b : Int32) : Int32 := if 2 ≤ f then (1 <<< (a &&& 31)) ||| (1 <<< (b &&& 31)) else 1 <<< (a &&& 31)
/-- what always holds of a Court of the class -/
def okC (x : KC) : Prop := okS (cS x) ∧ ∀ k : Nat, nI k < sNq (cS x) → k < 8 → cTruth x k = casesSoL (sForm (cS x) k) (factCasesL (sFirst (cS x) k)) (factCasesL (sSecond (cS x) k)) ∧ cNeeded x k = neededI (sForm (cS x) k) (sFirst (cS x) k) (sSecond (cS x) k)
def hasQI (x : SS) (q : Int32) : Int32 := b2i (decide (0 ≤ q) && decide (q < sNq x) && decide (q < 8))
def hasWI (x : SS) (w : Int32) : Int32 := b2i (decide (0 ≤ w) && decide (w < sNw x) && decide (w < 5))
def hasPI (x : SS) (k : Int32) : Int32 := b2i (decide (0 ≤ k) && decide (k < sNh x) && decide (k < 12))
def canAskI (x : SS) (w q : Int32) : Int32 := if hasWI x w = 0 then 0 else if hasQI x q = 0 then 0 else if sAsked x < 999 then 1 else 0
def truthOfL (x : KC) (q : Int32) : Int64 := if hasQI (cS x) q = 0 then 0 else cTruth x q.toNatClampNeg
def cisSoI (x : KC) (q : Int32) : Int32 := isInI (truthOfL x q) (sCase (cS x))
def onwardI (x : SS) (q n : Int32) : Int32 := if 0 < sNq x then (q + n) - (q + n) / sNq x * sNq x else q
def knowsB (x : KC) (w q : Int32) : Bool := decide (cNeeded x q.toNatClampNeg &&& (sKnows (cS x) w.toNatClampNeg ^^^ (-1)) = 0)
def plainYesL (x : KC) (w q : Int32) : Int64 := if knowsB x w q then cTruth x q.toNatClampNeg else 0
def plainNoL (x : KC) (w q : Int32) : Int64 := if knowsB x w q then cTruth x q.toNatClampNeg ^^^ (-1) else 0
def forgetsI (x : SS) (w t : Int32) : Int32 := b2i (decide (0 < sFigure x w.toNatClampNeg + 1) && decide (t - t / (sFigure x w.toNatClampNeg + 1) * (sFigure x w.toNatClampNeg + 1) = 0))
def yesL (x : KC) (w q t : Int32) : Int64 := if hasWI (cS x) w = 0 then 0 else if hasQI (cS x) q = 0 then 0 else
  if sKind (cS x) w.toNatClampNeg = 1 then plainNoL x w q else if sKind (cS x) w.toNatClampNeg = 3 then (if forgetsI (cS x) w t = 0 then plainYesL x w q else 0) else if sKind (cS x) w.toNatClampNeg = 4 then plainYesL x w (onwardI (cS x) q 1) else if sKind (cS x) w.toNatClampNeg = 5 then -1 else plainYesL x w q
def noL (x : KC) (w q t : Int32) : Int64 := if hasWI (cS x) w = 0 then 0 else if hasQI (cS x) q = 0 then 0 else
  if sKind (cS x) w.toNatClampNeg = 1 then plainYesL x w q else if sKind (cS x) w.toNatClampNeg = 2 then 0 else if sKind (cS x) w.toNatClampNeg = 3 then (if forgetsI (cS x) w t = 0 then plainNoL x w q else 0) else if sKind (cS x) w.toNatClampNeg = 4 then plainNoL x w (onwardI (cS x) q 1) else if sKind (cS x) w.toNatClampNeg = 5 then 0 else plainNoL x w q
def sayingL (x : KC) (w q t a : Int32) : Int64 := if a = 0 then noL x w q t else if a = 1 then yesL x w q t else (yesL x w q t ||| noL x w q t) ^^^ (-1)
def replyI (x : KC) (w q t c : Int32) : Int32 := if isInI (yesL x w q t) c = 0 then (if isInI (noL x w q t) c = 0 then 2 else 0) else 1
def keepingL (x : KC) (w q t : Int32) : Int64 := sayingL x w q t (replyI x w q t (sCase (cS x)))
/-- how many questions ahead of the k-th he would answer so -/
def qsaid (x : KC) (w t a : Int32) : Nat → Int32
  | 0 => 0
  | k + 1 => if replyI x w (nI k) t (sCase (cS x)) = a then qsaid x w t a k + 1 else qsaid x w t a k
def questionsSaidI (x : KC) (w t a : Int32) : Int32 := qsaid x w t a (sNq (cS x)).toNatClampNeg
def qso (x : KC) : Nat → Int32
  | 0 => 0
  | k + 1 => if cisSoI x (nI k) = 0 then qso x k else qso x k ||| (1 <<< (nI k &&& 31))
def questionsSoI (x : KC) : Int32 := qso x (sNq (cS x)).toNatClampNeg
def hfit (x : KC) (k : Nat) : Int64 := sayingL x (sWhom (cS x) k) (sWhat (cS x) k) (sWhen (cS x) k) (sSaid (cS x) k)
def heardFittingL (x : KC) (k : Int32) : Int64 := if hasPI (cS x) k = 0 then -1 else hfit x k.toNatClampNeg
def fitK (x : KC) : Nat → Int64
  | 0 => -1
  | k + 1 => fitK x k &&& hfit x k
def fittingL (x : KC) : Int64 := fitK x (sNh (cS x)).toNatClampNeg
def someK (x : KC) (k : Nat) : Nat → Int64
  | 0 => 0
  | q + 1 => someK x k q ||| sayingL x (sWhom (cS x) k) (nI q) (sWhen (cS x) k) (sSaid (cS x) k)
def jfitK (x : KC) : Nat → Int64
  | 0 => -1
  | k + 1 => jfitK x k &&& someK x k (sNq (cS x)).toNatClampNeg
def juryFittingL (x : KC) : Int64 := jfitK x (sNh (cS x)).toNatClampNeg
def untrK (x : KC) (w : Int32) : Nat → Int64
  | 0 => 0
  | k + 1 => if sWhom (cS x) k = w ∧ ¬ sSaid (cS x) k = 2 then untrK x w k ||| (if sSaid (cS x) k = 1 then truthOfL x (sWhat (cS x) k) ^^^ (-1) else truthOfL x (sWhat (cS x) k)) else untrK x w k
def untruthsL (x : KC) (w : Int32) : Int64 := untrK x w (sNh (cS x)).toNatClampNeg
def ansK (x : SS) (w : Int32) : Nat → Int32
  | 0 => 0
  | k + 1 => if sWhom x k = w ∧ ¬ sSaid x k = 2 then ansK x w k + 1 else ansK x w k
def answersOfI (x : SS) (w : Int32) : Int32 := ansK x w (sNh x).toNatClampNeg
