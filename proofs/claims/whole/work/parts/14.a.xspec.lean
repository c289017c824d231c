/-! WHAT THE CLASS'S OWN CALLS ANSWER, in their own words -/
/-- arrays hold nothing beyond their ends -/
def zS (x : SS) : Prop := (∀ k, 8 ≤ k → sForm x k = 0 ∧ sFirst x k = 0 ∧ sSecond x k = 0) ∧ (∀ k, 5 ≤ k → sKind x k = 0 ∧ sFigure x k = 0 ∧ sKnows x k = 0) ∧ (∀ k, 12 ≤ k → sWhom x k = 0 ∧ sWhat x k = 0 ∧ sSaid x k = 0 ∧ sWhen x k = 0)
def zC (x : KC) : Prop := zS (cS x) ∧ ∀ k, 8 ≤ k → cNeeded x k = 0 ∧ cTruth x k = 0
/-- a form, two facts: they can be a question -/
def qOkB (x : SS) (f a b : Int32) : Bool := decide (0 ≤ f) && decide (f < 5) && !decide (isFactI a = 0) && !decide (isFactI b = 0) && decide (sNq x < 8)
def wOkB (x : SS) (k f b : Int32) : Bool := decide (0 ≤ k) && decide (k < 6) && decide (0 ≤ f) && decide (f ≤ 9) && decide (0 ≤ b) && decide (b ≤ 63) && decide (sNw x < 5)
def flipKI (x : SS) (w f : Int32) : Int32 := if hasWI x w = 0 then 0 else if isFactI f = 0 then 0 else 1
def addQC (x : KC) (f a b : Int32) : KC := (addQ (cS x) f a b, upd (cNeeded x) (sNq (cS x)).toNatClampNeg (neededI f a b), vp_updL (cTruth x) (sNq (cS x)).toNatClampNeg (casesSoL f (factCasesL a) (factCasesL b)))
/-- what always holds of the class -/
def okX (x : KX) : Prop := okC (xNow x) ∧ zC (xNow x) ∧ zC (xTaken x) ∧ zC (xTrial x) ∧ (0 ≤ zLen (xScr x) ∧ zLen (xScr x) ≤ 96) ∧ (0 ≤ xRowLen x ∧ xRowLen x ≤ 12) ∧ (sAsked (cS (xNow x)) ≤ 999)
def sureX (l : Int64) : Int32 := setN (fun f => !decide (isSureI l (factCasesL (nI f)) = 0)) 6
def questionX (x : KC) (q w : Int32) : Int32 := if w = 0 then sForm (cS x) q.toNatClampNeg else if w = 1 then sFirst (cS x) q.toNatClampNeg else if w = 2 then sSecond (cS x) q.toNatClampNeg else b2i (!decide (cisSoI x q = 0))
def worstX (x : KC) (l : Int64) (w q : Int32) : Int32 := jmax (jmax (jmax 0 (popc (l &&& sayingL x w q (sAsked (cS x) + 1) 0))) (popc (l &&& sayingL x w q (sAsked (cS x) + 1) 1))) (popc (l &&& sayingL x w q (sAsked (cS x) + 1) 2))
def bestStepX (x : KC) (l : Int64) (w q : Int32) (b : Int32 × Int32) : Int32 × Int32 := if b.1 = -9 ∨ worstX x l w q < b.2 then (10 * w + q, worstX x l w q) else b
def bestX (x : KC) (l : Int64) : Int32 × Int32 := foldN (fun w b => foldN (fun q b => bestStepX x l (nI w) (nI q) b) (sNq (cS x)).toNatClampNeg b) (sNw (cS x)).toNatClampNeg (-9, -9)
/-- what each of four askings in turn of each question leaves -/
def keptX (x : KC) (w : Int32) (old : FL) : FL := fun k => if k < 32 ∧ k % 8 < (sNq (cS x)).toNatClampNeg then keepingL x w (nI (k % 8)) (sAsked (cS x) + 1 + nI (k / 8)) else old k
def waysN (kept : FL) (nq : Nat) (f : Int64) : Nat → Nat → Int64 → Int32
  | 0, _, l => isSureI l f
  | d + 1, step, l => sumN (fun q => waysN kept nq f d (step + 1) (l &&& kept (step * 8 + q))) nq
def settleFromX (kept : FL) (nq : Nat) (l f : Int64) (p : Int32) : Nat → Nat → Int32
  | 0, _ => -9
  | d + 1, len => match firstN (fun q => decide (0 < waysN kept nq f (len - 1) 1 (l &&& kept q))) nq 0 with
    | some q => if p = 0 then nI len else nI q
    | none => settleFromX kept nq l f p d (len + 1)
def settleX (x : KC) (w : Int32) (f : Int64) (p : Int32) : Int32 := if isSureI (fittingL x) f = 0 then settleFromX (keptX x w (fun _ => 0)) (sNq (cS x)).toNatClampNeg (fittingL x) f p 3 1 else (if p = 0 then 0 else -9)
def liarsX (x : KC) : Int32 := if fittingL x = 0 then 0 else setN (fun w => decide (fittingL x &&& (untruthsL x (nI w) ^^^ (-1)) = 0)) (sNw (cS x)).toNatClampNeg
def clashFromX (x : KC) (n : Nat) : Nat → Nat → Int32
  | 0, _ => -9
  | d + 1, a => match firstN (fun b => decide (hfit x a &&& hfit x b = 0)) (n - (a + 1)) (a + 1) with
    | some b => 100 * nI a + nI b
    | none => clashFromX x n d (a + 1)
def clashX (x : KC) : Int32 := clashFromX x (sNh (cS x)).toNatClampNeg (sNh (cS x)).toNatClampNeg 0
def trueOfX (x : KC) (w : Int32) : Int32 := cntN (fun k => decide (sWhom (cS x) k = w) && decide (sSaid (cS x) k = if cisSoI x (sWhat (cS x) k) = 0 then 0 else 1)) (sNh (cS x)).toNatClampNeg
def talkerX (x : SS) : Int32 := (foldN (fun w (b : Int32 × Int32) => if b.2 < answersOfI x (nI w) then (nI w, answersOfI x (nI w)) else b) (sNw x).toNatClampNeg (-9, 0)).1
def hiddenBX (x : KC) (q : Int32) : Bool := allN (fun w => decide (replyI x (nI w) q (sAsked (cS x) + 1) (sCase (cS x)) = 2)) (sNw (cS x)).toNatClampNeg
def hiddenX (x : KC) : Int32 := setN (fun q => hiddenBX x (nI q)) (sNq (cS x)).toNatClampNeg
def sameStepX (x : KC) (a b : Nat) (r : Int32 × Int32) : Int32 × Int32 := if truthOfL x (nI a) = truthOfL x (nI b) then (r.1 + 1, if r.1 = 0 then 10 * nI a + nI b else r.2) else r
def sameRowX (x : KC) (a : Nat) : Nat → Nat → Int32 × Int32 → Int32 × Int32
  | 0, _, r => r
  | d + 1, b, r => sameRowX x a d (b + 1) (sameStepX x a b r)
def sameFromX (x : KC) (n : Nat) : Nat → Nat → Int32 × Int32 → Int32 × Int32
  | 0, _, r => r
  | d + 1, a, r => sameFromX x n d (a + 1) (sameRowX x a (n - (a + 1)) (a + 1) r)
def sameX (x : KC) (p : Int32) : Int32 := let r := sameFromX x (sNq (cS x)).toNatClampNeg (sNq (cS x)).toNatClampNeg 0 (0, -9); if p = 0 then r.1 else r.2
def impliesX (x : KC) (a b : Int32) : Int32 := b2i (decide (fittingL x &&& truthOfL x a &&& (truthOfL x b ^^^ (-1)) = 0))
def leftBehindX (x : KC) (l : Int64) (w a b : Int32) : Int32 := popc (l &&& keepingL x w a (sAsked (cS x) + 1) &&& keepingL x w b (sAsked (cS x) + 2))
def pairX (x : KC) (w a b : Int32) (i j : Int32) : Int32 := leftBehindX x (fittingL x) w (onwardI (cS x) a i) (onwardI (cS x) b j)
def twoX (x : KC) (w a b : Int32) : Int32 :=
  let P := pairX x w a b
  if P 1 0 ≤ P 0 0 ∧ P 0 0 ≤ P 0 1 then 0 else if P 1 1 ≤ P 0 1 ∧ P 0 1 ≤ P 0 0 then 1 else if P 0 0 ≤ P 1 0 ∧ P 1 0 ≤ P 1 1 then 10 else if P 0 1 ≤ P 1 1 ∧ P 1 1 ≤ P 1 0 then 11 else -9
def drawnX (x : KC) (w : Int32) (n : Nat) (f : Int64) (p : Int32) : Int64 := leastTermsL (waysN (keptX x w (fun _ => 0)) (sNq (cS x)).toNatClampNeg f n 0 (fittingL x)) (powI (sNq (cS x)) n) p
def meanX (x : KC) (p : Int32) : Int64 := leastTermsL (sumN (fun f => popc (fittingL x &&& factCasesL (nI f))) 6) (popc (fittingL x)) p
def verdictX (x : KC) (f p : Int32) : Int64 := leastTermsL (popc (juryFittingL x &&& factCasesL f)) (popc (juryFittingL x)) p
def rowBX (x : KC) (row : FI) (m w : Int32) : Bool := allN (fun q => decide (replyI x w (nI q) (sAsked (cS x) + 1) (sCase (cS x)) = row q)) m.toNatClampNeg
def kSetKind (x : KC) (w v : Int32) : KC := (sSetKind (cS x) (upd (sKind (cS x)) w.toNatClampNeg v), cNeeded x, cTruth x)
def kSetKnows (x : KC) (w v : Int32) : KC := (sSetKnows (cS x) (upd (sKnows (cS x)) w.toNatClampNeg v), cNeeded x, cTruth x)
def kindsX (x : KC) (row : FI) (m w : Int32) : Int32 := setN (fun v => rowBX (kSetKind x w (nI v)) row m w) 6
def knownX (x : KC) (row : FI) (m w : Int32) : Int32 := cntN (fun v => rowBX (kSetKnows x w (nI v)) row m w) 64
def wrongX (x : SS) (row : FI) (m : Int32) : Int32 := match firstN (fun k => decide (hasPI x (nI k) = 0) || !decide (sSaid x k = row k)) m.toNatClampNeg 0 with
  | some k => nI k
  | none => -9
def sessX (nw nq : Int32) : Nat → Int32 × Int32 × KC → Int32 × Int32 × KC
  | 0, a => a
  | n + 1, a => let b := sessX nw nq n a; let z1 := drawOnI b.1; let z2 := drawOnI z1; let v := askV (cS b.2.2) (drawBelowI z1 nw) (drawBelowI z2 nq); (z2, b.2.1 + b2i (decide (v = 1)), (askS (cS b.2.2) (drawBelowI z1 nw) (drawBelowI z2 nq), cNeeded b.2.2, cTruth b.2.2))
def lotsNX (x : KC) : Nat → Int32 × Int32 × Int32 → Int32 × Int32 × Int32
  | 0, a => a
  | n + 1, a => let b := lotsNX x n a; let r := sessX (sNw (cS x)) (sNq (cS x)) 6 (b.1, b.2.1, x); (r.1, r.2.1, b.2.2 + popc (fittingL r.2.2))
def lotsX (x : KC) (n z p : Int32) : Int32 := let r := lotsNX x n.toNatClampNeg (z, 0, 0); if p = 0 then r.2.1 else r.2.2
def countX (x : KC) (ref : FI) (rm tp p : Int32) : Int32 := if p < 11 ∨ 16 < p then (if p = 0 then sNq (cS x) else if p = 1 then sNw (cS x) else if p = 2 then sCase (cS x) else if p = 3 then sNh (cS x) else if p = 4 then sAsked (cS x) else if p = 5 then questionsSoI x else if p = 6 then rm else if p = 7 then tp else -9) else ref (p - 10).toNatClampNeg
def dropF (f : FI) : FI := fun k => if k < 11 then f (k + 1) else f k
