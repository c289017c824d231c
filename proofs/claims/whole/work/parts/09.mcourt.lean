abbrev C_X2_isFact (l : Launch) : Prop := ∀ (g : CX) (p0 : Int32), Met l yX2_isFact wsX2_isFact { frames := 0, cells := 0, slots := 0, locals := 0 } (va_Pc [.int p0] (RO g [])) (va_Qi (fun r (_ : Unit) => r = (isFactI p0)) (fun _ _ => True) A0) 0 0 A0
abbrev C_X2_isPart (l : Launch) : Prop := ∀ (g : CX) (p0 : Int32), Met l yX2_isPart wsX2_isPart { frames := 0, cells := 0, slots := 0, locals := 0 } (va_Pc [.int p0] (RO g [])) (va_Qi (fun r (_ : Unit) => r = (isPartI p0)) (fun _ _ => True) A0) 0 0 A0
abbrev C_X2_factCases (l : Launch) : Prop := ∀ (g : CX) (p0 : Int32), Met l yX2_factCases wsX2_factCases { frames := 1, cells := 0, slots := 0, locals := 20 } (va_Pc [.int p0] (RO g [])) (va_Ql (fun r (_ : Unit) => r = (factCasesL p0)) (fun _ _ => True) A0) 0 0 A0
abbrev C_X2_isIn (l : Launch) : Prop := ∀ (g : CX) (p0 : Int64) (p1 : Int32), Met l yX2_isIn wsX2_isIn { frames := 0, cells := 0, slots := 0, locals := 0 } (va_Pc [.long p0, .int p1] (RO g [])) (va_Qi (fun r (_ : Unit) => r = (isInI p0 p1)) (fun _ _ => True) A0) 0 0 A0
abbrev C_X2_isSure (l : Launch) : Prop := ∀ (g : CX) (p0 : Int64) (p1 : Int64), Met l yX2_isSure wsX2_isSure { frames := 0, cells := 0, slots := 0, locals := 0 } (va_Pc [.long p0, .long p1] (RO g [])) (va_Qi (fun r (_ : Unit) => r = (isSureI p0 p1)) (fun _ _ => True) A0) 0 0 A0
abbrev C_X0_hasQuestion (l : Launch) : Prop := ∀ (g : CX) (ad : Nat → Nat) (o : Nat) (σ : KC) (p0 : Int32), Met l yX0_hasQuestion wsX0_hasQuestion { frames := 0, cells := 0, slots := 0, locals := 0 } (va_Pc [.ref (ad o), .int p0] (RO g (wC g ad o σ))) (va_Qi (fun r (_ : Unit) => r = (hasQI (cS σ) p0)) (fun _ _ => True) A0) 0 0 A0
abbrev C_X0_hasWitness (l : Launch) : Prop := ∀ (g : CX) (ad : Nat → Nat) (o : Nat) (σ : KC) (p0 : Int32), Met l yX0_hasWitness wsX0_hasWitness { frames := 0, cells := 0, slots := 0, locals := 0 } (va_Pc [.ref (ad o), .int p0] (RO g (wC g ad o σ))) (va_Qi (fun r (_ : Unit) => r = (hasWI (cS σ) p0)) (fun _ _ => True) A0) 0 0 A0
abbrev C_X0_hasPlace (l : Launch) : Prop := ∀ (g : CX) (ad : Nat → Nat) (o : Nat) (σ : KC) (p0 : Int32), Met l yX0_hasPlace wsX0_hasPlace { frames := 0, cells := 0, slots := 0, locals := 0 } (va_Pc [.ref (ad o), .int p0] (RO g (wC g ad o σ))) (va_Qi (fun r (_ : Unit) => r = (hasPI (cS σ) p0)) (fun _ _ => True) A0) 0 0 A0
abbrev C_X0_canAsk (l : Launch) : Prop := ∀ (g : CX) (ad : Nat → Nat) (o : Nat) (σ : KC) (p0 : Int32) (p1 : Int32), Met l yX0_canAsk wsX0_canAsk { frames := 1, cells := 0, slots := 0, locals := 21 } (va_Pc [.ref (ad o), .int p0, .int p1] (RO g (wC g ad o σ))) (va_Qi (fun r (_ : Unit) => r = (canAskI (cS σ) p0 p1)) (fun _ _ => True) A0) 0 0 A0
abbrev C_X0_casesSo (l : Launch) : Prop := ∀ (g : CX) (p0 : Int32) (p1 : Int64) (p2 : Int64), Met l yX0_casesSo wsX0_casesSo { frames := 0, cells := 0, slots := 0, locals := 0 } (va_Pc [.int p0, .long p1, .long p2] (RO g [])) (va_Ql (fun r (_ : Unit) => r = (casesSoL p0 p1 p2)) (fun _ _ => True) A0) 0 0 A0
abbrev C_X0_truthOf (l : Launch) : Prop := ∀ (g : CX) (ad : Nat → Nat) (o : Nat) (σ : KC) (p0 : Int32), Met l yX0_truthOf wsX0_truthOf { frames := 1, cells := 0, slots := 0, locals := 21 } (va_Pc [.ref (ad o), .int p0] (RO g (wC g ad o σ))) (va_Ql (fun r (_ : Unit) => r = (truthOfL σ p0)) (fun _ _ => True) A0) 0 0 A0
abbrev C_X0_isSo (l : Launch) : Prop := ∀ (g : CX) (ad : Nat → Nat) (o : Nat) (σ : KC) (p0 : Int32), Met l yX0_isSo wsX0_isSo { frames := 2, cells := 0, slots := 0, locals := 42 } (va_Pc [.ref (ad o), .int p0] (RO g (wC g ad o σ))) (va_Qi (fun r (_ : Unit) => r = (cisSoI σ p0)) (fun _ _ => True) A0) 0 0 A0
abbrev C_X0_onward (l : Launch) : Prop := ∀ (g : CX) (ad : Nat → Nat) (o : Nat) (σ : KC) (p0 : Int32) (p1 : Int32), Met l yX0_onward wsX0_onward { frames := 0, cells := 0, slots := 0, locals := 0 } (va_Pc [.ref (ad o), .int p0, .int p1] (RO g (wC g ad o σ))) (va_Qi (fun r (_ : Unit) => r = (onwardI (cS σ) p0 p1)) (fun _ _ => True) A0) 0 0 A0
abbrev C_X0_plainYes (l : Launch) : Prop := ∀ (g : CX) (ad : Nat → Nat) (o : Nat) (σ : KC) (p0 : Int32) (p1 : Int32), (inW (cS σ) p0 ∧ inQ (cS σ) p1 ∧ okC σ) → Met l yX0_plainYes wsX0_plainYes { frames := 0, cells := 0, slots := 0, locals := 0 } (va_Pc [.ref (ad o), .int p0, .int p1] (RO g (wC g ad o σ))) (va_Ql (fun r (_ : Unit) => r = (plainYesL σ p0 p1)) (fun _ _ => True) A0) 0 0 A0
abbrev C_X0_plainNo (l : Launch) : Prop := ∀ (g : CX) (ad : Nat → Nat) (o : Nat) (σ : KC) (p0 : Int32) (p1 : Int32), (inW (cS σ) p0 ∧ inQ (cS σ) p1 ∧ okC σ) → Met l yX0_plainNo wsX0_plainNo { frames := 0, cells := 0, slots := 0, locals := 0 } (va_Pc [.ref (ad o), .int p0, .int p1] (RO g (wC g ad o σ))) (va_Ql (fun r (_ : Unit) => r = (plainNoL σ p0 p1)) (fun _ _ => True) A0) 0 0 A0
abbrev C_X0_forgets (l : Launch) : Prop := ∀ (g : CX) (ad : Nat → Nat) (o : Nat) (σ : KC) (p0 : Int32) (p1 : Int32), (inW (cS σ) p0 ∧ okC σ) → Met l yX0_forgets wsX0_forgets { frames := 0, cells := 0, slots := 0, locals := 0 } (va_Pc [.ref (ad o), .int p0, .int p1] (RO g (wC g ad o σ))) (va_Qi (fun r (_ : Unit) => r = (forgetsI (cS σ) p0 p1)) (fun _ _ => True) A0) 0 0 A0
abbrev C_X0_yes (l : Launch) : Prop := ∀ (g : CX) (ad : Nat → Nat) (o : Nat) (σ : KC) (p0 : Int32) (p1 : Int32) (p2 : Int32), (okC σ) → Met l yX0_yes wsX0_yes { frames := 1, cells := 0, slots := 0, locals := 23 } (va_Pc [.ref (ad o), .int p0, .int p1, .int p2] (RO g (wC g ad o σ))) (va_Ql (fun r (_ : Unit) => r = (yesL σ p0 p1 p2)) (fun _ _ => True) A0) 0 0 A0
abbrev C_X0_no (l : Launch) : Prop := ∀ (g : CX) (ad : Nat → Nat) (o : Nat) (σ : KC) (p0 : Int32) (p1 : Int32) (p2 : Int32), (okC σ) → Met l yX0_no wsX0_no { frames := 1, cells := 0, slots := 0, locals := 23 } (va_Pc [.ref (ad o), .int p0, .int p1, .int p2] (RO g (wC g ad o σ))) (va_Ql (fun r (_ : Unit) => r = (noL σ p0 p1 p2)) (fun _ _ => True) A0) 0 0 A0
abbrev C_X0_saying (l : Launch) : Prop := ∀ (g : CX) (ad : Nat → Nat) (o : Nat) (σ : KC) (p0 : Int32) (p1 : Int32) (p2 : Int32) (p3 : Int32), (okC σ) → Met l yX0_saying wsX0_saying { frames := 2, cells := 0, slots := 0, locals := 46 } (va_Pc [.ref (ad o), .int p0, .int p1, .int p2, .int p3] (RO g (wC g ad o σ))) (va_Ql (fun r (_ : Unit) => r = (sayingL σ p0 p1 p2 p3)) (fun _ _ => True) A0) 0 0 A0
abbrev C_X0_reply (l : Launch) : Prop := ∀ (g : CX) (ad : Nat → Nat) (o : Nat) (σ : KC) (p0 : Int32) (p1 : Int32) (p2 : Int32) (p3 : Int32), (okC σ) → Met l yX0_reply wsX0_reply { frames := 2, cells := 0, slots := 0, locals := 46 } (va_Pc [.ref (ad o), .int p0, .int p1, .int p2, .int p3] (RO g (wC g ad o σ))) (va_Qi (fun r (_ : Unit) => r = (replyI σ p0 p1 p2 p3)) (fun _ _ => True) A0) 0 0 A0
abbrev C_X0_keeping (l : Launch) : Prop := ∀ (g : CX) (ad : Nat → Nat) (o : Nat) (σ : KC) (p0 : Int32) (p1 : Int32) (p2 : Int32), (okC σ) → Met l yX0_keeping wsX0_keeping { frames := 3, cells := 0, slots := 0, locals := 70 } (va_Pc [.ref (ad o), .int p0, .int p1, .int p2] (RO g (wC g ad o σ))) (va_Ql (fun r (_ : Unit) => r = (keepingL σ p0 p1 p2)) (fun _ _ => True) A0) 0 0 A0
abbrev C_X0_questionsSaid (l : Launch) : Prop := ∀ (g : CX) (ad : Nat → Nat) (o : Nat) (σ : KC) (p0 : Int32) (p1 : Int32) (p2 : Int32), (okC σ) → Met l yX0_questionsSaid wsX0_questionsSaid { frames := 3, cells := 0, slots := 0, locals := 70 } (va_Pc [.ref (ad o), .int p0, .int p1, .int p2] (RO g (wC g ad o σ))) (va_Qi (fun r (_ : Unit) => r = (questionsSaidI σ p0 p1 p2)) (fun _ _ => True) A0) 0 0 A0
abbrev C_X0_questionsSo (l : Launch) : Prop := ∀ (g : CX) (ad : Nat → Nat) (o : Nat) (σ : KC) , (okC σ) → Met l yX0_questionsSo wsX0_questionsSo { frames := 3, cells := 0, slots := 0, locals := 63 } (va_Pc [.ref (ad o)] (RO g (wC g ad o σ))) (va_Qi (fun r (_ : Unit) => r = (questionsSoI σ)) (fun _ _ => True) A0) 0 0 A0
abbrev C_X0_heardFitting (l : Launch) : Prop := ∀ (g : CX) (ad : Nat → Nat) (o : Nat) (σ : KC) (p0 : Int32), (okC σ) → Met l yX0_heardFitting wsX0_heardFitting { frames := 3, cells := 0, slots := 0, locals := 70 } (va_Pc [.ref (ad o), .int p0] (RO g (wC g ad o σ))) (va_Ql (fun r (_ : Unit) => r = (heardFittingL σ p0)) (fun _ _ => True) A0) 0 0 A0
abbrev C_X0_fitting (l : Launch) : Prop := ∀ (g : CX) (ad : Nat → Nat) (o : Nat) (σ : KC) , (okC σ) → Met l yX0_fitting wsX0_fitting { frames := 4, cells := 0, slots := 0, locals := 91 } (va_Pc [.ref (ad o)] (RO g (wC g ad o σ))) (va_Ql (fun r (_ : Unit) => r = (fittingL σ)) (fun _ _ => True) A0) 0 0 A0
abbrev C_X0_juryFitting (l : Launch) : Prop := ∀ (g : CX) (ad : Nat → Nat) (o : Nat) (σ : KC) , (okC σ) → Met l yX0_juryFitting wsX0_juryFitting { frames := 3, cells := 0, slots := 0, locals := 70 } (va_Pc [.ref (ad o)] (RO g (wC g ad o σ))) (va_Ql (fun r (_ : Unit) => r = (juryFittingL σ)) (fun _ _ => True) A0) 0 0 A0
abbrev C_X0_untruths (l : Launch) : Prop := ∀ (g : CX) (ad : Nat → Nat) (o : Nat) (σ : KC) (p0 : Int32), (okC σ) → Met l yX0_untruths wsX0_untruths { frames := 2, cells := 0, slots := 0, locals := 42 } (va_Pc [.ref (ad o), .int p0] (RO g (wC g ad o σ))) (va_Ql (fun r (_ : Unit) => r = (untruthsL σ p0)) (fun _ _ => True) A0) 0 0 A0
abbrev C_X0_answersOf (l : Launch) : Prop := ∀ (g : CX) (ad : Nat → Nat) (o : Nat) (σ : KC) (p0 : Int32), (okC σ) → Met l yX0_answersOf wsX0_answersOf { frames := 0, cells := 0, slots := 0, locals := 0 } (va_Pc [.ref (ad o), .int p0] (RO g (wC g ad o σ))) (va_Qi (fun r (_ : Unit) => r = (answersOfI (cS σ) p0)) (fun _ _ => True) A0) 0 0 A0
def vc_X2_isFact (p0 : Int32) (Post : Int32 → Prop) : Prop :=
  (((p0 < 0) → (Post 0)) ∧ ((¬ (p0 < 0)) → (((6 ≤ p0) → (Post 0)) ∧ ((¬ (6 ≤ p0)) → (Post 1)))))

def vc_X2_isPart (p0 : Int32) (Post : Int32 → Prop) : Prop :=
  (((p0 = 0) → (Post 1)) ∧ ((¬ (p0 = 0)) → (((¬ p0 = 1) → (Post 0)) ∧ ((p0 = 1) → (Post 1)))))

def vc_X2_factCases (p0 : Int32) (Post : Int64 → Prop) : Prop :=
  ((((isFactI p0) = 0) → (Post 0)) ∧ ((¬ ((isFactI p0) = 0)) → ((vp_in p0 6) ∧ (Post (fcT (p0).toNatClampNeg)))))

def vc_X2_isIn (p0 : Int64) (p1 : Int32) (Post : Int32 → Prop) : Prop :=
  ((((lg_cmp ((lushr p0 p1) &&& 1) 0) = 0) → (Post 0)) ∧ ((¬ ((lg_cmp ((lushr p0 p1) &&& 1) 0) = 0)) → (Post 1)))

def vc_X2_isSure (p0 : Int64) (p1 : Int64) (Post : Int32 → Prop) : Prop :=
  ((((lg_cmp p0 0) = 0) → (Post 0)) ∧ ((¬ ((lg_cmp p0 0) = 0)) → ((((lg_cmp (p0 &&& p1) 0) = 0) → (Post 1)) ∧ ((¬ ((lg_cmp (p0 &&& p1) 0) = 0)) → (((¬ (lg_cmp (p0 &&& p1) p0) = 0) → (Post 0)) ∧ (((lg_cmp (p0 &&& p1) p0) = 0) → (Post 1)))))))

def vc_X0_hasQuestion (σ : KC) (p0 : Int32) (Post : Int32 → Prop) : Prop :=
  (((p0 < 0) → (Post 0)) ∧ ((¬ (p0 < 0)) → ((((sNq (cS σ)) ≤ p0) → (Post 0)) ∧ ((¬ ((sNq (cS σ)) ≤ p0)) → (((8 ≤ p0) → (Post 0)) ∧ ((¬ (8 ≤ p0)) → (Post 1)))))))

def vc_X0_hasWitness (σ : KC) (p0 : Int32) (Post : Int32 → Prop) : Prop :=
  (((p0 < 0) → (Post 0)) ∧ ((¬ (p0 < 0)) → ((((sNw (cS σ)) ≤ p0) → (Post 0)) ∧ ((¬ ((sNw (cS σ)) ≤ p0)) → (((5 ≤ p0) → (Post 0)) ∧ ((¬ (5 ≤ p0)) → (Post 1)))))))

def vc_X0_hasPlace (σ : KC) (p0 : Int32) (Post : Int32 → Prop) : Prop :=
  (((p0 < 0) → (Post 0)) ∧ ((¬ (p0 < 0)) → ((((sNh (cS σ)) ≤ p0) → (Post 0)) ∧ ((¬ ((sNh (cS σ)) ≤ p0)) → (((12 ≤ p0) → (Post 0)) ∧ ((¬ (12 ≤ p0)) → (Post 1)))))))

def vc_X0_canAsk (σ : KC) (p0 : Int32) (p1 : Int32) (Post : Int32 → Prop) : Prop :=
  ((((hasWI (cS σ) p0) = 0) → (Post 0)) ∧ ((¬ ((hasWI (cS σ) p0) = 0)) → ((((hasQI (cS σ) p1) = 0) → (Post 0)) ∧ ((¬ ((hasQI (cS σ) p1) = 0)) → (((999 ≤ (sAsked (cS σ))) → (Post 0)) ∧ ((¬ (999 ≤ (sAsked (cS σ)))) → (Post 1)))))))

def vc_X0_casesSo (p0 : Int32) (p1 : Int64) (p2 : Int64) (Post : Int64 → Prop) : Prop :=
  (((p0 = 0) → (Post p1)) ∧ ((¬ p0 = 0) → (((p0 = 1) → (Post (p1 ^^^ (-1)))) ∧ ((¬ p0 = 1) → (((p0 = 2) → (Post (p1 &&& p2))) ∧ ((¬ p0 = 2) → (((p0 = 3) → (Post (p1 ||| p2))) ∧ ((¬ p0 = 3) → (Post ((p1 ^^^ p2) ^^^ (-1)))))))))))

def vc_X0_truthOf (σ : KC) (p0 : Int32) (Post : Int64 → Prop) : Prop :=
  ((((hasQI (cS σ) p0) = 0) → (Post 0)) ∧ ((¬ ((hasQI (cS σ) p0) = 0)) → ((vp_in p0 8) ∧ (Post ((cTruth σ) (p0).toNatClampNeg)))))

def vc_X0_isSo (σ : KC) (p0 : Int32) (Post : Int32 → Prop) : Prop :=
  ((narrow .boolean (.int (isInI (truthOfL σ p0) (sCase (cS σ)))) = .int (isInI (truthOfL σ p0) (sCase (cS σ)))) ∧ (Post (isInI (truthOfL σ p0) (sCase (cS σ)))))

def vc_X0_onward (σ : KC) (p0 : Int32) (p1 : Int32) (Post : Int32 → Prop) : Prop :=
  ((((sNq (cS σ)) ≤ 0) → (Post p0)) ∧ ((¬ ((sNq (cS σ)) ≤ 0)) → ((¬ (sNq (cS σ)) = 0) ∧ (Post ((p0 + p1) - (p0 + p1) / (sNq (cS σ)) * (sNq (cS σ)))))))

def vc_X0_plainYes (σ : KC) (p0 : Int32) (p1 : Int32) (Post : Int64 → Prop) : Prop :=
  ((vp_in p1 8) ∧ ((vp_in p0 5) ∧ (((¬ (((cNeeded σ) (p1).toNatClampNeg) &&& (((sKnows (cS σ)) (p0).toNatClampNeg) ^^^ (-1))) = 0) → (Post 0)) ∧ (((((cNeeded σ) (p1).toNatClampNeg) &&& (((sKnows (cS σ)) (p0).toNatClampNeg) ^^^ (-1))) = 0) → ((vp_in p1 8) ∧ (Post ((cTruth σ) (p1).toNatClampNeg)))))))

def vc_X0_plainNo (σ : KC) (p0 : Int32) (p1 : Int32) (Post : Int64 → Prop) : Prop :=
  ((vp_in p1 8) ∧ ((vp_in p0 5) ∧ (((¬ (((cNeeded σ) (p1).toNatClampNeg) &&& (((sKnows (cS σ)) (p0).toNatClampNeg) ^^^ (-1))) = 0) → (Post 0)) ∧ (((((cNeeded σ) (p1).toNatClampNeg) &&& (((sKnows (cS σ)) (p0).toNatClampNeg) ^^^ (-1))) = 0) → ((vp_in p1 8) ∧ (Post (((cTruth σ) (p1).toNatClampNeg) ^^^ (-1))))))))

def vc_X0_forgets (σ : KC) (p0 : Int32) (p1 : Int32) (Post : Int32 → Prop) : Prop :=
  ((vp_in p0 5) ∧ ((((((sFigure (cS σ)) (p0).toNatClampNeg) + 1) ≤ 0) → (Post 0)) ∧ ((¬ ((((sFigure (cS σ)) (p0).toNatClampNeg) + 1) ≤ 0)) → ((¬ (((sFigure (cS σ)) (p0).toNatClampNeg) + 1) = 0) ∧ (((¬ (p1 - p1 / (((sFigure (cS σ)) (p0).toNatClampNeg) + 1) * (((sFigure (cS σ)) (p0).toNatClampNeg) + 1)) = 0) → (Post 0)) ∧ (((p1 - p1 / (((sFigure (cS σ)) (p0).toNatClampNeg) + 1) * (((sFigure (cS σ)) (p0).toNatClampNeg) + 1)) = 0) → (Post 1)))))))

def vc_X0_yes (σ : KC) (p0 : Int32) (p1 : Int32) (p2 : Int32) (Post : Int64 → Prop) : Prop :=
  ((((hasWI (cS σ) p0) = 0) → (Post 0)) ∧ ((¬ ((hasWI (cS σ) p0) = 0)) → (((¬ (hasQI (cS σ) p1) = 0) → ((vp_in p0 5) ∧ (((((sKind (cS σ)) (p0).toNatClampNeg) = 1) → ((inW (cS σ) p0 ∧ inQ (cS σ) p1 ∧ okC σ) ∧ (Post (plainNoL σ p0 p1)))) ∧ ((¬ ((sKind (cS σ)) (p0).toNatClampNeg) = 1) → (((((sKind (cS σ)) (p0).toNatClampNeg) = 3) → ((inW (cS σ) p0 ∧ okC σ) ∧ ((((forgetsI (cS σ) p0 p2) = 0) → ((inW (cS σ) p0 ∧ inQ (cS σ) p1 ∧ okC σ) ∧ (Post (plainYesL σ p0 p1)))) ∧ ((¬ ((forgetsI (cS σ) p0 p2) = 0)) → (Post 0))))) ∧ ((¬ ((sKind (cS σ)) (p0).toNatClampNeg) = 3) → (((((sKind (cS σ)) (p0).toNatClampNeg) = 4) → ((inW (cS σ) p0 ∧ inQ (cS σ) (onwardI (cS σ) p1 (1 : Int32)) ∧ okC σ) ∧ (Post (plainYesL σ p0 (onwardI (cS σ) p1 (1 : Int32)))))) ∧ ((¬ ((sKind (cS σ)) (p0).toNatClampNeg) = 4) → (((((sKind (cS σ)) (p0).toNatClampNeg) = 5) → (Post (-1))) ∧ ((¬ ((sKind (cS σ)) (p0).toNatClampNeg) = 5) → ((inW (cS σ) p0 ∧ inQ (cS σ) p1 ∧ okC σ) ∧ (Post (plainYesL σ p0 p1))))))))))))) ∧ (((hasQI (cS σ) p1) = 0) → (Post 0)))))

def vc_X0_no (σ : KC) (p0 : Int32) (p1 : Int32) (p2 : Int32) (Post : Int64 → Prop) : Prop :=
  ((((hasWI (cS σ) p0) = 0) → (Post 0)) ∧ ((¬ ((hasWI (cS σ) p0) = 0)) → (((¬ (hasQI (cS σ) p1) = 0) → ((vp_in p0 5) ∧ (((((sKind (cS σ)) (p0).toNatClampNeg) = 1) → ((inW (cS σ) p0 ∧ inQ (cS σ) p1 ∧ okC σ) ∧ (Post (plainYesL σ p0 p1)))) ∧ ((¬ ((sKind (cS σ)) (p0).toNatClampNeg) = 1) → (((((sKind (cS σ)) (p0).toNatClampNeg) = 2) → (Post 0)) ∧ ((¬ ((sKind (cS σ)) (p0).toNatClampNeg) = 2) → (((((sKind (cS σ)) (p0).toNatClampNeg) = 3) → ((inW (cS σ) p0 ∧ okC σ) ∧ ((((forgetsI (cS σ) p0 p2) = 0) → ((inW (cS σ) p0 ∧ inQ (cS σ) p1 ∧ okC σ) ∧ (Post (plainNoL σ p0 p1)))) ∧ ((¬ ((forgetsI (cS σ) p0 p2) = 0)) → (Post 0))))) ∧ ((¬ ((sKind (cS σ)) (p0).toNatClampNeg) = 3) → (((((sKind (cS σ)) (p0).toNatClampNeg) = 4) → ((inW (cS σ) p0 ∧ inQ (cS σ) (onwardI (cS σ) p1 (1 : Int32)) ∧ okC σ) ∧ (Post (plainNoL σ p0 (onwardI (cS σ) p1 (1 : Int32)))))) ∧ ((¬ ((sKind (cS σ)) (p0).toNatClampNeg) = 4) → (((((sKind (cS σ)) (p0).toNatClampNeg) = 5) → (Post 0)) ∧ ((¬ ((sKind (cS σ)) (p0).toNatClampNeg) = 5) → ((inW (cS σ) p0 ∧ inQ (cS σ) p1 ∧ okC σ) ∧ (Post (plainNoL σ p0 p1))))))))))))))) ∧ (((hasQI (cS σ) p1) = 0) → (Post 0)))))

def vc_X0_saying (σ : KC) (p0 : Int32) (p1 : Int32) (p2 : Int32) (p3 : Int32) (Post : Int64 → Prop) : Prop :=
  (((p3 = 0) → ((okC σ) ∧ (Post (noL σ p0 p1 p2)))) ∧ ((¬ p3 = 0) → (((p3 = 1) → ((okC σ) ∧ (Post (yesL σ p0 p1 p2)))) ∧ ((¬ p3 = 1) → ((okC σ) ∧ ((okC σ) ∧ (Post (((yesL σ p0 p1 p2) ||| (noL σ p0 p1 p2)) ^^^ (-1)))))))))

def vc_X0_reply (σ : KC) (p0 : Int32) (p1 : Int32) (p2 : Int32) (p3 : Int32) (Post : Int32 → Prop) : Prop :=
  ((okC σ) ∧ ((((isInI (yesL σ p0 p1 p2) p3) = 0) → ((okC σ) ∧ ((((isInI (noL σ p0 p1 p2) p3) = 0) → (Post 2)) ∧ ((¬ ((isInI (noL σ p0 p1 p2) p3) = 0)) → (Post 0))))) ∧ ((¬ ((isInI (yesL σ p0 p1 p2) p3) = 0)) → (Post 1))))

def vc_X0_keeping (σ : KC) (p0 : Int32) (p1 : Int32) (p2 : Int32) (Post : Int64 → Prop) : Prop :=
  ((okC σ) ∧ ((okC σ) ∧ (Post (sayingL σ p0 p1 p2 (replyI σ p0 p1 p2 (sCase (cS σ)))))))

def vc_X0_questionsSaid (σ : KC) (p0 : Int32) (p1 : Int32) (p2 : Int32) (Post : Int32 → Prop) : Prop :=
  ∀ (T6 : Int32 → Int32 → Prop) ,
  (∀ (x4 : Int32) (x5 : Int32), ((((sNq (cS σ)) ≤ x5) → (Post x4)) ∧ ((¬ ((sNq (cS σ)) ≤ x5)) → ((okC σ) ∧ (((¬ (replyI σ p0 x5 p1 (sCase (cS σ))) = p2) → (T6 x4 (x5 + 1))) ∧ (((replyI σ p0 x5 p1 (sCase (cS σ))) = p2) → (T6 (x4 + 1) (x5 + 1))))))) → T6 x4 x5) →
  (T6 0 0)

def vc_X0_questionsSo (σ : KC)  (Post : Int32 → Prop) : Prop :=
  ∀ (T4 : Int32 → Int32 → Prop) ,
  (∀ (x1 : Int32) (x2 : Int32), ((((sNq (cS σ)) ≤ x2) → (Post x1)) ∧ ((¬ ((sNq (cS σ)) ≤ x2)) → ((((cisSoI σ x2) = 0) → (T4 x1 (x2 + 1))) ∧ ((¬ ((cisSoI σ x2) = 0)) → (T4 (x1 ||| (1 <<< (x2 &&& 31))) (x2 + 1)))))) → T4 x1 x2) →
  (T4 0 0)

def vc_X0_heardFitting (σ : KC) (p0 : Int32) (Post : Int64 → Prop) : Prop :=
  (((¬ (hasPI (cS σ) p0) = 0) → ((vp_in p0 12) ∧ ((vp_in p0 12) ∧ ((vp_in p0 12) ∧ ((vp_in p0 12) ∧ ((okC σ) ∧ (Post (sayingL σ ((sWhom (cS σ)) (p0).toNatClampNeg) ((sWhat (cS σ)) (p0).toNatClampNeg) ((sWhen (cS σ)) (p0).toNatClampNeg) ((sSaid (cS σ)) (p0).toNatClampNeg))))))))) ∧ (((hasPI (cS σ) p0) = 0) → (Post (-1))))

def vc_X0_fitting (σ : KC)  (Post : Int64 → Prop) : Prop :=
  ∀ (T6 : Int64 → Int32 → Prop) ,
  (∀ (x1 : Int64) (x3 : Int32), ((((sNh (cS σ)) ≤ x3) → (Post x1)) ∧ ((¬ ((sNh (cS σ)) ≤ x3)) → ((okC σ) ∧ (T6 (x1 &&& (heardFittingL σ x3)) (x3 + 1))))) → T6 x1 x3) →
  (T6 (-1) 0)

def vc_X0_juryFitting (σ : KC)  (Post : Int64 → Prop) : Prop :=
  ∀ (T6 : Int64 → Int32 → Prop) (T20 : Int64 → Int32 → Int64 → Int32 → Prop) ,
  (∀ (x1 : Int64) (x3 : Int32), ((((sNh (cS σ)) ≤ x3) → (Post x1)) ∧ ((¬ ((sNh (cS σ)) ≤ x3)) → (T20 x1 x3 0 0))) → T6 x1 x3) →
  (∀ (x1 : Int64) (x3 : Int32) (x4 : Int64) (x6 : Int32), ((((sNq (cS σ)) ≤ x6) → (T6 (x1 &&& x4) (x3 + 1))) ∧ ((¬ ((sNq (cS σ)) ≤ x6)) → ((vp_in x3 12) ∧ ((vp_in x3 12) ∧ ((vp_in x3 12) ∧ ((okC σ) ∧ (T20 x1 x3 (x4 ||| (sayingL σ ((sWhom (cS σ)) (x3).toNatClampNeg) x6 ((sWhen (cS σ)) (x3).toNatClampNeg) ((sSaid (cS σ)) (x3).toNatClampNeg))) (x6 + 1)))))))) → T20 x1 x3 x4 x6) →
  (T6 (-1) 0)

def vc_X0_untruths (σ : KC) (p0 : Int32) (Post : Int64 → Prop) : Prop :=
  ∀ (T5 : Int64 → Int32 → Prop) ,
  (∀ (x2 : Int64) (x4 : Int32), ((((sNh (cS σ)) ≤ x4) → (Post x2)) ∧ ((¬ ((sNh (cS σ)) ≤ x4)) → ((vp_in x4 12) ∧ ((vp_in x4 12) ∧ (((¬ ((sWhom (cS σ)) (x4).toNatClampNeg) = p0) → (T5 x2 (x4 + 1))) ∧ ((((sWhom (cS σ)) (x4).toNatClampNeg) = p0) → (((((sSaid (cS σ)) (x4).toNatClampNeg) = 2) → (T5 x2 (x4 + 1))) ∧ ((¬ (((sSaid (cS σ)) (x4).toNatClampNeg) = 2)) → ((vp_in x4 12) ∧ (((¬ ((sSaid (cS σ)) (x4).toNatClampNeg) = 1) → (T5 (x2 ||| (truthOfL σ ((sWhat (cS σ)) (x4).toNatClampNeg))) (x4 + 1))) ∧ ((((sSaid (cS σ)) (x4).toNatClampNeg) = 1) → (T5 (x2 ||| ((truthOfL σ ((sWhat (cS σ)) (x4).toNatClampNeg)) ^^^ (-1))) (x4 + 1))))))))))))) → T5 x2 x4) →
  (T5 0 0)

def vc_X0_answersOf (σ : KC) (p0 : Int32) (Post : Int32 → Prop) : Prop :=
  ∀ (T4 : Int32 → Int32 → Prop) ,
  (∀ (x2 : Int32) (x3 : Int32), ((((sNh (cS σ)) ≤ x3) → (Post x2)) ∧ ((¬ ((sNh (cS σ)) ≤ x3)) → ((vp_in x3 12) ∧ (((¬ ((sWhom (cS σ)) (x3).toNatClampNeg) = p0) → (T4 x2 (x3 + 1))) ∧ ((((sWhom (cS σ)) (x3).toNatClampNeg) = p0) → ((vp_in x3 12) ∧ (((((sSaid (cS σ)) (x3).toNatClampNeg) = 2) → (T4 x2 (x3 + 1))) ∧ ((¬ (((sSaid (cS σ)) (x3).toNatClampNeg) = 2)) → (T4 (x2 + 1) (x3 + 1)))))))))) → T4 x2 x3) →
  (T4 0 0)

set_option maxHeartbeats 4000000 in
set_option maxRecDepth 100000 in
theorem m_X2_isFact (l : Launch)  (g : CX) (p0 : Int32) (Post : Int32 → Prop) (hv : vc_X2_isFact p0 Post) : Met l yX2_isFact wsX2_isFact { frames := 0, cells := 0, slots := 0, locals := 0 } (va_Pc [.int p0] (RO g [])) (va_Qi (fun r (_ : Unit) => Post r) (fun _ _ => True) A0) 0 0 A0 := by
  unfold vc_X2_isFact at hv
  refine Met.ofW (cc := cX2_isFact) (maxL := 1) (ret := (some .boolean)) (by decide) rfl ?_
  intro p e s m args below meth c s₁ B hml hv0
  obtain ⟨rfl, hP, hK, hE⟩ := hv0
  have hx := B.exec
  have hb := B.bytes
  have hr := B.returns
  have hts := atoms_spec (ws := wsX2_isFact) B.pre
  have hown : s.vm.findClass RX2 = some m.cls := findClass_of_methodNamed B.named
  have hlocks := B.notSynchronized
  have hS : va_S A0 s.heap s.heap [] := va_S.rf
  have hP : va_P (gD g) vwCl ([]) s.heap := hP
  have hl := lv_entry ([.int p0]) (n := 1) (Nat.le_of_ble_eq_true rfl)
  rw [lg_entry_eq]
  generalize (lg_sl ([.int p0]) ++ List.replicate (1 - (lg_sl ([.int p0])).length) Slot.unset).toArray = ls at hl ⊢
  have hl : lv_has ls 1 [(0, .int p0)] := hl
  obtain ⟨H, hH⟩ : ∃ z, z = s.heap := ⟨_, rfl⟩
  obtain ⟨locs, hL⟩ : ∃ z : List Loc, z = [] := ⟨_, rfl⟩
  rw [← hL] at hS ⊢
  have hS : va_S A0 s.heap H locs := by rw [hH]; exact hS
  rw [← hH] at hP ⊢
  clear hH hL
  refine lv_iload_n hx hb dX2_isFact_0 rfl (lv_at hl 0 rfl) ?_
  refine lv_if_lt (tgt := 14) hx hb dX2_isFact_1 (by decide) (fun c1 => ?_) (fun c1 => ?_)
  · have hv := hv.1 c1
    refine lv_iconst (v := 0) hx hb dX2_isFact_14 (by decide) ?_
    exact W.zret (v := 0) hx hb hr rfl (fun t ht hW => ⟨⟨0, (), rfl, hv, trivial⟩, hS.F ht⟩) hS.2.2 dX2_isFact_15
  · have hv := hv.2 c1
    refine lv_iload_n hx hb dX2_isFact_4 rfl (lv_at hl 0 rfl) ?_
    refine lv_bipush (v := 6) hx hb dX2_isFact_5 (by decide) ?_
    refine lv_icmp_ge (tgt := 14) hx hb dX2_isFact_7 (by decide) (fun c7 => ?_) (fun c7 => ?_)
    · have hv := hv.1 c7
      refine lv_iconst (v := 0) hx hb dX2_isFact_14 (by decide) ?_
      exact W.zret (v := 0) hx hb hr rfl (fun t ht hW => ⟨⟨0, (), rfl, hv, trivial⟩, hS.F ht⟩) hS.2.2 dX2_isFact_15
    · have hv := hv.2 c7
      refine lv_iconst (v := 1) hx hb dX2_isFact_10 (by decide) ?_
      refine lv_goto (tgt := 15) hx hb dX2_isFact_11 (by decide) ?_
      exact W.zret (v := 1) hx hb hr rfl (fun t ht hW => ⟨⟨1, (), rfl, hv, trivial⟩, hS.F ht⟩) hS.2.2 dX2_isFact_15

set_option maxHeartbeats 4000000 in
set_option maxRecDepth 100000 in
theorem m_X2_isPart (l : Launch)  (g : CX) (p0 : Int32) (Post : Int32 → Prop) (hv : vc_X2_isPart p0 Post) : Met l yX2_isPart wsX2_isPart { frames := 0, cells := 0, slots := 0, locals := 0 } (va_Pc [.int p0] (RO g [])) (va_Qi (fun r (_ : Unit) => Post r) (fun _ _ => True) A0) 0 0 A0 := by
  unfold vc_X2_isPart at hv
  refine Met.ofW (cc := cX2_isPart) (maxL := 1) (ret := (some .boolean)) (by decide) rfl ?_
  intro p e s m args below meth c s₁ B hml hv0
  obtain ⟨rfl, hP, hK, hE⟩ := hv0
  have hx := B.exec
  have hb := B.bytes
  have hr := B.returns
  have hts := atoms_spec (ws := wsX2_isPart) B.pre
  have hown : s.vm.findClass RX2 = some m.cls := findClass_of_methodNamed B.named
  have hlocks := B.notSynchronized
  have hS : va_S A0 s.heap s.heap [] := va_S.rf
  have hP : va_P (gD g) vwCl ([]) s.heap := hP
  have hl := lv_entry ([.int p0]) (n := 1) (Nat.le_of_ble_eq_true rfl)
  rw [lg_entry_eq]
  generalize (lg_sl ([.int p0]) ++ List.replicate (1 - (lg_sl ([.int p0])).length) Slot.unset).toArray = ls at hl ⊢
  have hl : lv_has ls 1 [(0, .int p0)] := hl
  obtain ⟨H, hH⟩ : ∃ z, z = s.heap := ⟨_, rfl⟩
  obtain ⟨locs, hL⟩ : ∃ z : List Loc, z = [] := ⟨_, rfl⟩
  rw [← hL] at hS ⊢
  have hS : va_S A0 s.heap H locs := by rw [hH]; exact hS
  rw [← hH] at hP ⊢
  clear hH hL
  refine lv_iload_n hx hb dX2_isPart_0 rfl (lv_at hl 0 rfl) ?_
  refine lv_if_eq (tgt := 9) hx hb dX2_isPart_1 (by decide) (fun c1 => ?_) (fun c1 => ?_)
  · have hv := hv.1 c1
    refine lv_iconst (v := 1) hx hb dX2_isPart_9 (by decide) ?_
    refine lv_goto (tgt := 14) hx hb dX2_isPart_10 (by decide) ?_
    exact W.zret (v := 1) hx hb hr rfl (fun t ht hW => ⟨⟨1, (), rfl, hv, trivial⟩, hS.F ht⟩) hS.2.2 dX2_isPart_14
  · have hv := hv.2 c1
    refine lv_iload_n hx hb dX2_isPart_4 rfl (lv_at hl 0 rfl) ?_
    refine lv_iconst (v := 1) hx hb dX2_isPart_5 (by decide) ?_
    refine lv_icmp_ne (tgt := 13) hx hb dX2_isPart_6 (by decide) (fun c6 => ?_) (fun c6 => ?_)
    · have hv := hv.1 c6
      refine lv_iconst (v := 0) hx hb dX2_isPart_13 (by decide) ?_
      exact W.zret (v := 0) hx hb hr rfl (fun t ht hW => ⟨⟨0, (), rfl, hv, trivial⟩, hS.F ht⟩) hS.2.2 dX2_isPart_14
    · have hv := hv.2 c6
      refine lv_iconst (v := 1) hx hb dX2_isPart_9 (by decide) ?_
      refine lv_goto (tgt := 14) hx hb dX2_isPart_10 (by decide) ?_
      exact W.zret (v := 1) hx hb hr rfl (fun t ht hW => ⟨⟨1, (), rfl, hv, trivial⟩, hS.F ht⟩) hS.2.2 dX2_isPart_14

set_option maxHeartbeats 4000000 in
set_option maxRecDepth 100000 in
theorem m_X2_factCases (l : Launch) (h_X2_isFact : C_X2_isFact l) (g : CX) (p0 : Int32) (Post : Int64 → Prop) (hv : vc_X2_factCases p0 Post) : Met l yX2_factCases wsX2_factCases { frames := 1, cells := 0, slots := 0, locals := 20 } (va_Pc [.int p0] (RO g [])) (va_Ql (fun r (_ : Unit) => Post r) (fun _ _ => True) A0) 0 0 A0 := by
  unfold vc_X2_factCases at hv
  refine Met.ofW (cc := cX2_factCases) (maxL := 1) (ret := (some .long)) (by decide) rfl ?_
  intro p e s m args below meth c s₁ B hml hv0
  obtain ⟨rfl, hP, hK, hE⟩ := hv0
  have hx := B.exec
  have hb := B.bytes
  have hr := B.returns
  have hts := atoms_spec (ws := wsX2_factCases) B.pre
  have hown : s.vm.findClass RX2 = some m.cls := findClass_of_methodNamed B.named
  have hlocks := B.notSynchronized
  have k0 := hts (.fieldLink RX2 230 "JuryHearsAnswers" "FACT_CASES" "[J") (by decide +kernel)
  have hS : va_S A0 s.heap s.heap [] := va_S.rf
  have hP : va_P (gD g) vwCl ([]) s.heap := hP
  have hl := lv_entry ([.int p0]) (n := 1) (Nat.le_of_ble_eq_true rfl)
  rw [lg_entry_eq]
  generalize (lg_sl ([.int p0]) ++ List.replicate (1 - (lg_sl ([.int p0])).length) Slot.unset).toArray = ls at hl ⊢
  have hl : lv_has ls 1 [(0, .int p0)] := hl
  obtain ⟨H, hH⟩ : ∃ z, z = s.heap := ⟨_, rfl⟩
  obtain ⟨locs, hL⟩ : ∃ z : List Loc, z = [] := ⟨_, rfl⟩
  rw [← hL] at hS ⊢
  have hS : va_S A0 s.heap H locs := by rw [hH]; exact hS
  rw [← hH] at hP ⊢
  clear hH hL
  refine lv_iload_n hx hb dX2_factCases_0 rfl (lv_at hl 0 rfl) ?_
  have hPc : va_P (gD g) vwCl [] H := fun k q h => by simp at h
  refine ro_int (va_runS (As := [.int p0]) (rest := []) ⟨hx, hb, hml, hown, hts⟩ (h_X2_isFact g p0) (va_cwS 1 hts gX2_factCases_X2_isFact rfl rfl rfl (by decide +kernel) ⟨Nat.le_of_ble_eq_true rfl, Nat.le_of_ble_eq_true rfl⟩) ⟨RO_blind, fun U hU hW => ⟨rfl, by rw [hU]; exact hPc, va_K.moved hW.alike hK, hE.call hW hU hS (fun _ h => h.elim)⟩⟩ rfl rfl hl.1 rfl (lv_room (Nat.le_of_ble_eq_true rfl)) dX2_factCases_1 ⟨Nat.le_of_ble_eq_true rfl, Nat.le_of_ble_eq_true rfl⟩) hS hP (fun r H locs hw hP hS => ?_)
  subst r
  refine lv_if_eq (tgt := 15) hx hb dX2_factCases_4 (by decide) (fun c4 => ?_) (fun c4 => ?_)
  · have hv := hv.1 c4
    refine lv_lconst (v := 0) hx hb dX2_factCases_15 (by decide) ?_
    exact W.lret (v := 0) hx hb hr (fun t ht hW => ⟨⟨0, (), rfl, hv, trivial⟩, hS.F ht⟩) hS.2.2 dX2_factCases_16
  · have hv := hv.2 c4
    refine va_gets hx hb hE.2.1.1 hS hown k0 (fun _ h9 => h9) dX2_factCases_7 ?_
    refine lv_iload_n hx hb dX2_factCases_10 rfl (lv_at hl 0 rfl) ?_
    have h9 := hv.1
    have hv := hv.2
    refine va_tl hx hb hE.2.1.2 hS h9 rfl dX2_factCases_11 ?_
    refine lv_goto (tgt := 16) hx hb dX2_factCases_12 (by decide) ?_
    exact W.lret (v := (fcT (p0).toNatClampNeg)) hx hb hr (fun t ht hW => ⟨⟨(fcT (p0).toNatClampNeg), (), rfl, hv, trivial⟩, hS.F ht⟩) hS.2.2 dX2_factCases_16

set_option maxHeartbeats 4000000 in
set_option maxRecDepth 100000 in
theorem m_X2_isIn (l : Launch)  (g : CX) (p0 : Int64) (p1 : Int32) (Post : Int32 → Prop) (hv : vc_X2_isIn p0 p1 Post) : Met l yX2_isIn wsX2_isIn { frames := 0, cells := 0, slots := 0, locals := 0 } (va_Pc [.long p0, .int p1] (RO g [])) (va_Qi (fun r (_ : Unit) => Post r) (fun _ _ => True) A0) 0 0 A0 := by
  unfold vc_X2_isIn at hv
  refine Met.ofW (cc := cX2_isIn) (maxL := 3) (ret := (some .boolean)) (by decide) rfl ?_
  intro p e s m args below meth c s₁ B hml hv0
  obtain ⟨rfl, hP, hK, hE⟩ := hv0
  have hx := B.exec
  have hb := B.bytes
  have hr := B.returns
  have hts := atoms_spec (ws := wsX2_isIn) B.pre
  have hown : s.vm.findClass RX2 = some m.cls := findClass_of_methodNamed B.named
  have hlocks := B.notSynchronized
  have hS : va_S A0 s.heap s.heap [] := va_S.rf
  have hP : va_P (gD g) vwCl ([]) s.heap := hP
  have hl := lv_entry ([.long p0, .int p1]) (n := 3) (Nat.le_of_ble_eq_true rfl)
  rw [lg_entry_eq]
  generalize (lg_sl ([.long p0, .int p1]) ++ List.replicate (3 - (lg_sl ([.long p0, .int p1])).length) Slot.unset).toArray = ls at hl ⊢
  have hl : lv_has ls 3 [(0, .long p0), (2, .int p1)] := hl
  obtain ⟨H, hH⟩ : ∃ z, z = s.heap := ⟨_, rfl⟩
  obtain ⟨locs, hL⟩ : ∃ z : List Loc, z = [] := ⟨_, rfl⟩
  rw [← hL] at hS ⊢
  have hS : va_S A0 s.heap H locs := by rw [hH]; exact hS
  rw [← hH] at hP ⊢
  clear hH hL
  refine lv_lload_n hx hb dX2_isIn_0 rfl (lv_at hl 0 rfl) ?_
  refine lv_iload_n hx hb dX2_isIn_1 rfl (lv_at hl 1 rfl) ?_
  refine lv_lushr (v := (lushr p0 p1)) hx hb dX2_isIn_2 rfl ?_
  refine lv_lconst (v := 1) hx hb dX2_isIn_3 (by decide) ?_
  refine lv_land hx hb dX2_isIn_4 ?_
  refine lv_lconst (v := 0) hx hb dX2_isIn_5 (by decide) ?_
  refine W.lcmp hx hb dX2_isIn_6 ?_
  refine lv_if_eq (tgt := 14) hx hb dX2_isIn_7 (by decide) (fun c7 => ?_) (fun c7 => ?_)
  · have hv := hv.1 c7
    refine lv_iconst (v := 0) hx hb dX2_isIn_14 (by decide) ?_
    exact W.zret (v := 0) hx hb hr rfl (fun t ht hW => ⟨⟨0, (), rfl, hv, trivial⟩, hS.F ht⟩) hS.2.2 dX2_isIn_15
  · have hv := hv.2 c7
    refine lv_iconst (v := 1) hx hb dX2_isIn_10 (by decide) ?_
    refine lv_goto (tgt := 15) hx hb dX2_isIn_11 (by decide) ?_
    exact W.zret (v := 1) hx hb hr rfl (fun t ht hW => ⟨⟨1, (), rfl, hv, trivial⟩, hS.F ht⟩) hS.2.2 dX2_isIn_15

set_option maxHeartbeats 4000000 in
set_option maxRecDepth 100000 in
theorem m_X2_isSure (l : Launch)  (g : CX) (p0 : Int64) (p1 : Int64) (Post : Int32 → Prop) (hv : vc_X2_isSure p0 p1 Post) : Met l yX2_isSure wsX2_isSure { frames := 0, cells := 0, slots := 0, locals := 0 } (va_Pc [.long p0, .long p1] (RO g [])) (va_Qi (fun r (_ : Unit) => Post r) (fun _ _ => True) A0) 0 0 A0 := by
  unfold vc_X2_isSure at hv
  refine Met.ofW (cc := cX2_isSure) (maxL := 6) (ret := (some .boolean)) (by decide) rfl ?_
  intro p e s m args below meth c s₁ B hml hv0
  obtain ⟨rfl, hP, hK, hE⟩ := hv0
  have hx := B.exec
  have hb := B.bytes
  have hr := B.returns
  have hts := atoms_spec (ws := wsX2_isSure) B.pre
  have hown : s.vm.findClass RX2 = some m.cls := findClass_of_methodNamed B.named
  have hlocks := B.notSynchronized
  have hS : va_S A0 s.heap s.heap [] := va_S.rf
  have hP : va_P (gD g) vwCl ([]) s.heap := hP
  have hl := lv_entry ([.long p0, .long p1]) (n := 6) (Nat.le_of_ble_eq_true rfl)
  rw [lg_entry_eq]
  generalize (lg_sl ([.long p0, .long p1]) ++ List.replicate (6 - (lg_sl ([.long p0, .long p1])).length) Slot.unset).toArray = ls at hl ⊢
  have hl : lv_has ls 6 [(0, .long p0), (2, .long p1)] := hl
  obtain ⟨H, hH⟩ : ∃ z, z = s.heap := ⟨_, rfl⟩
  obtain ⟨locs, hL⟩ : ∃ z : List Loc, z = [] := ⟨_, rfl⟩
  rw [← hL] at hS ⊢
  have hS : va_S A0 s.heap H locs := by rw [hH]; exact hS
  rw [← hH] at hP ⊢
  clear hH hL
  refine lv_lload_n hx hb dX2_isSure_0 rfl (lv_at hl 0 rfl) ?_
  refine lv_lload_n hx hb dX2_isSure_1 rfl (lv_at hl 1 rfl) ?_
  refine lv_land hx hb dX2_isSure_2 ?_
  refine lv_lstore (lv' := [(4, .long (p0 &&& p1)), (0, .long p0), (2, .long p1)]) hx hb dX2_isSure_3 hl (by decide) rfl (fun ls hl => ?_)
  refine lv_lload_n hx hb dX2_isSure_5 rfl (lv_at hl 1 rfl) ?_
  refine lv_lconst (v := 0) hx hb dX2_isSure_6 (by decide) ?_
  refine W.lcmp hx hb dX2_isSure_7 ?_
  refine lv_if_eq (tgt := 29) hx hb dX2_isSure_8 (by decide) (fun c8 => ?_) (fun c8 => ?_)
  · have hv := hv.1 c8
    refine lv_iconst (v := 0) hx hb dX2_isSure_29 (by decide) ?_
    exact W.zret (v := 0) hx hb hr rfl (fun t ht hW => ⟨⟨0, (), rfl, hv, trivial⟩, hS.F ht⟩) hS.2.2 dX2_isSure_30
  · have hv := hv.2 c8
    refine lv_lload hx hb dX2_isSure_11 (lv_at hl 0 rfl) ?_
    refine lv_lconst (v := 0) hx hb dX2_isSure_13 (by decide) ?_
    refine W.lcmp hx hb dX2_isSure_14 ?_
    refine lv_if_eq (tgt := 25) hx hb dX2_isSure_15 (by decide) (fun c15 => ?_) (fun c15 => ?_)
    · have hv := hv.1 c15
      refine lv_iconst (v := 1) hx hb dX2_isSure_25 (by decide) ?_
      refine lv_goto (tgt := 30) hx hb dX2_isSure_26 (by decide) ?_
      exact W.zret (v := 1) hx hb hr rfl (fun t ht hW => ⟨⟨1, (), rfl, hv, trivial⟩, hS.F ht⟩) hS.2.2 dX2_isSure_30
    · have hv := hv.2 c15
      refine lv_lload hx hb dX2_isSure_18 (lv_at hl 0 rfl) ?_
      refine lv_lload_n hx hb dX2_isSure_20 rfl (lv_at hl 1 rfl) ?_
      refine W.lcmp hx hb dX2_isSure_21 ?_
      refine lv_if_ne (tgt := 29) hx hb dX2_isSure_22 (by decide) (fun c22 => ?_) (fun c22 => ?_)
      · have hv := hv.1 c22
        refine lv_iconst (v := 0) hx hb dX2_isSure_29 (by decide) ?_
        exact W.zret (v := 0) hx hb hr rfl (fun t ht hW => ⟨⟨0, (), rfl, hv, trivial⟩, hS.F ht⟩) hS.2.2 dX2_isSure_30
      · have hv := hv.2 c22
        refine lv_iconst (v := 1) hx hb dX2_isSure_25 (by decide) ?_
        refine lv_goto (tgt := 30) hx hb dX2_isSure_26 (by decide) ?_
        exact W.zret (v := 1) hx hb hr rfl (fun t ht hW => ⟨⟨1, (), rfl, hv, trivial⟩, hS.F ht⟩) hS.2.2 dX2_isSure_30

set_option maxHeartbeats 4000000 in
set_option maxRecDepth 100000 in
theorem m_X0_hasQuestion (l : Launch)  (g : CX) (ad : Nat → Nat) (o : Nat) (σ : KC) (p0 : Int32) (Post : Int32 → Prop) (hv : vc_X0_hasQuestion σ p0 Post) : Met l yX0_hasQuestion wsX0_hasQuestion { frames := 0, cells := 0, slots := 0, locals := 0 } (va_Pc [.ref (ad o), .int p0] (RO g (wC g ad o σ))) (va_Qi (fun r (_ : Unit) => Post r) (fun _ _ => True) A0) 0 0 A0 := by
  unfold vc_X0_hasQuestion at hv
  refine Met.ofW (cc := cX0_hasQuestion) (maxL := 2) (ret := (some .boolean)) (by decide) rfl ?_
  intro p e s m args below meth c s₁ B hml hv0
  obtain ⟨rfl, hP, hK, hE⟩ := hv0
  have hx := B.exec
  have hb := B.bytes
  have hr := B.returns
  have hts := atoms_spec (ws := wsX0_hasQuestion) B.pre
  have hown : s.vm.findClass RX0 = some m.cls := findClass_of_methodNamed B.named
  have hlocks := B.notSynchronized
  have hi0 : ∀ w ∈ wsX00, w ∈ wsX0_hasQuestion := by decide +kernel
  have k0 := hts (.fieldLink RX0 56 "JuryHearsAnswers$Court" "questions" "I") (by decide +kernel)
  have hS : va_S A0 s.heap s.heap [] := va_S.rf
  have hP : va_P (gD g) vwCl (wC g ad o σ) s.heap := hP
  have hl := lv_entry ([.ref (ad o), .int p0]) (n := 2) (Nat.le_of_ble_eq_true rfl)
  rw [lg_entry_eq]
  generalize (lg_sl ([.ref (ad o), .int p0]) ++ List.replicate (2 - (lg_sl ([.ref (ad o), .int p0])).length) Slot.unset).toArray = ls at hl ⊢
  have hl : lv_has ls 2 [(0, .ref (ad o)), (1, .int p0)] := hl
  obtain ⟨H, hH⟩ : ∃ z, z = s.heap := ⟨_, rfl⟩
  obtain ⟨locs, hL⟩ : ∃ z : List Loc, z = [] := ⟨_, rfl⟩
  rw [← hL] at hS ⊢
  have hS : va_S A0 s.heap H locs := by rw [hH]; exact hS
  rw [← hH] at hP ⊢
  clear hH hL
  refine lv_iload_n hx hb dX0_hasQuestion_0 rfl (lv_at hl 1 rfl) ?_
  refine lv_if_lt (tgt := 22) hx hb dX0_hasQuestion_1 (by decide) (fun c1 => ?_) (fun c1 => ?_)
  · have hv := hv.1 c1
    refine lv_iconst (v := 0) hx hb dX0_hasQuestion_22 (by decide) ?_
    exact W.zret (v := 0) hx hb hr rfl (fun t ht hW => ⟨⟨0, (), rfl, hv, trivial⟩, hS.F ht⟩) hS.2.2 dX0_hasQuestion_23
  · have hv := hv.2 c1
    refine lv_iload_n hx hb dX0_hasQuestion_4 rfl (lv_at hl 1 rfl) ?_
    refine lv_aload_n hx hb dX0_hasQuestion_5 rfl (lv_at hl 0 rfl) ?_
    refine va_get (D := gD g) (ci := 0) (v := .int (sNq (cS σ))) (C := RX0) (T := TX0) (N := 17) hx hb hts hi0 hown hK hP 0 rfl rfl 2 (by decide) k0 (fun _ h9 => h9) rfl dX0_hasQuestion_6 ?_
    refine lv_icmp_ge (tgt := 22) hx hb dX0_hasQuestion_9 (by decide) (fun c9 => ?_) (fun c9 => ?_)
    · have hv := hv.1 c9
      refine lv_iconst (v := 0) hx hb dX0_hasQuestion_22 (by decide) ?_
      exact W.zret (v := 0) hx hb hr rfl (fun t ht hW => ⟨⟨0, (), rfl, hv, trivial⟩, hS.F ht⟩) hS.2.2 dX0_hasQuestion_23
    · have hv := hv.2 c9
      refine lv_iload_n hx hb dX0_hasQuestion_12 rfl (lv_at hl 1 rfl) ?_
      refine lv_bipush (v := 8) hx hb dX0_hasQuestion_13 (by decide) ?_
      refine lv_icmp_ge (tgt := 22) hx hb dX0_hasQuestion_15 (by decide) (fun c15 => ?_) (fun c15 => ?_)
      · have hv := hv.1 c15
        refine lv_iconst (v := 0) hx hb dX0_hasQuestion_22 (by decide) ?_
        exact W.zret (v := 0) hx hb hr rfl (fun t ht hW => ⟨⟨0, (), rfl, hv, trivial⟩, hS.F ht⟩) hS.2.2 dX0_hasQuestion_23
      · have hv := hv.2 c15
        refine lv_iconst (v := 1) hx hb dX0_hasQuestion_18 (by decide) ?_
        refine lv_goto (tgt := 23) hx hb dX0_hasQuestion_19 (by decide) ?_
        exact W.zret (v := 1) hx hb hr rfl (fun t ht hW => ⟨⟨1, (), rfl, hv, trivial⟩, hS.F ht⟩) hS.2.2 dX0_hasQuestion_23

set_option maxHeartbeats 4000000 in
set_option maxRecDepth 100000 in
theorem m_X0_hasWitness (l : Launch)  (g : CX) (ad : Nat → Nat) (o : Nat) (σ : KC) (p0 : Int32) (Post : Int32 → Prop) (hv : vc_X0_hasWitness σ p0 Post) : Met l yX0_hasWitness wsX0_hasWitness { frames := 0, cells := 0, slots := 0, locals := 0 } (va_Pc [.ref (ad o), .int p0] (RO g (wC g ad o σ))) (va_Qi (fun r (_ : Unit) => Post r) (fun _ _ => True) A0) 0 0 A0 := by
  unfold vc_X0_hasWitness at hv
  refine Met.ofW (cc := cX0_hasWitness) (maxL := 2) (ret := (some .boolean)) (by decide) rfl ?_
  intro p e s m args below meth c s₁ B hml hv0
  obtain ⟨rfl, hP, hK, hE⟩ := hv0
  have hx := B.exec
  have hb := B.bytes
  have hr := B.returns
  have hts := atoms_spec (ws := wsX0_hasWitness) B.pre
  have hown : s.vm.findClass RX0 = some m.cls := findClass_of_methodNamed B.named
  have hlocks := B.notSynchronized
  have hi0 : ∀ w ∈ wsX00, w ∈ wsX0_hasWitness := by decide +kernel
  have k0 := hts (.fieldLink RX0 59 "JuryHearsAnswers$Court" "witnesses" "I") (by decide +kernel)
  have hS : va_S A0 s.heap s.heap [] := va_S.rf
  have hP : va_P (gD g) vwCl (wC g ad o σ) s.heap := hP
  have hl := lv_entry ([.ref (ad o), .int p0]) (n := 2) (Nat.le_of_ble_eq_true rfl)
  rw [lg_entry_eq]
  generalize (lg_sl ([.ref (ad o), .int p0]) ++ List.replicate (2 - (lg_sl ([.ref (ad o), .int p0])).length) Slot.unset).toArray = ls at hl ⊢
  have hl : lv_has ls 2 [(0, .ref (ad o)), (1, .int p0)] := hl
  obtain ⟨H, hH⟩ : ∃ z, z = s.heap := ⟨_, rfl⟩
  obtain ⟨locs, hL⟩ : ∃ z : List Loc, z = [] := ⟨_, rfl⟩
  rw [← hL] at hS ⊢
  have hS : va_S A0 s.heap H locs := by rw [hH]; exact hS
  rw [← hH] at hP ⊢
  clear hH hL
  refine lv_iload_n hx hb dX0_hasWitness_0 rfl (lv_at hl 1 rfl) ?_
  refine lv_if_lt (tgt := 21) hx hb dX0_hasWitness_1 (by decide) (fun c1 => ?_) (fun c1 => ?_)
  · have hv := hv.1 c1
    refine lv_iconst (v := 0) hx hb dX0_hasWitness_21 (by decide) ?_
    exact W.zret (v := 0) hx hb hr rfl (fun t ht hW => ⟨⟨0, (), rfl, hv, trivial⟩, hS.F ht⟩) hS.2.2 dX0_hasWitness_22
  · have hv := hv.2 c1
    refine lv_iload_n hx hb dX0_hasWitness_4 rfl (lv_at hl 1 rfl) ?_
    refine lv_aload_n hx hb dX0_hasWitness_5 rfl (lv_at hl 0 rfl) ?_
    refine va_get (D := gD g) (ci := 0) (v := .int (sNw (cS σ))) (C := RX0) (T := TX0) (N := 17) hx hb hts hi0 hown hK hP 0 rfl rfl 3 (by decide) k0 (fun _ h9 => h9) rfl dX0_hasWitness_6 ?_
    refine lv_icmp_ge (tgt := 21) hx hb dX0_hasWitness_9 (by decide) (fun c9 => ?_) (fun c9 => ?_)
    · have hv := hv.1 c9
      refine lv_iconst (v := 0) hx hb dX0_hasWitness_21 (by decide) ?_
      exact W.zret (v := 0) hx hb hr rfl (fun t ht hW => ⟨⟨0, (), rfl, hv, trivial⟩, hS.F ht⟩) hS.2.2 dX0_hasWitness_22
    · have hv := hv.2 c9
      refine lv_iload_n hx hb dX0_hasWitness_12 rfl (lv_at hl 1 rfl) ?_
      refine lv_iconst (v := 5) hx hb dX0_hasWitness_13 (by decide) ?_
      refine lv_icmp_ge (tgt := 21) hx hb dX0_hasWitness_14 (by decide) (fun c14 => ?_) (fun c14 => ?_)
      · have hv := hv.1 c14
        refine lv_iconst (v := 0) hx hb dX0_hasWitness_21 (by decide) ?_
        exact W.zret (v := 0) hx hb hr rfl (fun t ht hW => ⟨⟨0, (), rfl, hv, trivial⟩, hS.F ht⟩) hS.2.2 dX0_hasWitness_22
      · have hv := hv.2 c14
        refine lv_iconst (v := 1) hx hb dX0_hasWitness_17 (by decide) ?_
        refine lv_goto (tgt := 22) hx hb dX0_hasWitness_18 (by decide) ?_
        exact W.zret (v := 1) hx hb hr rfl (fun t ht hW => ⟨⟨1, (), rfl, hv, trivial⟩, hS.F ht⟩) hS.2.2 dX0_hasWitness_22

set_option maxHeartbeats 4000000 in
set_option maxRecDepth 100000 in
theorem m_X0_hasPlace (l : Launch)  (g : CX) (ad : Nat → Nat) (o : Nat) (σ : KC) (p0 : Int32) (Post : Int32 → Prop) (hv : vc_X0_hasPlace σ p0 Post) : Met l yX0_hasPlace wsX0_hasPlace { frames := 0, cells := 0, slots := 0, locals := 0 } (va_Pc [.ref (ad o), .int p0] (RO g (wC g ad o σ))) (va_Qi (fun r (_ : Unit) => Post r) (fun _ _ => True) A0) 0 0 A0 := by
  unfold vc_X0_hasPlace at hv
  refine Met.ofW (cc := cX0_hasPlace) (maxL := 2) (ret := (some .boolean)) (by decide) rfl ?_
  intro p e s m args below meth c s₁ B hml hv0
  obtain ⟨rfl, hP, hK, hE⟩ := hv0
  have hx := B.exec
  have hb := B.bytes
  have hr := B.returns
  have hts := atoms_spec (ws := wsX0_hasPlace) B.pre
  have hown : s.vm.findClass RX0 = some m.cls := findClass_of_methodNamed B.named
  have hlocks := B.notSynchronized
  have hi0 : ∀ w ∈ wsX00, w ∈ wsX0_hasPlace := by decide +kernel
  have k0 := hts (.fieldLink RX0 62 "JuryHearsAnswers$Court" "heardLength" "I") (by decide +kernel)
  have hS : va_S A0 s.heap s.heap [] := va_S.rf
  have hP : va_P (gD g) vwCl (wC g ad o σ) s.heap := hP
  have hl := lv_entry ([.ref (ad o), .int p0]) (n := 2) (Nat.le_of_ble_eq_true rfl)
  rw [lg_entry_eq]
  generalize (lg_sl ([.ref (ad o), .int p0]) ++ List.replicate (2 - (lg_sl ([.ref (ad o), .int p0])).length) Slot.unset).toArray = ls at hl ⊢
  have hl : lv_has ls 2 [(0, .ref (ad o)), (1, .int p0)] := hl
  obtain ⟨H, hH⟩ : ∃ z, z = s.heap := ⟨_, rfl⟩
  obtain ⟨locs, hL⟩ : ∃ z : List Loc, z = [] := ⟨_, rfl⟩
  rw [← hL] at hS ⊢
  have hS : va_S A0 s.heap H locs := by rw [hH]; exact hS
  rw [← hH] at hP ⊢
  clear hH hL
  refine lv_iload_n hx hb dX0_hasPlace_0 rfl (lv_at hl 1 rfl) ?_
  refine lv_if_lt (tgt := 22) hx hb dX0_hasPlace_1 (by decide) (fun c1 => ?_) (fun c1 => ?_)
  · have hv := hv.1 c1
    refine lv_iconst (v := 0) hx hb dX0_hasPlace_22 (by decide) ?_
    exact W.zret (v := 0) hx hb hr rfl (fun t ht hW => ⟨⟨0, (), rfl, hv, trivial⟩, hS.F ht⟩) hS.2.2 dX0_hasPlace_23
  · have hv := hv.2 c1
    refine lv_iload_n hx hb dX0_hasPlace_4 rfl (lv_at hl 1 rfl) ?_
    refine lv_aload_n hx hb dX0_hasPlace_5 rfl (lv_at hl 0 rfl) ?_
    refine va_get (D := gD g) (ci := 0) (v := .int (sNh (cS σ))) (C := RX0) (T := TX0) (N := 17) hx hb hts hi0 hown hK hP 0 rfl rfl 4 (by decide) k0 (fun _ h9 => h9) rfl dX0_hasPlace_6 ?_
    refine lv_icmp_ge (tgt := 22) hx hb dX0_hasPlace_9 (by decide) (fun c9 => ?_) (fun c9 => ?_)
    · have hv := hv.1 c9
      refine lv_iconst (v := 0) hx hb dX0_hasPlace_22 (by decide) ?_
      exact W.zret (v := 0) hx hb hr rfl (fun t ht hW => ⟨⟨0, (), rfl, hv, trivial⟩, hS.F ht⟩) hS.2.2 dX0_hasPlace_23
    · have hv := hv.2 c9
      refine lv_iload_n hx hb dX0_hasPlace_12 rfl (lv_at hl 1 rfl) ?_
      refine lv_bipush (v := 12) hx hb dX0_hasPlace_13 (by decide) ?_
      refine lv_icmp_ge (tgt := 22) hx hb dX0_hasPlace_15 (by decide) (fun c15 => ?_) (fun c15 => ?_)
      · have hv := hv.1 c15
        refine lv_iconst (v := 0) hx hb dX0_hasPlace_22 (by decide) ?_
        exact W.zret (v := 0) hx hb hr rfl (fun t ht hW => ⟨⟨0, (), rfl, hv, trivial⟩, hS.F ht⟩) hS.2.2 dX0_hasPlace_23
      · have hv := hv.2 c15
        refine lv_iconst (v := 1) hx hb dX0_hasPlace_18 (by decide) ?_
        refine lv_goto (tgt := 23) hx hb dX0_hasPlace_19 (by decide) ?_
        exact W.zret (v := 1) hx hb hr rfl (fun t ht hW => ⟨⟨1, (), rfl, hv, trivial⟩, hS.F ht⟩) hS.2.2 dX0_hasPlace_23

set_option maxHeartbeats 4000000 in
set_option maxRecDepth 100000 in
theorem m_X0_canAsk (l : Launch) (h_X0_hasQuestion : C_X0_hasQuestion l) (h_X0_hasWitness : C_X0_hasWitness l) (g : CX) (ad : Nat → Nat) (o : Nat) (σ : KC) (p0 : Int32) (p1 : Int32) (Post : Int32 → Prop) (hv : vc_X0_canAsk σ p0 p1 Post) : Met l yX0_canAsk wsX0_canAsk { frames := 1, cells := 0, slots := 0, locals := 21 } (va_Pc [.ref (ad o), .int p0, .int p1] (RO g (wC g ad o σ))) (va_Qi (fun r (_ : Unit) => Post r) (fun _ _ => True) A0) 0 0 A0 := by
  unfold vc_X0_canAsk at hv
  refine Met.ofW (cc := cX0_canAsk) (maxL := 3) (ret := (some .boolean)) (by decide) rfl ?_
  intro p e s m args below meth c s₁ B hml hv0
  obtain ⟨rfl, hP, hK, hE⟩ := hv0
  have hx := B.exec
  have hb := B.bytes
  have hr := B.returns
  have hts := atoms_spec (ws := wsX0_canAsk) B.pre
  have hown : s.vm.findClass RX0 = some m.cls := findClass_of_methodNamed B.named
  have hlocks := B.notSynchronized
  have hi0 : ∀ w ∈ wsX00, w ∈ wsX0_canAsk := by decide +kernel
  have k0 := hts (.fieldLink RX0 53 "JuryHearsAnswers$Court" "asked" "I") (by decide +kernel)
  have hS : va_S A0 s.heap s.heap [] := va_S.rf
  have hP : va_P (gD g) vwCl (wC g ad o σ) s.heap := hP
  have hl := lv_entry ([.ref (ad o), .int p0, .int p1]) (n := 3) (Nat.le_of_ble_eq_true rfl)
  rw [lg_entry_eq]
  generalize (lg_sl ([.ref (ad o), .int p0, .int p1]) ++ List.replicate (3 - (lg_sl ([.ref (ad o), .int p0, .int p1])).length) Slot.unset).toArray = ls at hl ⊢
  have hl : lv_has ls 3 [(0, .ref (ad o)), (1, .int p0), (2, .int p1)] := hl
  obtain ⟨H, hH⟩ : ∃ z, z = s.heap := ⟨_, rfl⟩
  obtain ⟨locs, hL⟩ : ∃ z : List Loc, z = [] := ⟨_, rfl⟩
  rw [← hL] at hS ⊢
  have hS : va_S A0 s.heap H locs := by rw [hH]; exact hS
  rw [← hH] at hP ⊢
  clear hH hL
  refine lv_aload_n hx hb dX0_canAsk_0 rfl (lv_at hl 0 rfl) ?_
  refine lv_iload_n hx hb dX0_canAsk_1 rfl (lv_at hl 1 rfl) ?_
  have hPc := hP
  refine ro_int (va_runV (As := [.int p0]) (rest := []) ⟨hx, hb, hml, hown, hts⟩ (h_X0_hasWitness g ad o σ p0) (cwV 1 hts gX0_canAsk_X0_hasWitness rfl rfl rfl (by decide +kernel) ⟨Nat.le_of_ble_eq_true rfl, Nat.le_of_ble_eq_true rfl⟩) ⟨RO_blind, va_recv hK hP (ci := 0) (q0 := 0) rfl rfl, fun U hU hW => ⟨rfl, by rw [hU]; exact hPc, va_K.moved hW.alike hK, hE.call hW hU hS (fun _ h => h.elim)⟩⟩ rfl rfl hl.1 rfl (lv_room (Nat.le_of_ble_eq_true rfl)) dX0_canAsk_2 ⟨Nat.le_of_ble_eq_true rfl, Nat.le_of_ble_eq_true rfl⟩) hS hP (fun r H locs hw hP hS => ?_)
  subst r
  refine lv_if_eq (tgt := 30) hx hb dX0_canAsk_5 (by decide) (fun c5 => ?_) (fun c5 => ?_)
  · have hv := hv.1 c5
    refine lv_iconst (v := 0) hx hb dX0_canAsk_30 (by decide) ?_
    exact W.zret (v := 0) hx hb hr rfl (fun t ht hW => ⟨⟨0, (), rfl, hv, trivial⟩, hS.F ht⟩) hS.2.2 dX0_canAsk_31
  · have hv := hv.2 c5
    refine lv_aload_n hx hb dX0_canAsk_8 rfl (lv_at hl 0 rfl) ?_
    refine lv_iload_n hx hb dX0_canAsk_9 rfl (lv_at hl 2 rfl) ?_
    have hPc := hP
    refine ro_int (va_runV (As := [.int p1]) (rest := []) ⟨hx, hb, hml, hown, hts⟩ (h_X0_hasQuestion g ad o σ p1) (cwV 1 hts gX0_canAsk_X0_hasQuestion rfl rfl rfl (by decide +kernel) ⟨Nat.le_of_ble_eq_true rfl, Nat.le_of_ble_eq_true rfl⟩) ⟨RO_blind, va_recv hK hP (ci := 0) (q0 := 0) rfl rfl, fun U hU hW => ⟨rfl, by rw [hU]; exact hPc, va_K.moved hW.alike hK, hE.call hW hU hS (fun _ h => h.elim)⟩⟩ rfl rfl hl.1 rfl (lv_room (Nat.le_of_ble_eq_true rfl)) dX0_canAsk_10 ⟨Nat.le_of_ble_eq_true rfl, Nat.le_of_ble_eq_true rfl⟩) hS hP (fun r H locs hw hP hS => ?_)
    subst r
    refine lv_if_eq (tgt := 30) hx hb dX0_canAsk_13 (by decide) (fun c13 => ?_) (fun c13 => ?_)
    · have hv := hv.1 c13
      refine lv_iconst (v := 0) hx hb dX0_canAsk_30 (by decide) ?_
      exact W.zret (v := 0) hx hb hr rfl (fun t ht hW => ⟨⟨0, (), rfl, hv, trivial⟩, hS.F ht⟩) hS.2.2 dX0_canAsk_31
    · have hv := hv.2 c13
      refine lv_aload_n hx hb dX0_canAsk_16 rfl (lv_at hl 0 rfl) ?_
      refine va_get (D := gD g) (ci := 0) (v := .int (sAsked (cS σ))) (C := RX0) (T := TX0) (N := 17) hx hb hts hi0 hown hK hP 0 rfl rfl 1 (by decide) k0 (fun _ h9 => h9) rfl dX0_canAsk_17 ?_
      refine lv_sipush (v := 999) hx hb dX0_canAsk_20 (by decide) ?_
      refine lv_icmp_ge (tgt := 30) hx hb dX0_canAsk_23 (by decide) (fun c23 => ?_) (fun c23 => ?_)
      · have hv := hv.1 c23
        refine lv_iconst (v := 0) hx hb dX0_canAsk_30 (by decide) ?_
        exact W.zret (v := 0) hx hb hr rfl (fun t ht hW => ⟨⟨0, (), rfl, hv, trivial⟩, hS.F ht⟩) hS.2.2 dX0_canAsk_31
      · have hv := hv.2 c23
        refine lv_iconst (v := 1) hx hb dX0_canAsk_26 (by decide) ?_
        refine lv_goto (tgt := 31) hx hb dX0_canAsk_27 (by decide) ?_
        exact W.zret (v := 1) hx hb hr rfl (fun t ht hW => ⟨⟨1, (), rfl, hv, trivial⟩, hS.F ht⟩) hS.2.2 dX0_canAsk_31

set_option maxHeartbeats 4000000 in
set_option maxRecDepth 100000 in
theorem m_X0_casesSo (l : Launch)  (g : CX) (p0 : Int32) (p1 : Int64) (p2 : Int64) (Post : Int64 → Prop) (hv : vc_X0_casesSo p0 p1 p2 Post) : Met l yX0_casesSo wsX0_casesSo { frames := 0, cells := 0, slots := 0, locals := 0 } (va_Pc [.int p0, .long p1, .long p2] (RO g [])) (va_Ql (fun r (_ : Unit) => Post r) (fun _ _ => True) A0) 0 0 A0 := by
  unfold vc_X0_casesSo at hv
  refine Met.ofW (cc := cX0_casesSo) (maxL := 5) (ret := (some .long)) (by decide) rfl ?_
  intro p e s m args below meth c s₁ B hml hv0
  obtain ⟨rfl, hP, hK, hE⟩ := hv0
  have hx := B.exec
  have hb := B.bytes
  have hr := B.returns
  have hts := atoms_spec (ws := wsX0_casesSo) B.pre
  have hown : s.vm.findClass RX0 = some m.cls := findClass_of_methodNamed B.named
  have hlocks := B.notSynchronized
  have k0 := hts (.constantLong RX0 96 (-1)) (by decide +kernel)
  have hS : va_S A0 s.heap s.heap [] := va_S.rf
  have hP : va_P (gD g) vwCl ([]) s.heap := hP
  have hl := lv_entry ([.int p0, .long p1, .long p2]) (n := 5) (Nat.le_of_ble_eq_true rfl)
  rw [lg_entry_eq]
  generalize (lg_sl ([.int p0, .long p1, .long p2]) ++ List.replicate (5 - (lg_sl ([.int p0, .long p1, .long p2])).length) Slot.unset).toArray = ls at hl ⊢
  have hl : lv_has ls 5 [(0, .int p0), (1, .long p1), (3, .long p2)] := hl
  obtain ⟨H, hH⟩ : ∃ z, z = s.heap := ⟨_, rfl⟩
  obtain ⟨locs, hL⟩ : ∃ z : List Loc, z = [] := ⟨_, rfl⟩
  rw [← hL] at hS ⊢
  have hS : va_S A0 s.heap H locs := by rw [hH]; exact hS
  rw [← hH] at hP ⊢
  clear hH hL
  refine lv_iload_n hx hb dX0_casesSo_0 rfl (lv_at hl 0 rfl) ?_
  by_cases d1_0 : p0 = 0
  · have hv := hv.1 d1_0
    refine lv_tableIn (off := 31) (tgt := 32) hx hb dX0_casesSo_1 (by rw [d1_0]; decide) (by rw [d1_0]; decide) (by rw [d1_0]; rfl) (by decide) ?_
    refine lv_lload_n hx hb dX0_casesSo_32 rfl (lv_at hl 1 rfl) ?_
    exact W.lret (v := p1) hx hb hr (fun t ht hW => ⟨⟨p1, (), rfl, hv, trivial⟩, hS.F ht⟩) hS.2.2 dX0_casesSo_33
  · have hv := hv.2 d1_0
    by_cases d1_1 : p0 = 1
    · have hv := hv.1 d1_1
      refine lv_tableIn (off := 33) (tgt := 34) hx hb dX0_casesSo_1 (by rw [d1_1]; decide) (by rw [d1_1]; decide) (by rw [d1_1]; rfl) (by decide) ?_
      refine lv_lload_n hx hb dX0_casesSo_34 rfl (lv_at hl 1 rfl) ?_
      refine lv_ldc2 hx hb hown k0 dX0_casesSo_35 ?_
      refine lv_lxor hx hb dX0_casesSo_38 ?_
      exact W.lret (v := (p1 ^^^ (-1))) hx hb hr (fun t ht hW => ⟨⟨(p1 ^^^ (-1)), (), rfl, hv, trivial⟩, hS.F ht⟩) hS.2.2 dX0_casesSo_39
    · have hv := hv.2 d1_1
      by_cases d1_2 : p0 = 2
      · have hv := hv.1 d1_2
        refine lv_tableIn (off := 39) (tgt := 40) hx hb dX0_casesSo_1 (by rw [d1_2]; decide) (by rw [d1_2]; decide) (by rw [d1_2]; rfl) (by decide) ?_
        refine lv_lload_n hx hb dX0_casesSo_40 rfl (lv_at hl 1 rfl) ?_
        refine lv_lload_n hx hb dX0_casesSo_41 rfl (lv_at hl 2 rfl) ?_
        refine lv_land hx hb dX0_casesSo_42 ?_
        exact W.lret (v := (p1 &&& p2)) hx hb hr (fun t ht hW => ⟨⟨(p1 &&& p2), (), rfl, hv, trivial⟩, hS.F ht⟩) hS.2.2 dX0_casesSo_43
      · have hv := hv.2 d1_2
        by_cases d1_3 : p0 = 3
        · have hv := hv.1 d1_3
          refine lv_tableIn (off := 43) (tgt := 44) hx hb dX0_casesSo_1 (by rw [d1_3]; decide) (by rw [d1_3]; decide) (by rw [d1_3]; rfl) (by decide) ?_
          refine lv_lload_n hx hb dX0_casesSo_44 rfl (lv_at hl 1 rfl) ?_
          refine lv_lload_n hx hb dX0_casesSo_45 rfl (lv_at hl 2 rfl) ?_
          refine lv_lor hx hb dX0_casesSo_46 ?_
          exact W.lret (v := (p1 ||| p2)) hx hb hr (fun t ht hW => ⟨⟨(p1 ||| p2), (), rfl, hv, trivial⟩, hS.F ht⟩) hS.2.2 dX0_casesSo_47
        · have hv := hv.2 d1_3
          refine lv_tableOut (tgt := 48) hx hb dX0_casesSo_1 (by have n0 := lv_neT (a := 0) d1_0 (by decide); have n1 := lv_neT (a := 1) d1_1 (by decide); have n2 := lv_neT (a := 2) d1_2 (by decide); have n3 := lv_neT (a := 3) d1_3 (by decide); omega) (by decide) ?_
          refine lv_lload_n hx hb dX0_casesSo_48 rfl (lv_at hl 1 rfl) ?_
          refine lv_lload_n hx hb dX0_casesSo_49 rfl (lv_at hl 2 rfl) ?_
          refine lv_lxor hx hb dX0_casesSo_50 ?_
          refine lv_ldc2 hx hb hown k0 dX0_casesSo_51 ?_
          refine lv_lxor hx hb dX0_casesSo_54 ?_
          exact W.lret (v := ((p1 ^^^ p2) ^^^ (-1))) hx hb hr (fun t ht hW => ⟨⟨((p1 ^^^ p2) ^^^ (-1)), (), rfl, hv, trivial⟩, hS.F ht⟩) hS.2.2 dX0_casesSo_55

set_option maxHeartbeats 4000000 in
set_option maxRecDepth 100000 in
theorem m_X0_truthOf (l : Launch) (h_X0_hasQuestion : C_X0_hasQuestion l) (g : CX) (ad : Nat → Nat) (o : Nat) (σ : KC) (p0 : Int32) (Post : Int64 → Prop) (hv : vc_X0_truthOf σ p0 Post) : Met l yX0_truthOf wsX0_truthOf { frames := 1, cells := 0, slots := 0, locals := 21 } (va_Pc [.ref (ad o), .int p0] (RO g (wC g ad o σ))) (va_Ql (fun r (_ : Unit) => Post r) (fun _ _ => True) A0) 0 0 A0 := by
  unfold vc_X0_truthOf at hv
  refine Met.ofW (cc := cX0_truthOf) (maxL := 2) (ret := (some .long)) (by decide) rfl ?_
  intro p e s m args below meth c s₁ B hml hv0
  obtain ⟨rfl, hP, hK, hE⟩ := hv0
  have hx := B.exec
  have hb := B.bytes
  have hr := B.returns
  have hts := atoms_spec (ws := wsX0_truthOf) B.pre
  have hown : s.vm.findClass RX0 = some m.cls := findClass_of_methodNamed B.named
  have hlocks := B.notSynchronized
  have hi0 : ∀ w ∈ wsX00, w ∈ wsX0_truthOf := by decide +kernel
  have k0 := hts (.fieldLink RX0 24 "JuryHearsAnswers$Court" "truth" "[J") (by decide +kernel)
  have hS : va_S A0 s.heap s.heap [] := va_S.rf
  have hP : va_P (gD g) vwCl (wC g ad o σ) s.heap := hP
  have hl := lv_entry ([.ref (ad o), .int p0]) (n := 2) (Nat.le_of_ble_eq_true rfl)
  rw [lg_entry_eq]
  generalize (lg_sl ([.ref (ad o), .int p0]) ++ List.replicate (2 - (lg_sl ([.ref (ad o), .int p0])).length) Slot.unset).toArray = ls at hl ⊢
  have hl : lv_has ls 2 [(0, .ref (ad o)), (1, .int p0)] := hl
  obtain ⟨H, hH⟩ : ∃ z, z = s.heap := ⟨_, rfl⟩
  obtain ⟨locs, hL⟩ : ∃ z : List Loc, z = [] := ⟨_, rfl⟩
  rw [← hL] at hS ⊢
  have hS : va_S A0 s.heap H locs := by rw [hH]; exact hS
  rw [← hH] at hP ⊢
  clear hH hL
  refine lv_aload_n hx hb dX0_truthOf_0 rfl (lv_at hl 0 rfl) ?_
  refine lv_iload_n hx hb dX0_truthOf_1 rfl (lv_at hl 1 rfl) ?_
  have hPc := hP
  refine ro_int (va_runV (As := [.int p0]) (rest := []) ⟨hx, hb, hml, hown, hts⟩ (h_X0_hasQuestion g ad o σ p0) (cwV 1 hts gX0_truthOf_X0_hasQuestion rfl rfl rfl (by decide +kernel) ⟨Nat.le_of_ble_eq_true rfl, Nat.le_of_ble_eq_true rfl⟩) ⟨RO_blind, va_recv hK hP (ci := 0) (q0 := 0) rfl rfl, fun U hU hW => ⟨rfl, by rw [hU]; exact hPc, va_K.moved hW.alike hK, hE.call hW hU hS (fun _ h => h.elim)⟩⟩ rfl rfl hl.1 rfl (lv_room (Nat.le_of_ble_eq_true rfl)) dX0_truthOf_2 ⟨Nat.le_of_ble_eq_true rfl, Nat.le_of_ble_eq_true rfl⟩) hS hP (fun r H locs hw hP hS => ?_)
  subst r
  refine lv_if_eq (tgt := 17) hx hb dX0_truthOf_5 (by decide) (fun c5 => ?_) (fun c5 => ?_)
  · have hv := hv.1 c5
    refine lv_lconst (v := 0) hx hb dX0_truthOf_17 (by decide) ?_
    exact W.lret (v := 0) hx hb hr (fun t ht hW => ⟨⟨0, (), rfl, hv, trivial⟩, hS.F ht⟩) hS.2.2 dX0_truthOf_18
  · have hv := hv.2 c5
    refine lv_aload_n hx hb dX0_truthOf_8 rfl (lv_at hl 0 rfl) ?_
    refine va_get (D := gD g) (ci := 0) (v := .ref (ad (o + 5))) (C := RX0) (T := TX0) (N := 17) hx hb hts hi0 hown hK hP 0 rfl rfl 9 (by decide) k0 (fun _ h9 => h9) rfl dX0_truthOf_9 ?_
    refine lv_iload_n hx hb dX0_truthOf_12 rfl (lv_at hl 1 rfl) ?_
    have h9 := hv.1
    have hv := hv.2
    refine va_lald (f := (cTruth σ)) (n := 8) hx hb hK hP 5 1 rfl rfl h9 dX0_truthOf_13 ?_
    refine lv_goto (tgt := 18) hx hb dX0_truthOf_14 (by decide) ?_
    exact W.lret (v := ((cTruth σ) (p0).toNatClampNeg)) hx hb hr (fun t ht hW => ⟨⟨((cTruth σ) (p0).toNatClampNeg), (), rfl, hv, trivial⟩, hS.F ht⟩) hS.2.2 dX0_truthOf_18

set_option maxHeartbeats 4000000 in
set_option maxRecDepth 100000 in
theorem m_X0_isSo (l : Launch) (h_X0_truthOf : C_X0_truthOf l) (h_X2_isIn : C_X2_isIn l) (g : CX) (ad : Nat → Nat) (o : Nat) (σ : KC) (p0 : Int32) (Post : Int32 → Prop) (hv : vc_X0_isSo σ p0 Post) : Met l yX0_isSo wsX0_isSo { frames := 2, cells := 0, slots := 0, locals := 42 } (va_Pc [.ref (ad o), .int p0] (RO g (wC g ad o σ))) (va_Qi (fun r (_ : Unit) => Post r) (fun _ _ => True) A0) 0 0 A0 := by
  unfold vc_X0_isSo at hv
  refine Met.ofW (cc := cX0_isSo) (maxL := 2) (ret := (some .boolean)) (by decide) rfl ?_
  intro p e s m args below meth c s₁ B hml hv0
  obtain ⟨rfl, hP, hK, hE⟩ := hv0
  have hx := B.exec
  have hb := B.bytes
  have hr := B.returns
  have hts := atoms_spec (ws := wsX0_isSo) B.pre
  have hown : s.vm.findClass RX0 = some m.cls := findClass_of_methodNamed B.named
  have hlocks := B.notSynchronized
  have hi0 : ∀ w ∈ wsX00, w ∈ wsX0_isSo := by decide +kernel
  have k0 := hts (.fieldLink RX0 49 "JuryHearsAnswers$Court" "caseNow" "I") (by decide +kernel)
  have k1 := hts (.initialized RX2) (by decide +kernel)
  have k2 := hts (.static yX2_isIn) (by decide +kernel)
  have hS : va_S A0 s.heap s.heap [] := va_S.rf
  have hP : va_P (gD g) vwCl (wC g ad o σ) s.heap := hP
  have hl := lv_entry ([.ref (ad o), .int p0]) (n := 2) (Nat.le_of_ble_eq_true rfl)
  rw [lg_entry_eq]
  generalize (lg_sl ([.ref (ad o), .int p0]) ++ List.replicate (2 - (lg_sl ([.ref (ad o), .int p0])).length) Slot.unset).toArray = ls at hl ⊢
  have hl : lv_has ls 2 [(0, .ref (ad o)), (1, .int p0)] := hl
  obtain ⟨H, hH⟩ : ∃ z, z = s.heap := ⟨_, rfl⟩
  obtain ⟨locs, hL⟩ : ∃ z : List Loc, z = [] := ⟨_, rfl⟩
  rw [← hL] at hS ⊢
  have hS : va_S A0 s.heap H locs := by rw [hH]; exact hS
  rw [← hH] at hP ⊢
  clear hH hL
  refine lv_aload_n hx hb dX0_isSo_0 rfl (lv_at hl 0 rfl) ?_
  refine lv_iload_n hx hb dX0_isSo_1 rfl (lv_at hl 1 rfl) ?_
  have hPc := hP
  refine ro_long (va_runV (As := [.int p0]) (rest := []) ⟨hx, hb, hml, hown, hts⟩ (h_X0_truthOf g ad o σ p0) (cwV 1 hts gX0_isSo_X0_truthOf rfl rfl rfl (by decide +kernel) ⟨Nat.le_of_ble_eq_true rfl, Nat.le_of_ble_eq_true rfl⟩) ⟨RO_blind, va_recv hK hP (ci := 0) (q0 := 0) rfl rfl, fun U hU hW => ⟨rfl, by rw [hU]; exact hPc, va_K.moved hW.alike hK, hE.call hW hU hS (fun _ h => h.elim)⟩⟩ rfl rfl hl.1 rfl (lv_room (Nat.le_of_ble_eq_true rfl)) dX0_isSo_2 ⟨Nat.le_of_ble_eq_true rfl, Nat.le_of_ble_eq_true rfl⟩) hS hP (fun r H locs hw hP hS => ?_)
  subst r
  refine lv_aload_n hx hb dX0_isSo_5 rfl (lv_at hl 0 rfl) ?_
  refine va_get (D := gD g) (ci := 0) (v := .int (sCase (cS σ))) (C := RX0) (T := TX0) (N := 17) hx hb hts hi0 hown hK hP 0 rfl rfl 0 (by decide) k0 (fun _ h9 => h9) rfl dX0_isSo_6 ?_
  have hPc : va_P (gD g) vwCl [] H := fun k q h => by simp at h
  refine ro_int (va_runSN (As := [.long (truthOfL σ p0), .int (sCase (cS σ))]) (rest := []) ⟨hx, hb, hml, hown, hts⟩ (h_X2_isIn g (truthOfL σ p0) (sCase (cS σ))) ⟨va_cnB 2 hts gX0_isSo_X2_isIn_n101 rfl rfl rfl (hE.1.2.2.1) k1 (by decide +kernel) ⟨Nat.le_of_ble_eq_true rfl, Nat.le_of_ble_eq_true rfl⟩, k2, trivial⟩ ⟨RO_blind, fun U hU hW => ⟨rfl, by rw [hU]; exact hPc, va_K.moved hW.alike hK, hE.call hW hU hS (fun _ h => h.elim)⟩⟩ rfl rfl hl.1 rfl (lv_room (Nat.le_of_ble_eq_true rfl)) dX0_isSo_9 ⟨Nat.le_of_ble_eq_true rfl, Nat.le_of_ble_eq_true rfl⟩) hS hP (fun r H locs hw hP hS => ?_)
  subst r
  have hn := hv.1
  have hv := hv.2
  exact W.zret (v := (isInI (truthOfL σ p0) (sCase (cS σ)))) hx hb hr hn (fun t ht hW => ⟨⟨(isInI (truthOfL σ p0) (sCase (cS σ))), (), rfl, hv, trivial⟩, hS.F ht⟩) hS.2.2 dX0_isSo_12

set_option maxHeartbeats 4000000 in
set_option maxRecDepth 100000 in
theorem m_X0_onward (l : Launch)  (g : CX) (ad : Nat → Nat) (o : Nat) (σ : KC) (p0 : Int32) (p1 : Int32) (Post : Int32 → Prop) (hv : vc_X0_onward σ p0 p1 Post) : Met l yX0_onward wsX0_onward { frames := 0, cells := 0, slots := 0, locals := 0 } (va_Pc [.ref (ad o), .int p0, .int p1] (RO g (wC g ad o σ))) (va_Qi (fun r (_ : Unit) => Post r) (fun _ _ => True) A0) 0 0 A0 := by
  unfold vc_X0_onward at hv
  refine Met.ofW (cc := cX0_onward) (maxL := 3) (ret := (some .int)) (by decide) rfl ?_
  intro p e s m args below meth c s₁ B hml hv0
  obtain ⟨rfl, hP, hK, hE⟩ := hv0
  have hx := B.exec
  have hb := B.bytes
  have hr := B.returns
  have hts := atoms_spec (ws := wsX0_onward) B.pre
  have hown : s.vm.findClass RX0 = some m.cls := findClass_of_methodNamed B.named
  have hlocks := B.notSynchronized
  have hi0 : ∀ w ∈ wsX00, w ∈ wsX0_onward := by decide +kernel
  have k0 := hts (.fieldLink RX0 56 "JuryHearsAnswers$Court" "questions" "I") (by decide +kernel)
  have hS : va_S A0 s.heap s.heap [] := va_S.rf
  have hP : va_P (gD g) vwCl (wC g ad o σ) s.heap := hP
  have hl := lv_entry ([.ref (ad o), .int p0, .int p1]) (n := 3) (Nat.le_of_ble_eq_true rfl)
  rw [lg_entry_eq]
  generalize (lg_sl ([.ref (ad o), .int p0, .int p1]) ++ List.replicate (3 - (lg_sl ([.ref (ad o), .int p0, .int p1])).length) Slot.unset).toArray = ls at hl ⊢
  have hl : lv_has ls 3 [(0, .ref (ad o)), (1, .int p0), (2, .int p1)] := hl
  obtain ⟨H, hH⟩ : ∃ z, z = s.heap := ⟨_, rfl⟩
  obtain ⟨locs, hL⟩ : ∃ z : List Loc, z = [] := ⟨_, rfl⟩
  rw [← hL] at hS ⊢
  have hS : va_S A0 s.heap H locs := by rw [hH]; exact hS
  rw [← hH] at hP ⊢
  clear hH hL
  refine lv_aload_n hx hb dX0_onward_0 rfl (lv_at hl 0 rfl) ?_
  refine va_get (D := gD g) (ci := 0) (v := .int (sNq (cS σ))) (C := RX0) (T := TX0) (N := 17) hx hb hts hi0 hown hK hP 0 rfl rfl 2 (by decide) k0 (fun _ h9 => h9) rfl dX0_onward_1 ?_
  refine lv_if_le (tgt := 18) hx hb dX0_onward_4 (by decide) (fun c4 => ?_) (fun c4 => ?_)
  · have hv := hv.1 c4
    refine lv_iload_n hx hb dX0_onward_18 rfl (lv_at hl 1 rfl) ?_
    exact W.iret (v := p0) hx hb hr (fun t ht hW => ⟨⟨p0, (), rfl, hv, trivial⟩, hS.F ht⟩) hS.2.2 dX0_onward_19
  · have hv := hv.2 c4
    refine lv_iload_n hx hb dX0_onward_7 rfl (lv_at hl 1 rfl) ?_
    refine lv_iload_n hx hb dX0_onward_8 rfl (lv_at hl 2 rfl) ?_
    refine lv_iadd hx hb dX0_onward_9 ?_
    refine lv_aload_n hx hb dX0_onward_10 rfl (lv_at hl 0 rfl) ?_
    refine va_get (D := gD g) (ci := 0) (v := .int (sNq (cS σ))) (C := RX0) (T := TX0) (N := 17) hx hb hts hi0 hown hK hP 0 rfl rfl 2 (by decide) k0 (fun _ h9 => h9) rfl dX0_onward_11 ?_
    have h0 := hv.1
    have hv := hv.2
    refine lv_irem hx hb dX0_onward_14 h0 ?_
    refine lv_goto (tgt := 19) hx hb dX0_onward_15 (by decide) ?_
    exact W.iret (v := ((p0 + p1) - (p0 + p1) / (sNq (cS σ)) * (sNq (cS σ)))) hx hb hr (fun t ht hW => ⟨⟨((p0 + p1) - (p0 + p1) / (sNq (cS σ)) * (sNq (cS σ))), (), rfl, hv, trivial⟩, hS.F ht⟩) hS.2.2 dX0_onward_19

set_option maxHeartbeats 4000000 in
set_option maxRecDepth 100000 in
theorem m_X0_plainYes (l : Launch)  (g : CX) (ad : Nat → Nat) (o : Nat) (σ : KC) (p0 : Int32) (p1 : Int32) (Post : Int64 → Prop) (hv : vc_X0_plainYes σ p0 p1 Post) : Met l yX0_plainYes wsX0_plainYes { frames := 0, cells := 0, slots := 0, locals := 0 } (va_Pc [.ref (ad o), .int p0, .int p1] (RO g (wC g ad o σ))) (va_Ql (fun r (_ : Unit) => Post r) (fun _ _ => True) A0) 0 0 A0 := by
  unfold vc_X0_plainYes at hv
  refine Met.ofW (cc := cX0_plainYes) (maxL := 4) (ret := (some .long)) (by decide) rfl ?_
  intro p e s m args below meth c s₁ B hml hv0
  obtain ⟨rfl, hP, hK, hE⟩ := hv0
  have hx := B.exec
  have hb := B.bytes
  have hr := B.returns
  have hts := atoms_spec (ws := wsX0_plainYes) B.pre
  have hown : s.vm.findClass RX0 = some m.cls := findClass_of_methodNamed B.named
  have hlocks := B.notSynchronized
  have hi0 : ∀ w ∈ wsX00, w ∈ wsX0_plainYes := by decide +kernel
  have k0 := hts (.fieldLink RX0 21 "JuryHearsAnswers$Court" "needed" "[I") (by decide +kernel)
  have k1 := hts (.fieldLink RX0 34 "JuryHearsAnswers$Court" "known" "[I") (by decide +kernel)
  have k2 := hts (.fieldLink RX0 24 "JuryHearsAnswers$Court" "truth" "[J") (by decide +kernel)
  have hS : va_S A0 s.heap s.heap [] := va_S.rf
  have hP : va_P (gD g) vwCl (wC g ad o σ) s.heap := hP
  have hl := lv_entry ([.ref (ad o), .int p0, .int p1]) (n := 4) (Nat.le_of_ble_eq_true rfl)
  rw [lg_entry_eq]
  generalize (lg_sl ([.ref (ad o), .int p0, .int p1]) ++ List.replicate (4 - (lg_sl ([.ref (ad o), .int p0, .int p1])).length) Slot.unset).toArray = ls at hl ⊢
  have hl : lv_has ls 4 [(0, .ref (ad o)), (1, .int p0), (2, .int p1)] := hl
  obtain ⟨H, hH⟩ : ∃ z, z = s.heap := ⟨_, rfl⟩
  obtain ⟨locs, hL⟩ : ∃ z : List Loc, z = [] := ⟨_, rfl⟩
  rw [← hL] at hS ⊢
  have hS : va_S A0 s.heap H locs := by rw [hH]; exact hS
  rw [← hH] at hP ⊢
  clear hH hL
  refine lv_aload_n hx hb dX0_plainYes_0 rfl (lv_at hl 0 rfl) ?_
  refine va_get (D := gD g) (ci := 0) (v := .ref (ad (o + 4))) (C := RX0) (T := TX0) (N := 17) hx hb hts hi0 hown hK hP 0 rfl rfl 8 (by decide) k0 (fun _ h9 => h9) rfl dX0_plainYes_1 ?_
  refine lv_iload_n hx hb dX0_plainYes_4 rfl (lv_at hl 2 rfl) ?_
  have h9 := hv.1
  have hv := hv.2
  refine va_iald (f := (cNeeded σ)) (n := 8) hx hb hK hP 4 0 rfl rfl h9 dX0_plainYes_5 ?_
  refine lv_aload_n hx hb dX0_plainYes_6 rfl (lv_at hl 0 rfl) ?_
  refine va_get (D := gD g) (ci := 0) (v := .ref (ad (o + 8))) (C := RX0) (T := TX0) (N := 17) hx hb hts hi0 hown hK hP 0 rfl rfl 12 (by decide) k1 (fun _ h9 => h9) rfl dX0_plainYes_7 ?_
  refine lv_iload_n hx hb dX0_plainYes_10 rfl (lv_at hl 1 rfl) ?_
  have h9 := hv.1
  have hv := hv.2
  refine va_iald (f := (sKnows (cS σ))) (n := 5) hx hb hK hP 8 0 rfl rfl h9 dX0_plainYes_11 ?_
  refine lv_iconst (v := (-1)) hx hb dX0_plainYes_12 (by decide) ?_
  refine lv_ixor hx hb dX0_plainYes_13 ?_
  refine lv_iand hx hb dX0_plainYes_14 ?_
  refine lv_if_ne (tgt := 22) hx hb dX0_plainYes_15 (by decide) (fun c15 => ?_) (fun c15 => ?_)
  · have hv := hv.1 c15
    refine lv_iconst (v := 0) hx hb dX0_plainYes_22 (by decide) ?_
    refine lv_istore_n (lv' := [(3, .int 0), (0, .ref (ad o)), (1, .int p0), (2, .int p1)]) hx hb dX0_plainYes_23 rfl hl (by decide) rfl (fun ls hl => ?_)
    refine lv_iload_n hx hb dX0_plainYes_24 rfl (lv_at hl 0 rfl) ?_
    refine lv_if_eq (tgt := 37) hx hb dX0_plainYes_25 (by decide) (fun c25 => ?_) (fun c25 => ?_)
    · refine lv_lconst (v := 0) hx hb dX0_plainYes_37 (by decide) ?_
      exact W.lret (v := 0) hx hb hr (fun t ht hW => ⟨⟨0, (), rfl, hv, trivial⟩, hS.F ht⟩) hS.2.2 dX0_plainYes_38
    · exact (c25 (by decide)).elim
  · have hv := hv.2 c15
    refine lv_iconst (v := 1) hx hb dX0_plainYes_18 (by decide) ?_
    refine lv_goto (tgt := 23) hx hb dX0_plainYes_19 (by decide) ?_
    refine lv_istore_n (lv' := [(3, .int 1), (0, .ref (ad o)), (1, .int p0), (2, .int p1)]) hx hb dX0_plainYes_23 rfl hl (by decide) rfl (fun ls hl => ?_)
    refine lv_iload_n hx hb dX0_plainYes_24 rfl (lv_at hl 0 rfl) ?_
    refine lv_if_eq (tgt := 37) hx hb dX0_plainYes_25 (by decide) (fun c25 => ?_) (fun c25 => ?_)
    · exact absurd c25 (by decide)
    · refine lv_aload_n hx hb dX0_plainYes_28 rfl (lv_at hl 1 rfl) ?_
      refine va_get (D := gD g) (ci := 0) (v := .ref (ad (o + 5))) (C := RX0) (T := TX0) (N := 17) hx hb hts hi0 hown hK hP 0 rfl rfl 9 (by decide) k2 (fun _ h9 => h9) rfl dX0_plainYes_29 ?_
      refine lv_iload_n hx hb dX0_plainYes_32 rfl (lv_at hl 3 rfl) ?_
      have h9 := hv.1
      have hv := hv.2
      refine va_lald (f := (cTruth σ)) (n := 8) hx hb hK hP 5 1 rfl rfl h9 dX0_plainYes_33 ?_
      refine lv_goto (tgt := 38) hx hb dX0_plainYes_34 (by decide) ?_
      exact W.lret (v := ((cTruth σ) (p1).toNatClampNeg)) hx hb hr (fun t ht hW => ⟨⟨((cTruth σ) (p1).toNatClampNeg), (), rfl, hv, trivial⟩, hS.F ht⟩) hS.2.2 dX0_plainYes_38

set_option maxHeartbeats 4000000 in
set_option maxRecDepth 100000 in
theorem m_X0_plainNo (l : Launch)  (g : CX) (ad : Nat → Nat) (o : Nat) (σ : KC) (p0 : Int32) (p1 : Int32) (Post : Int64 → Prop) (hv : vc_X0_plainNo σ p0 p1 Post) : Met l yX0_plainNo wsX0_plainNo { frames := 0, cells := 0, slots := 0, locals := 0 } (va_Pc [.ref (ad o), .int p0, .int p1] (RO g (wC g ad o σ))) (va_Ql (fun r (_ : Unit) => Post r) (fun _ _ => True) A0) 0 0 A0 := by
  unfold vc_X0_plainNo at hv
  refine Met.ofW (cc := cX0_plainNo) (maxL := 4) (ret := (some .long)) (by decide) rfl ?_
  intro p e s m args below meth c s₁ B hml hv0
  obtain ⟨rfl, hP, hK, hE⟩ := hv0
  have hx := B.exec
  have hb := B.bytes
  have hr := B.returns
  have hts := atoms_spec (ws := wsX0_plainNo) B.pre
  have hown : s.vm.findClass RX0 = some m.cls := findClass_of_methodNamed B.named
  have hlocks := B.notSynchronized
  have hi0 : ∀ w ∈ wsX00, w ∈ wsX0_plainNo := by decide +kernel
  have k0 := hts (.fieldLink RX0 21 "JuryHearsAnswers$Court" "needed" "[I") (by decide +kernel)
  have k1 := hts (.fieldLink RX0 34 "JuryHearsAnswers$Court" "known" "[I") (by decide +kernel)
  have k2 := hts (.fieldLink RX0 24 "JuryHearsAnswers$Court" "truth" "[J") (by decide +kernel)
  have k3 := hts (.constantLong RX0 96 (-1)) (by decide +kernel)
  have hS : va_S A0 s.heap s.heap [] := va_S.rf
  have hP : va_P (gD g) vwCl (wC g ad o σ) s.heap := hP
  have hl := lv_entry ([.ref (ad o), .int p0, .int p1]) (n := 4) (Nat.le_of_ble_eq_true rfl)
  rw [lg_entry_eq]
  generalize (lg_sl ([.ref (ad o), .int p0, .int p1]) ++ List.replicate (4 - (lg_sl ([.ref (ad o), .int p0, .int p1])).length) Slot.unset).toArray = ls at hl ⊢
  have hl : lv_has ls 4 [(0, .ref (ad o)), (1, .int p0), (2, .int p1)] := hl
  obtain ⟨H, hH⟩ : ∃ z, z = s.heap := ⟨_, rfl⟩
  obtain ⟨locs, hL⟩ : ∃ z : List Loc, z = [] := ⟨_, rfl⟩
  rw [← hL] at hS ⊢
  have hS : va_S A0 s.heap H locs := by rw [hH]; exact hS
  rw [← hH] at hP ⊢
  clear hH hL
  refine lv_aload_n hx hb dX0_plainNo_0 rfl (lv_at hl 0 rfl) ?_
  refine va_get (D := gD g) (ci := 0) (v := .ref (ad (o + 4))) (C := RX0) (T := TX0) (N := 17) hx hb hts hi0 hown hK hP 0 rfl rfl 8 (by decide) k0 (fun _ h9 => h9) rfl dX0_plainNo_1 ?_
  refine lv_iload_n hx hb dX0_plainNo_4 rfl (lv_at hl 2 rfl) ?_
  have h9 := hv.1
  have hv := hv.2
  refine va_iald (f := (cNeeded σ)) (n := 8) hx hb hK hP 4 0 rfl rfl h9 dX0_plainNo_5 ?_
  refine lv_aload_n hx hb dX0_plainNo_6 rfl (lv_at hl 0 rfl) ?_
  refine va_get (D := gD g) (ci := 0) (v := .ref (ad (o + 8))) (C := RX0) (T := TX0) (N := 17) hx hb hts hi0 hown hK hP 0 rfl rfl 12 (by decide) k1 (fun _ h9 => h9) rfl dX0_plainNo_7 ?_
  refine lv_iload_n hx hb dX0_plainNo_10 rfl (lv_at hl 1 rfl) ?_
  have h9 := hv.1
  have hv := hv.2
  refine va_iald (f := (sKnows (cS σ))) (n := 5) hx hb hK hP 8 0 rfl rfl h9 dX0_plainNo_11 ?_
  refine lv_iconst (v := (-1)) hx hb dX0_plainNo_12 (by decide) ?_
  refine lv_ixor hx hb dX0_plainNo_13 ?_
  refine lv_iand hx hb dX0_plainNo_14 ?_
  refine lv_if_ne (tgt := 22) hx hb dX0_plainNo_15 (by decide) (fun c15 => ?_) (fun c15 => ?_)
  · have hv := hv.1 c15
    refine lv_iconst (v := 0) hx hb dX0_plainNo_22 (by decide) ?_
    refine lv_istore_n (lv' := [(3, .int 0), (0, .ref (ad o)), (1, .int p0), (2, .int p1)]) hx hb dX0_plainNo_23 rfl hl (by decide) rfl (fun ls hl => ?_)
    refine lv_iload_n hx hb dX0_plainNo_24 rfl (lv_at hl 0 rfl) ?_
    refine lv_if_eq (tgt := 41) hx hb dX0_plainNo_25 (by decide) (fun c25 => ?_) (fun c25 => ?_)
    · refine lv_lconst (v := 0) hx hb dX0_plainNo_41 (by decide) ?_
      exact W.lret (v := 0) hx hb hr (fun t ht hW => ⟨⟨0, (), rfl, hv, trivial⟩, hS.F ht⟩) hS.2.2 dX0_plainNo_42
    · exact (c25 (by decide)).elim
  · have hv := hv.2 c15
    refine lv_iconst (v := 1) hx hb dX0_plainNo_18 (by decide) ?_
    refine lv_goto (tgt := 23) hx hb dX0_plainNo_19 (by decide) ?_
    refine lv_istore_n (lv' := [(3, .int 1), (0, .ref (ad o)), (1, .int p0), (2, .int p1)]) hx hb dX0_plainNo_23 rfl hl (by decide) rfl (fun ls hl => ?_)
    refine lv_iload_n hx hb dX0_plainNo_24 rfl (lv_at hl 0 rfl) ?_
    refine lv_if_eq (tgt := 41) hx hb dX0_plainNo_25 (by decide) (fun c25 => ?_) (fun c25 => ?_)
    · exact absurd c25 (by decide)
    · refine lv_aload_n hx hb dX0_plainNo_28 rfl (lv_at hl 1 rfl) ?_
      refine va_get (D := gD g) (ci := 0) (v := .ref (ad (o + 5))) (C := RX0) (T := TX0) (N := 17) hx hb hts hi0 hown hK hP 0 rfl rfl 9 (by decide) k2 (fun _ h9 => h9) rfl dX0_plainNo_29 ?_
      refine lv_iload_n hx hb dX0_plainNo_32 rfl (lv_at hl 3 rfl) ?_
      have h9 := hv.1
      have hv := hv.2
      refine va_lald (f := (cTruth σ)) (n := 8) hx hb hK hP 5 1 rfl rfl h9 dX0_plainNo_33 ?_
      refine lv_ldc2 hx hb hown k3 dX0_plainNo_34 ?_
      refine lv_lxor hx hb dX0_plainNo_37 ?_
      refine lv_goto (tgt := 42) hx hb dX0_plainNo_38 (by decide) ?_
      exact W.lret (v := (((cTruth σ) (p1).toNatClampNeg) ^^^ (-1))) hx hb hr (fun t ht hW => ⟨⟨(((cTruth σ) (p1).toNatClampNeg) ^^^ (-1)), (), rfl, hv, trivial⟩, hS.F ht⟩) hS.2.2 dX0_plainNo_42

set_option maxHeartbeats 4000000 in
set_option maxRecDepth 100000 in
theorem m_X0_forgets (l : Launch)  (g : CX) (ad : Nat → Nat) (o : Nat) (σ : KC) (p0 : Int32) (p1 : Int32) (Post : Int32 → Prop) (hv : vc_X0_forgets σ p0 p1 Post) : Met l yX0_forgets wsX0_forgets { frames := 0, cells := 0, slots := 0, locals := 0 } (va_Pc [.ref (ad o), .int p0, .int p1] (RO g (wC g ad o σ))) (va_Qi (fun r (_ : Unit) => Post r) (fun _ _ => True) A0) 0 0 A0 := by
  unfold vc_X0_forgets at hv
  refine Met.ofW (cc := cX0_forgets) (maxL := 4) (ret := (some .boolean)) (by decide) rfl ?_
  intro p e s m args below meth c s₁ B hml hv0
  obtain ⟨rfl, hP, hK, hE⟩ := hv0
  have hx := B.exec
  have hb := B.bytes
  have hr := B.returns
  have hts := atoms_spec (ws := wsX0_forgets) B.pre
  have hown : s.vm.findClass RX0 = some m.cls := findClass_of_methodNamed B.named
  have hlocks := B.notSynchronized
  have hi0 : ∀ w ∈ wsX00, w ∈ wsX0_forgets := by decide +kernel
  have k0 := hts (.fieldLink RX0 31 "JuryHearsAnswers$Court" "figure" "[I") (by decide +kernel)
  have hS : va_S A0 s.heap s.heap [] := va_S.rf
  have hP : va_P (gD g) vwCl (wC g ad o σ) s.heap := hP
  have hl := lv_entry ([.ref (ad o), .int p0, .int p1]) (n := 4) (Nat.le_of_ble_eq_true rfl)
  rw [lg_entry_eq]
  generalize (lg_sl ([.ref (ad o), .int p0, .int p1]) ++ List.replicate (4 - (lg_sl ([.ref (ad o), .int p0, .int p1])).length) Slot.unset).toArray = ls at hl ⊢
  have hl : lv_has ls 4 [(0, .ref (ad o)), (1, .int p0), (2, .int p1)] := hl
  obtain ⟨H, hH⟩ : ∃ z, z = s.heap := ⟨_, rfl⟩
  obtain ⟨locs, hL⟩ : ∃ z : List Loc, z = [] := ⟨_, rfl⟩
  rw [← hL] at hS ⊢
  have hS : va_S A0 s.heap H locs := by rw [hH]; exact hS
  rw [← hH] at hP ⊢
  clear hH hL
  refine lv_aload_n hx hb dX0_forgets_0 rfl (lv_at hl 0 rfl) ?_
  refine va_get (D := gD g) (ci := 0) (v := .ref (ad (o + 7))) (C := RX0) (T := TX0) (N := 17) hx hb hts hi0 hown hK hP 0 rfl rfl 11 (by decide) k0 (fun _ h9 => h9) rfl dX0_forgets_1 ?_
  refine lv_iload_n hx hb dX0_forgets_4 rfl (lv_at hl 1 rfl) ?_
  have h9 := hv.1
  have hv := hv.2
  refine va_iald (f := (sFigure (cS σ))) (n := 5) hx hb hK hP 7 0 rfl rfl h9 dX0_forgets_5 ?_
  refine lv_iconst (v := 1) hx hb dX0_forgets_6 (by decide) ?_
  refine lv_iadd hx hb dX0_forgets_7 ?_
  refine lv_istore_n (lv' := [(3, .int (((sFigure (cS σ)) (p0).toNatClampNeg) + 1)), (0, .ref (ad o)), (1, .int p0), (2, .int p1)]) hx hb dX0_forgets_8 rfl hl (by decide) rfl (fun ls hl => ?_)
  refine lv_iload_n hx hb dX0_forgets_9 rfl (lv_at hl 0 rfl) ?_
  refine lv_if_le (tgt := 23) hx hb dX0_forgets_10 (by decide) (fun c10 => ?_) (fun c10 => ?_)
  · have hv := hv.1 c10
    refine lv_iconst (v := 0) hx hb dX0_forgets_23 (by decide) ?_
    exact W.zret (v := 0) hx hb hr rfl (fun t ht hW => ⟨⟨0, (), rfl, hv, trivial⟩, hS.F ht⟩) hS.2.2 dX0_forgets_24
  · have hv := hv.2 c10
    refine lv_iload_n hx hb dX0_forgets_13 rfl (lv_at hl 3 rfl) ?_
    refine lv_iload_n hx hb dX0_forgets_14 rfl (lv_at hl 0 rfl) ?_
    have h0 := hv.1
    have hv := hv.2
    refine lv_irem hx hb dX0_forgets_15 h0 ?_
    refine lv_if_ne (tgt := 23) hx hb dX0_forgets_16 (by decide) (fun c16 => ?_) (fun c16 => ?_)
    · have hv := hv.1 c16
      refine lv_iconst (v := 0) hx hb dX0_forgets_23 (by decide) ?_
      exact W.zret (v := 0) hx hb hr rfl (fun t ht hW => ⟨⟨0, (), rfl, hv, trivial⟩, hS.F ht⟩) hS.2.2 dX0_forgets_24
    · have hv := hv.2 c16
      refine lv_iconst (v := 1) hx hb dX0_forgets_19 (by decide) ?_
      refine lv_goto (tgt := 24) hx hb dX0_forgets_20 (by decide) ?_
      exact W.zret (v := 1) hx hb hr rfl (fun t ht hW => ⟨⟨1, (), rfl, hv, trivial⟩, hS.F ht⟩) hS.2.2 dX0_forgets_24

set_option maxHeartbeats 4000000 in
set_option maxRecDepth 100000 in
theorem m_X0_yes (l : Launch) (h_X0_forgets : C_X0_forgets l) (h_X0_hasQuestion : C_X0_hasQuestion l) (h_X0_hasWitness : C_X0_hasWitness l) (h_X0_onward : C_X0_onward l) (h_X0_plainNo : C_X0_plainNo l) (h_X0_plainYes : C_X0_plainYes l) (g : CX) (ad : Nat → Nat) (o : Nat) (σ : KC) (p0 : Int32) (p1 : Int32) (p2 : Int32) (Post : Int64 → Prop) (hv : vc_X0_yes σ p0 p1 p2 Post) : Met l yX0_yes wsX0_yes { frames := 1, cells := 0, slots := 0, locals := 23 } (va_Pc [.ref (ad o), .int p0, .int p1, .int p2] (RO g (wC g ad o σ))) (va_Ql (fun r (_ : Unit) => Post r) (fun _ _ => True) A0) 0 0 A0 := by
  unfold vc_X0_yes at hv
  refine Met.ofW (cc := cX0_yes) (maxL := 4) (ret := (some .long)) (by decide) rfl ?_
  intro p e s m args below meth c s₁ B hml hv0
  obtain ⟨rfl, hP, hK, hE⟩ := hv0
  have hx := B.exec
  have hb := B.bytes
  have hr := B.returns
  have hts := atoms_spec (ws := wsX0_yes) B.pre
  have hown : s.vm.findClass RX0 = some m.cls := findClass_of_methodNamed B.named
  have hlocks := B.notSynchronized
  have hi0 : ∀ w ∈ wsX00, w ∈ wsX0_yes := by decide +kernel
  have k0 := hts (.fieldLink RX0 28 "JuryHearsAnswers$Court" "kind" "[I") (by decide +kernel)
  have k1 := hts (.constantLong RX0 96 (-1)) (by decide +kernel)
  have hS : va_S A0 s.heap s.heap [] := va_S.rf
  have hP : va_P (gD g) vwCl (wC g ad o σ) s.heap := hP
  have hl := lv_entry ([.ref (ad o), .int p0, .int p1, .int p2]) (n := 4) (Nat.le_of_ble_eq_true rfl)
  rw [lg_entry_eq]
  generalize (lg_sl ([.ref (ad o), .int p0, .int p1, .int p2]) ++ List.replicate (4 - (lg_sl ([.ref (ad o), .int p0, .int p1, .int p2])).length) Slot.unset).toArray = ls at hl ⊢
  have hl : lv_has ls 4 [(0, .ref (ad o)), (1, .int p0), (2, .int p1), (3, .int p2)] := hl
  obtain ⟨H, hH⟩ : ∃ z, z = s.heap := ⟨_, rfl⟩
  obtain ⟨locs, hL⟩ : ∃ z : List Loc, z = [] := ⟨_, rfl⟩
  rw [← hL] at hS ⊢
  have hS : va_S A0 s.heap H locs := by rw [hH]; exact hS
  rw [← hH] at hP ⊢
  clear hH hL
  refine lv_aload_n hx hb dX0_yes_0 rfl (lv_at hl 0 rfl) ?_
  refine lv_iload_n hx hb dX0_yes_1 rfl (lv_at hl 1 rfl) ?_
  have hPc := hP
  refine ro_int (va_runV (As := [.int p0]) (rest := []) ⟨hx, hb, hml, hown, hts⟩ (h_X0_hasWitness g ad o σ p0) (cwV 1 hts gX0_yes_X0_hasWitness rfl rfl rfl (by decide +kernel) ⟨Nat.le_of_ble_eq_true rfl, Nat.le_of_ble_eq_true rfl⟩) ⟨RO_blind, va_recv hK hP (ci := 0) (q0 := 0) rfl rfl, fun U hU hW => ⟨rfl, by rw [hU]; exact hPc, va_K.moved hW.alike hK, hE.call hW hU hS (fun _ h => h.elim)⟩⟩ rfl rfl hl.1 rfl (lv_room (Nat.le_of_ble_eq_true rfl)) dX0_yes_2 ⟨Nat.le_of_ble_eq_true rfl, Nat.le_of_ble_eq_true rfl⟩) hS hP (fun r H locs hw hP hS => ?_)
  subst r
  refine lv_if_eq (tgt := 16) hx hb dX0_yes_5 (by decide) (fun c5 => ?_) (fun c5 => ?_)
  · have hv := hv.1 c5
    refine lv_lconst (v := 0) hx hb dX0_yes_16 (by decide) ?_
    exact W.lret (v := 0) hx hb hr (fun t ht hW => ⟨⟨0, (), rfl, hv, trivial⟩, hS.F ht⟩) hS.2.2 dX0_yes_17
  · have hv := hv.2 c5
    refine lv_aload_n hx hb dX0_yes_8 rfl (lv_at hl 0 rfl) ?_
    refine lv_iload_n hx hb dX0_yes_9 rfl (lv_at hl 2 rfl) ?_
    have hPc := hP
    refine ro_int (va_runV (As := [.int p1]) (rest := []) ⟨hx, hb, hml, hown, hts⟩ (h_X0_hasQuestion g ad o σ p1) (cwV 1 hts gX0_yes_X0_hasQuestion rfl rfl rfl (by decide +kernel) ⟨Nat.le_of_ble_eq_true rfl, Nat.le_of_ble_eq_true rfl⟩) ⟨RO_blind, va_recv hK hP (ci := 0) (q0 := 0) rfl rfl, fun U hU hW => ⟨rfl, by rw [hU]; exact hPc, va_K.moved hW.alike hK, hE.call hW hU hS (fun _ h => h.elim)⟩⟩ rfl rfl hl.1 rfl (lv_room (Nat.le_of_ble_eq_true rfl)) dX0_yes_10 ⟨Nat.le_of_ble_eq_true rfl, Nat.le_of_ble_eq_true rfl⟩) hS hP (fun r H locs hw hP hS => ?_)
    subst r
    refine lv_if_ne (tgt := 18) hx hb dX0_yes_13 (by decide) (fun c13 => ?_) (fun c13 => ?_)
    · have hv := hv.1 c13
      refine lv_aload_n hx hb dX0_yes_18 rfl (lv_at hl 0 rfl) ?_
      refine va_get (D := gD g) (ci := 0) (v := .ref (ad (o + 6))) (C := RX0) (T := TX0) (N := 17) hx hb hts hi0 hown hK hP 0 rfl rfl 10 (by decide) k0 (fun _ h9 => h9) rfl dX0_yes_19 ?_
      refine lv_iload_n hx hb dX0_yes_22 rfl (lv_at hl 1 rfl) ?_
      have h9 := hv.1
      have hv := hv.2
      refine va_iald (f := (sKind (cS σ))) (n := 5) hx hb hK hP 6 0 rfl rfl h9 dX0_yes_23 ?_
      by_cases d24_1 : ((sKind (cS σ)) (p0).toNatClampNeg) = 1
      · have hv := hv.1 d24_1
        refine lv_tableIn (off := 36) (tgt := 60) hx hb dX0_yes_24 (by rw [d24_1]; decide) (by rw [d24_1]; decide) (by rw [d24_1]; rfl) (by decide) ?_
        refine lv_aload_n hx hb dX0_yes_60 rfl (lv_at hl 0 rfl) ?_
        refine lv_iload_n hx hb dX0_yes_61 rfl (lv_at hl 1 rfl) ?_
        refine lv_iload_n hx hb dX0_yes_62 rfl (lv_at hl 2 rfl) ?_
        have h8 := hv.1
        have hv := hv.2
        have hPc := hP
        refine ro_long (va_runV (As := [.int p0, .int p1]) (rest := []) ⟨hx, hb, hml, hown, hts⟩ (h_X0_plainNo g ad o σ p0 p1 h8) (cwV 2 hts gX0_yes_X0_plainNo rfl rfl rfl (by decide +kernel) ⟨Nat.le_of_ble_eq_true rfl, Nat.le_of_ble_eq_true rfl⟩) ⟨RO_blind, va_recv hK hP (ci := 0) (q0 := 0) rfl rfl, fun U hU hW => ⟨rfl, by rw [hU]; exact hPc, va_K.moved hW.alike hK, hE.call hW hU hS (fun _ h => h.elim)⟩⟩ rfl rfl hl.1 rfl (lv_room (Nat.le_of_ble_eq_true rfl)) dX0_yes_63 ⟨Nat.le_of_ble_eq_true rfl, Nat.le_of_ble_eq_true rfl⟩) hS hP (fun r H locs hw hP hS => ?_)
        subst r
        exact W.lret (v := (plainNoL σ p0 p1)) hx hb hr (fun t ht hW => ⟨⟨(plainNoL σ p0 p1), (), rfl, hv, trivial⟩, hS.F ht⟩) hS.2.2 dX0_yes_66
      · have hv := hv.2 d24_1
        by_cases d24_3 : ((sKind (cS σ)) (p0).toNatClampNeg) = 3
        · have hv := hv.1 d24_3
          refine lv_tableIn (off := 43) (tgt := 67) hx hb dX0_yes_24 (by rw [d24_3]; decide) (by rw [d24_3]; decide) (by rw [d24_3]; rfl) (by decide) ?_
          refine lv_aload_n hx hb dX0_yes_67 rfl (lv_at hl 0 rfl) ?_
          refine lv_iload_n hx hb dX0_yes_68 rfl (lv_at hl 1 rfl) ?_
          refine lv_iload_n hx hb dX0_yes_69 rfl (lv_at hl 3 rfl) ?_
          have h8 := hv.1
          have hv := hv.2
          have hPc := hP
          refine ro_int (va_runV (As := [.int p0, .int p2]) (rest := []) ⟨hx, hb, hml, hown, hts⟩ (h_X0_forgets g ad o σ p0 p2 h8) (cwV 2 hts gX0_yes_X0_forgets rfl rfl rfl (by decide +kernel) ⟨Nat.le_of_ble_eq_true rfl, Nat.le_of_ble_eq_true rfl⟩) ⟨RO_blind, va_recv hK hP (ci := 0) (q0 := 0) rfl rfl, fun U hU hW => ⟨rfl, by rw [hU]; exact hPc, va_K.moved hW.alike hK, hE.call hW hU hS (fun _ h => h.elim)⟩⟩ rfl rfl hl.1 rfl (lv_room (Nat.le_of_ble_eq_true rfl)) dX0_yes_70 ⟨Nat.le_of_ble_eq_true rfl, Nat.le_of_ble_eq_true rfl⟩) hS hP (fun r H locs hw hP hS => ?_)
          subst r
          refine lv_if_eq (tgt := 80) hx hb dX0_yes_73 (by decide) (fun c73 => ?_) (fun c73 => ?_)
          · have hv := hv.1 c73
            refine lv_aload_n hx hb dX0_yes_80 rfl (lv_at hl 0 rfl) ?_
            refine lv_iload_n hx hb dX0_yes_81 rfl (lv_at hl 1 rfl) ?_
            refine lv_iload_n hx hb dX0_yes_82 rfl (lv_at hl 2 rfl) ?_
            have h8 := hv.1
            have hv := hv.2
            have hPc := hP
            refine ro_long (va_runV (As := [.int p0, .int p1]) (rest := []) ⟨hx, hb, hml, hown, hts⟩ (h_X0_plainYes g ad o σ p0 p1 h8) (cwV 2 hts gX0_yes_X0_plainYes rfl rfl rfl (by decide +kernel) ⟨Nat.le_of_ble_eq_true rfl, Nat.le_of_ble_eq_true rfl⟩) ⟨RO_blind, va_recv hK hP (ci := 0) (q0 := 0) rfl rfl, fun U hU hW => ⟨rfl, by rw [hU]; exact hPc, va_K.moved hW.alike hK, hE.call hW hU hS (fun _ h => h.elim)⟩⟩ rfl rfl hl.1 rfl (lv_room (Nat.le_of_ble_eq_true rfl)) dX0_yes_83 ⟨Nat.le_of_ble_eq_true rfl, Nat.le_of_ble_eq_true rfl⟩) hS hP (fun r H locs hw hP hS => ?_)
            subst r
            exact W.lret (v := (plainYesL σ p0 p1)) hx hb hr (fun t ht hW => ⟨⟨(plainYesL σ p0 p1), (), rfl, hv, trivial⟩, hS.F ht⟩) hS.2.2 dX0_yes_86
          · have hv := hv.2 c73
            refine lv_lconst (v := 0) hx hb dX0_yes_76 (by decide) ?_
            refine lv_goto (tgt := 86) hx hb dX0_yes_77 (by decide) ?_
            exact W.lret (v := 0) hx hb hr (fun t ht hW => ⟨⟨0, (), rfl, hv, trivial⟩, hS.F ht⟩) hS.2.2 dX0_yes_86
        · have hv := hv.2 d24_3
          by_cases d24_4 : ((sKind (cS σ)) (p0).toNatClampNeg) = 4
          · have hv := hv.1 d24_4
            refine lv_tableIn (off := 63) (tgt := 87) hx hb dX0_yes_24 (by rw [d24_4]; decide) (by rw [d24_4]; decide) (by rw [d24_4]; rfl) (by decide) ?_
            refine lv_aload_n hx hb dX0_yes_87 rfl (lv_at hl 0 rfl) ?_
            refine lv_iload_n hx hb dX0_yes_88 rfl (lv_at hl 1 rfl) ?_
            refine lv_aload_n hx hb dX0_yes_89 rfl (lv_at hl 0 rfl) ?_
            refine lv_iload_n hx hb dX0_yes_90 rfl (lv_at hl 2 rfl) ?_
            refine lv_iconst (v := 1) hx hb dX0_yes_91 (by decide) ?_
            have hPc := hP
            refine ro_int (va_runV (As := [.int p1, .int 1]) (rest := [.int p0, .ref (ad o)]) ⟨hx, hb, hml, hown, hts⟩ (h_X0_onward g ad o σ p1 1) (cwV 2 hts gX0_yes_X0_onward rfl rfl rfl (by decide +kernel) ⟨Nat.le_of_ble_eq_true rfl, Nat.le_of_ble_eq_true rfl⟩) ⟨RO_blind, va_recv hK hP (ci := 0) (q0 := 0) rfl rfl, fun U hU hW => ⟨rfl, by rw [hU]; exact hPc, va_K.moved hW.alike hK, hE.call hW hU hS (fun _ h => h.elim)⟩⟩ rfl rfl hl.1 rfl (lv_room (Nat.le_of_ble_eq_true rfl)) dX0_yes_92 ⟨Nat.le_of_ble_eq_true rfl, Nat.le_of_ble_eq_true rfl⟩) hS hP (fun r H locs hw hP hS => ?_)
            subst r
            have h8 := hv.1
            have hv := hv.2
            have hPc := hP
            refine ro_long (va_runV (As := [.int p0, .int (onwardI (cS σ) p1 (1 : Int32))]) (rest := []) ⟨hx, hb, hml, hown, hts⟩ (h_X0_plainYes g ad o σ p0 (onwardI (cS σ) p1 (1 : Int32)) h8) (cwV 2 hts gX0_yes_X0_plainYes rfl rfl rfl (by decide +kernel) ⟨Nat.le_of_ble_eq_true rfl, Nat.le_of_ble_eq_true rfl⟩) ⟨RO_blind, va_recv hK hP (ci := 0) (q0 := 0) rfl rfl, fun U hU hW => ⟨rfl, by rw [hU]; exact hPc, va_K.moved hW.alike hK, hE.call hW hU hS (fun _ h => h.elim)⟩⟩ rfl rfl hl.1 rfl (lv_room (Nat.le_of_ble_eq_true rfl)) dX0_yes_95 ⟨Nat.le_of_ble_eq_true rfl, Nat.le_of_ble_eq_true rfl⟩) hS hP (fun r H locs hw hP hS => ?_)
            subst r
            exact W.lret (v := (plainYesL σ p0 (onwardI (cS σ) p1 (1 : Int32)))) hx hb hr (fun t ht hW => ⟨⟨(plainYesL σ p0 (onwardI (cS σ) p1 (1 : Int32))), (), rfl, hv, trivial⟩, hS.F ht⟩) hS.2.2 dX0_yes_98
          · have hv := hv.2 d24_4
            by_cases d24_5 : ((sKind (cS σ)) (p0).toNatClampNeg) = 5
            · have hv := hv.1 d24_5
              refine lv_tableIn (off := 75) (tgt := 99) hx hb dX0_yes_24 (by rw [d24_5]; decide) (by rw [d24_5]; decide) (by rw [d24_5]; rfl) (by decide) ?_
              refine lv_ldc2 hx hb hown k1 dX0_yes_99 ?_
              exact W.lret (v := (-1)) hx hb hr (fun t ht hW => ⟨⟨(-1), (), rfl, hv, trivial⟩, hS.F ht⟩) hS.2.2 dX0_yes_102
            · have hv := hv.2 d24_5
              refine lv_tableD (tgt := 103) hx hb dX0_yes_24 (by have n0 := lv_neT (a := 1) d24_1 (by decide); have n1 := lv_neT (a := 3) d24_3 (by decide); have n2 := lv_neT (a := 4) d24_4 (by decide); have n3 := lv_neT (a := 5) d24_5 (by decide); by_cases g0 : (((sKind (cS σ)) (p0).toNatClampNeg)).toInt = 2; exact Or.inr (Or.inr (by rw [g0]; rfl)); rcases (show (((sKind (cS σ)) (p0).toNatClampNeg)).toInt < 1 ∨ 5 < (((sKind (cS σ)) (p0).toNatClampNeg)).toInt by omega) with h9 | h9; exact Or.inl h9; exact Or.inr (Or.inl h9)) (by decide) ?_
              refine lv_aload_n hx hb dX0_yes_103 rfl (lv_at hl 0 rfl) ?_
              refine lv_iload_n hx hb dX0_yes_104 rfl (lv_at hl 1 rfl) ?_
              refine lv_iload_n hx hb dX0_yes_105 rfl (lv_at hl 2 rfl) ?_
              have h8 := hv.1
              have hv := hv.2
              have hPc := hP
              refine ro_long (va_runV (As := [.int p0, .int p1]) (rest := []) ⟨hx, hb, hml, hown, hts⟩ (h_X0_plainYes g ad o σ p0 p1 h8) (cwV 2 hts gX0_yes_X0_plainYes rfl rfl rfl (by decide +kernel) ⟨Nat.le_of_ble_eq_true rfl, Nat.le_of_ble_eq_true rfl⟩) ⟨RO_blind, va_recv hK hP (ci := 0) (q0 := 0) rfl rfl, fun U hU hW => ⟨rfl, by rw [hU]; exact hPc, va_K.moved hW.alike hK, hE.call hW hU hS (fun _ h => h.elim)⟩⟩ rfl rfl hl.1 rfl (lv_room (Nat.le_of_ble_eq_true rfl)) dX0_yes_106 ⟨Nat.le_of_ble_eq_true rfl, Nat.le_of_ble_eq_true rfl⟩) hS hP (fun r H locs hw hP hS => ?_)
              subst r
              exact W.lret (v := (plainYesL σ p0 p1)) hx hb hr (fun t ht hW => ⟨⟨(plainYesL σ p0 p1), (), rfl, hv, trivial⟩, hS.F ht⟩) hS.2.2 dX0_yes_109
    · have hv := hv.2 c13
      refine lv_lconst (v := 0) hx hb dX0_yes_16 (by decide) ?_
      exact W.lret (v := 0) hx hb hr (fun t ht hW => ⟨⟨0, (), rfl, hv, trivial⟩, hS.F ht⟩) hS.2.2 dX0_yes_17

set_option maxHeartbeats 4000000 in
set_option maxRecDepth 100000 in
theorem m_X0_no (l : Launch) (h_X0_forgets : C_X0_forgets l) (h_X0_hasQuestion : C_X0_hasQuestion l) (h_X0_hasWitness : C_X0_hasWitness l) (h_X0_onward : C_X0_onward l) (h_X0_plainNo : C_X0_plainNo l) (h_X0_plainYes : C_X0_plainYes l) (g : CX) (ad : Nat → Nat) (o : Nat) (σ : KC) (p0 : Int32) (p1 : Int32) (p2 : Int32) (Post : Int64 → Prop) (hv : vc_X0_no σ p0 p1 p2 Post) : Met l yX0_no wsX0_no { frames := 1, cells := 0, slots := 0, locals := 23 } (va_Pc [.ref (ad o), .int p0, .int p1, .int p2] (RO g (wC g ad o σ))) (va_Ql (fun r (_ : Unit) => Post r) (fun _ _ => True) A0) 0 0 A0 := by
  unfold vc_X0_no at hv
  refine Met.ofW (cc := cX0_no) (maxL := 4) (ret := (some .long)) (by decide) rfl ?_
  intro p e s m args below meth c s₁ B hml hv0
  obtain ⟨rfl, hP, hK, hE⟩ := hv0
  have hx := B.exec
  have hb := B.bytes
  have hr := B.returns
  have hts := atoms_spec (ws := wsX0_no) B.pre
  have hown : s.vm.findClass RX0 = some m.cls := findClass_of_methodNamed B.named
  have hlocks := B.notSynchronized
  have hi0 : ∀ w ∈ wsX00, w ∈ wsX0_no := by decide +kernel
  have k0 := hts (.fieldLink RX0 28 "JuryHearsAnswers$Court" "kind" "[I") (by decide +kernel)
  have hS : va_S A0 s.heap s.heap [] := va_S.rf
  have hP : va_P (gD g) vwCl (wC g ad o σ) s.heap := hP
  have hl := lv_entry ([.ref (ad o), .int p0, .int p1, .int p2]) (n := 4) (Nat.le_of_ble_eq_true rfl)
  rw [lg_entry_eq]
  generalize (lg_sl ([.ref (ad o), .int p0, .int p1, .int p2]) ++ List.replicate (4 - (lg_sl ([.ref (ad o), .int p0, .int p1, .int p2])).length) Slot.unset).toArray = ls at hl ⊢
  have hl : lv_has ls 4 [(0, .ref (ad o)), (1, .int p0), (2, .int p1), (3, .int p2)] := hl
  obtain ⟨H, hH⟩ : ∃ z, z = s.heap := ⟨_, rfl⟩
  obtain ⟨locs, hL⟩ : ∃ z : List Loc, z = [] := ⟨_, rfl⟩
  rw [← hL] at hS ⊢
  have hS : va_S A0 s.heap H locs := by rw [hH]; exact hS
  rw [← hH] at hP ⊢
  clear hH hL
  refine lv_aload_n hx hb dX0_no_0 rfl (lv_at hl 0 rfl) ?_
  refine lv_iload_n hx hb dX0_no_1 rfl (lv_at hl 1 rfl) ?_
  have hPc := hP
  refine ro_int (va_runV (As := [.int p0]) (rest := []) ⟨hx, hb, hml, hown, hts⟩ (h_X0_hasWitness g ad o σ p0) (cwV 1 hts gX0_no_X0_hasWitness rfl rfl rfl (by decide +kernel) ⟨Nat.le_of_ble_eq_true rfl, Nat.le_of_ble_eq_true rfl⟩) ⟨RO_blind, va_recv hK hP (ci := 0) (q0 := 0) rfl rfl, fun U hU hW => ⟨rfl, by rw [hU]; exact hPc, va_K.moved hW.alike hK, hE.call hW hU hS (fun _ h => h.elim)⟩⟩ rfl rfl hl.1 rfl (lv_room (Nat.le_of_ble_eq_true rfl)) dX0_no_2 ⟨Nat.le_of_ble_eq_true rfl, Nat.le_of_ble_eq_true rfl⟩) hS hP (fun r H locs hw hP hS => ?_)
  subst r
  refine lv_if_eq (tgt := 16) hx hb dX0_no_5 (by decide) (fun c5 => ?_) (fun c5 => ?_)
  · have hv := hv.1 c5
    refine lv_lconst (v := 0) hx hb dX0_no_16 (by decide) ?_
    exact W.lret (v := 0) hx hb hr (fun t ht hW => ⟨⟨0, (), rfl, hv, trivial⟩, hS.F ht⟩) hS.2.2 dX0_no_17
  · have hv := hv.2 c5
    refine lv_aload_n hx hb dX0_no_8 rfl (lv_at hl 0 rfl) ?_
    refine lv_iload_n hx hb dX0_no_9 rfl (lv_at hl 2 rfl) ?_
    have hPc := hP
    refine ro_int (va_runV (As := [.int p1]) (rest := []) ⟨hx, hb, hml, hown, hts⟩ (h_X0_hasQuestion g ad o σ p1) (cwV 1 hts gX0_no_X0_hasQuestion rfl rfl rfl (by decide +kernel) ⟨Nat.le_of_ble_eq_true rfl, Nat.le_of_ble_eq_true rfl⟩) ⟨RO_blind, va_recv hK hP (ci := 0) (q0 := 0) rfl rfl, fun U hU hW => ⟨rfl, by rw [hU]; exact hPc, va_K.moved hW.alike hK, hE.call hW hU hS (fun _ h => h.elim)⟩⟩ rfl rfl hl.1 rfl (lv_room (Nat.le_of_ble_eq_true rfl)) dX0_no_10 ⟨Nat.le_of_ble_eq_true rfl, Nat.le_of_ble_eq_true rfl⟩) hS hP (fun r H locs hw hP hS => ?_)
    subst r
    refine lv_if_ne (tgt := 18) hx hb dX0_no_13 (by decide) (fun c13 => ?_) (fun c13 => ?_)
    · have hv := hv.1 c13
      refine lv_aload_n hx hb dX0_no_18 rfl (lv_at hl 0 rfl) ?_
      refine va_get (D := gD g) (ci := 0) (v := .ref (ad (o + 6))) (C := RX0) (T := TX0) (N := 17) hx hb hts hi0 hown hK hP 0 rfl rfl 10 (by decide) k0 (fun _ h9 => h9) rfl dX0_no_19 ?_
      refine lv_iload_n hx hb dX0_no_22 rfl (lv_at hl 1 rfl) ?_
      have h9 := hv.1
      have hv := hv.2
      refine va_iald (f := (sKind (cS σ))) (n := 5) hx hb hK hP 6 0 rfl rfl h9 dX0_no_23 ?_
      by_cases d24_1 : ((sKind (cS σ)) (p0).toNatClampNeg) = 1
      · have hv := hv.1 d24_1
        refine lv_tableIn (off := 36) (tgt := 60) hx hb dX0_no_24 (by rw [d24_1]; decide) (by rw [d24_1]; decide) (by rw [d24_1]; rfl) (by decide) ?_
        refine lv_aload_n hx hb dX0_no_60 rfl (lv_at hl 0 rfl) ?_
        refine lv_iload_n hx hb dX0_no_61 rfl (lv_at hl 1 rfl) ?_
        refine lv_iload_n hx hb dX0_no_62 rfl (lv_at hl 2 rfl) ?_
        have h8 := hv.1
        have hv := hv.2
        have hPc := hP
        refine ro_long (va_runV (As := [.int p0, .int p1]) (rest := []) ⟨hx, hb, hml, hown, hts⟩ (h_X0_plainYes g ad o σ p0 p1 h8) (cwV 2 hts gX0_no_X0_plainYes rfl rfl rfl (by decide +kernel) ⟨Nat.le_of_ble_eq_true rfl, Nat.le_of_ble_eq_true rfl⟩) ⟨RO_blind, va_recv hK hP (ci := 0) (q0 := 0) rfl rfl, fun U hU hW => ⟨rfl, by rw [hU]; exact hPc, va_K.moved hW.alike hK, hE.call hW hU hS (fun _ h => h.elim)⟩⟩ rfl rfl hl.1 rfl (lv_room (Nat.le_of_ble_eq_true rfl)) dX0_no_63 ⟨Nat.le_of_ble_eq_true rfl, Nat.le_of_ble_eq_true rfl⟩) hS hP (fun r H locs hw hP hS => ?_)
        subst r
        exact W.lret (v := (plainYesL σ p0 p1)) hx hb hr (fun t ht hW => ⟨⟨(plainYesL σ p0 p1), (), rfl, hv, trivial⟩, hS.F ht⟩) hS.2.2 dX0_no_66
      · have hv := hv.2 d24_1
        by_cases d24_2 : ((sKind (cS σ)) (p0).toNatClampNeg) = 2
        · have hv := hv.1 d24_2
          refine lv_tableIn (off := 43) (tgt := 67) hx hb dX0_no_24 (by rw [d24_2]; decide) (by rw [d24_2]; decide) (by rw [d24_2]; rfl) (by decide) ?_
          refine lv_lconst (v := 0) hx hb dX0_no_67 (by decide) ?_
          exact W.lret (v := 0) hx hb hr (fun t ht hW => ⟨⟨0, (), rfl, hv, trivial⟩, hS.F ht⟩) hS.2.2 dX0_no_68
        · have hv := hv.2 d24_2
          by_cases d24_3 : ((sKind (cS σ)) (p0).toNatClampNeg) = 3
          · have hv := hv.1 d24_3
            refine lv_tableIn (off := 45) (tgt := 69) hx hb dX0_no_24 (by rw [d24_3]; decide) (by rw [d24_3]; decide) (by rw [d24_3]; rfl) (by decide) ?_
            refine lv_aload_n hx hb dX0_no_69 rfl (lv_at hl 0 rfl) ?_
            refine lv_iload_n hx hb dX0_no_70 rfl (lv_at hl 1 rfl) ?_
            refine lv_iload_n hx hb dX0_no_71 rfl (lv_at hl 3 rfl) ?_
            have h8 := hv.1
            have hv := hv.2
            have hPc := hP
            refine ro_int (va_runV (As := [.int p0, .int p2]) (rest := []) ⟨hx, hb, hml, hown, hts⟩ (h_X0_forgets g ad o σ p0 p2 h8) (cwV 2 hts gX0_no_X0_forgets rfl rfl rfl (by decide +kernel) ⟨Nat.le_of_ble_eq_true rfl, Nat.le_of_ble_eq_true rfl⟩) ⟨RO_blind, va_recv hK hP (ci := 0) (q0 := 0) rfl rfl, fun U hU hW => ⟨rfl, by rw [hU]; exact hPc, va_K.moved hW.alike hK, hE.call hW hU hS (fun _ h => h.elim)⟩⟩ rfl rfl hl.1 rfl (lv_room (Nat.le_of_ble_eq_true rfl)) dX0_no_72 ⟨Nat.le_of_ble_eq_true rfl, Nat.le_of_ble_eq_true rfl⟩) hS hP (fun r H locs hw hP hS => ?_)
            subst r
            refine lv_if_eq (tgt := 82) hx hb dX0_no_75 (by decide) (fun c75 => ?_) (fun c75 => ?_)
            · have hv := hv.1 c75
              refine lv_aload_n hx hb dX0_no_82 rfl (lv_at hl 0 rfl) ?_
              refine lv_iload_n hx hb dX0_no_83 rfl (lv_at hl 1 rfl) ?_
              refine lv_iload_n hx hb dX0_no_84 rfl (lv_at hl 2 rfl) ?_
              have h8 := hv.1
              have hv := hv.2
              have hPc := hP
              refine ro_long (va_runV (As := [.int p0, .int p1]) (rest := []) ⟨hx, hb, hml, hown, hts⟩ (h_X0_plainNo g ad o σ p0 p1 h8) (cwV 2 hts gX0_no_X0_plainNo rfl rfl rfl (by decide +kernel) ⟨Nat.le_of_ble_eq_true rfl, Nat.le_of_ble_eq_true rfl⟩) ⟨RO_blind, va_recv hK hP (ci := 0) (q0 := 0) rfl rfl, fun U hU hW => ⟨rfl, by rw [hU]; exact hPc, va_K.moved hW.alike hK, hE.call hW hU hS (fun _ h => h.elim)⟩⟩ rfl rfl hl.1 rfl (lv_room (Nat.le_of_ble_eq_true rfl)) dX0_no_85 ⟨Nat.le_of_ble_eq_true rfl, Nat.le_of_ble_eq_true rfl⟩) hS hP (fun r H locs hw hP hS => ?_)
              subst r
              exact W.lret (v := (plainNoL σ p0 p1)) hx hb hr (fun t ht hW => ⟨⟨(plainNoL σ p0 p1), (), rfl, hv, trivial⟩, hS.F ht⟩) hS.2.2 dX0_no_88
            · have hv := hv.2 c75
              refine lv_lconst (v := 0) hx hb dX0_no_78 (by decide) ?_
              refine lv_goto (tgt := 88) hx hb dX0_no_79 (by decide) ?_
              exact W.lret (v := 0) hx hb hr (fun t ht hW => ⟨⟨0, (), rfl, hv, trivial⟩, hS.F ht⟩) hS.2.2 dX0_no_88
          · have hv := hv.2 d24_3
            by_cases d24_4 : ((sKind (cS σ)) (p0).toNatClampNeg) = 4
            · have hv := hv.1 d24_4
              refine lv_tableIn (off := 65) (tgt := 89) hx hb dX0_no_24 (by rw [d24_4]; decide) (by rw [d24_4]; decide) (by rw [d24_4]; rfl) (by decide) ?_
              refine lv_aload_n hx hb dX0_no_89 rfl (lv_at hl 0 rfl) ?_
              refine lv_iload_n hx hb dX0_no_90 rfl (lv_at hl 1 rfl) ?_
              refine lv_aload_n hx hb dX0_no_91 rfl (lv_at hl 0 rfl) ?_
              refine lv_iload_n hx hb dX0_no_92 rfl (lv_at hl 2 rfl) ?_
              refine lv_iconst (v := 1) hx hb dX0_no_93 (by decide) ?_
              have hPc := hP
              refine ro_int (va_runV (As := [.int p1, .int 1]) (rest := [.int p0, .ref (ad o)]) ⟨hx, hb, hml, hown, hts⟩ (h_X0_onward g ad o σ p1 1) (cwV 2 hts gX0_no_X0_onward rfl rfl rfl (by decide +kernel) ⟨Nat.le_of_ble_eq_true rfl, Nat.le_of_ble_eq_true rfl⟩) ⟨RO_blind, va_recv hK hP (ci := 0) (q0 := 0) rfl rfl, fun U hU hW => ⟨rfl, by rw [hU]; exact hPc, va_K.moved hW.alike hK, hE.call hW hU hS (fun _ h => h.elim)⟩⟩ rfl rfl hl.1 rfl (lv_room (Nat.le_of_ble_eq_true rfl)) dX0_no_94 ⟨Nat.le_of_ble_eq_true rfl, Nat.le_of_ble_eq_true rfl⟩) hS hP (fun r H locs hw hP hS => ?_)
              subst r
              have h8 := hv.1
              have hv := hv.2
              have hPc := hP
              refine ro_long (va_runV (As := [.int p0, .int (onwardI (cS σ) p1 (1 : Int32))]) (rest := []) ⟨hx, hb, hml, hown, hts⟩ (h_X0_plainNo g ad o σ p0 (onwardI (cS σ) p1 (1 : Int32)) h8) (cwV 2 hts gX0_no_X0_plainNo rfl rfl rfl (by decide +kernel) ⟨Nat.le_of_ble_eq_true rfl, Nat.le_of_ble_eq_true rfl⟩) ⟨RO_blind, va_recv hK hP (ci := 0) (q0 := 0) rfl rfl, fun U hU hW => ⟨rfl, by rw [hU]; exact hPc, va_K.moved hW.alike hK, hE.call hW hU hS (fun _ h => h.elim)⟩⟩ rfl rfl hl.1 rfl (lv_room (Nat.le_of_ble_eq_true rfl)) dX0_no_97 ⟨Nat.le_of_ble_eq_true rfl, Nat.le_of_ble_eq_true rfl⟩) hS hP (fun r H locs hw hP hS => ?_)
              subst r
              exact W.lret (v := (plainNoL σ p0 (onwardI (cS σ) p1 (1 : Int32)))) hx hb hr (fun t ht hW => ⟨⟨(plainNoL σ p0 (onwardI (cS σ) p1 (1 : Int32))), (), rfl, hv, trivial⟩, hS.F ht⟩) hS.2.2 dX0_no_100
            · have hv := hv.2 d24_4
              by_cases d24_5 : ((sKind (cS σ)) (p0).toNatClampNeg) = 5
              · have hv := hv.1 d24_5
                refine lv_tableIn (off := 77) (tgt := 101) hx hb dX0_no_24 (by rw [d24_5]; decide) (by rw [d24_5]; decide) (by rw [d24_5]; rfl) (by decide) ?_
                refine lv_lconst (v := 0) hx hb dX0_no_101 (by decide) ?_
                exact W.lret (v := 0) hx hb hr (fun t ht hW => ⟨⟨0, (), rfl, hv, trivial⟩, hS.F ht⟩) hS.2.2 dX0_no_102
              · have hv := hv.2 d24_5
                refine lv_tableOut (tgt := 103) hx hb dX0_no_24 (by have n0 := lv_neT (a := 1) d24_1 (by decide); have n1 := lv_neT (a := 2) d24_2 (by decide); have n2 := lv_neT (a := 3) d24_3 (by decide); have n3 := lv_neT (a := 4) d24_4 (by decide); have n4 := lv_neT (a := 5) d24_5 (by decide); omega) (by decide) ?_
                refine lv_aload_n hx hb dX0_no_103 rfl (lv_at hl 0 rfl) ?_
                refine lv_iload_n hx hb dX0_no_104 rfl (lv_at hl 1 rfl) ?_
                refine lv_iload_n hx hb dX0_no_105 rfl (lv_at hl 2 rfl) ?_
                have h8 := hv.1
                have hv := hv.2
                have hPc := hP
                refine ro_long (va_runV (As := [.int p0, .int p1]) (rest := []) ⟨hx, hb, hml, hown, hts⟩ (h_X0_plainNo g ad o σ p0 p1 h8) (cwV 2 hts gX0_no_X0_plainNo rfl rfl rfl (by decide +kernel) ⟨Nat.le_of_ble_eq_true rfl, Nat.le_of_ble_eq_true rfl⟩) ⟨RO_blind, va_recv hK hP (ci := 0) (q0 := 0) rfl rfl, fun U hU hW => ⟨rfl, by rw [hU]; exact hPc, va_K.moved hW.alike hK, hE.call hW hU hS (fun _ h => h.elim)⟩⟩ rfl rfl hl.1 rfl (lv_room (Nat.le_of_ble_eq_true rfl)) dX0_no_106 ⟨Nat.le_of_ble_eq_true rfl, Nat.le_of_ble_eq_true rfl⟩) hS hP (fun r H locs hw hP hS => ?_)
                subst r
                exact W.lret (v := (plainNoL σ p0 p1)) hx hb hr (fun t ht hW => ⟨⟨(plainNoL σ p0 p1), (), rfl, hv, trivial⟩, hS.F ht⟩) hS.2.2 dX0_no_109
    · have hv := hv.2 c13
      refine lv_lconst (v := 0) hx hb dX0_no_16 (by decide) ?_
      exact W.lret (v := 0) hx hb hr (fun t ht hW => ⟨⟨0, (), rfl, hv, trivial⟩, hS.F ht⟩) hS.2.2 dX0_no_17

set_option maxHeartbeats 4000000 in
set_option maxRecDepth 100000 in
theorem m_X0_saying (l : Launch) (h_X0_no : C_X0_no l) (h_X0_yes : C_X0_yes l) (g : CX) (ad : Nat → Nat) (o : Nat) (σ : KC) (p0 : Int32) (p1 : Int32) (p2 : Int32) (p3 : Int32) (Post : Int64 → Prop) (hv : vc_X0_saying σ p0 p1 p2 p3 Post) : Met l yX0_saying wsX0_saying { frames := 2, cells := 0, slots := 0, locals := 46 } (va_Pc [.ref (ad o), .int p0, .int p1, .int p2, .int p3] (RO g (wC g ad o σ))) (va_Ql (fun r (_ : Unit) => Post r) (fun _ _ => True) A0) 0 0 A0 := by
  unfold vc_X0_saying at hv
  refine Met.ofW (cc := cX0_saying) (maxL := 5) (ret := (some .long)) (by decide) rfl ?_
  intro p e s m args below meth c s₁ B hml hv0
  obtain ⟨rfl, hP, hK, hE⟩ := hv0
  have hx := B.exec
  have hb := B.bytes
  have hr := B.returns
  have hts := atoms_spec (ws := wsX0_saying) B.pre
  have hown : s.vm.findClass RX0 = some m.cls := findClass_of_methodNamed B.named
  have hlocks := B.notSynchronized
  have k0 := hts (.constantLong RX0 96 (-1)) (by decide +kernel)
  have hS : va_S A0 s.heap s.heap [] := va_S.rf
  have hP : va_P (gD g) vwCl (wC g ad o σ) s.heap := hP
  have hl := lv_entry ([.ref (ad o), .int p0, .int p1, .int p2, .int p3]) (n := 5) (Nat.le_of_ble_eq_true rfl)
  rw [lg_entry_eq]
  generalize (lg_sl ([.ref (ad o), .int p0, .int p1, .int p2, .int p3]) ++ List.replicate (5 - (lg_sl ([.ref (ad o), .int p0, .int p1, .int p2, .int p3])).length) Slot.unset).toArray = ls at hl ⊢
  have hl : lv_has ls 5 [(0, .ref (ad o)), (1, .int p0), (2, .int p1), (3, .int p2), (4, .int p3)] := hl
  obtain ⟨H, hH⟩ : ∃ z, z = s.heap := ⟨_, rfl⟩
  obtain ⟨locs, hL⟩ : ∃ z : List Loc, z = [] := ⟨_, rfl⟩
  rw [← hL] at hS ⊢
  have hS : va_S A0 s.heap H locs := by rw [hH]; exact hS
  rw [← hH] at hP ⊢
  clear hH hL
  refine lv_iload hx hb dX0_saying_0 (lv_at hl 4 rfl) ?_
  by_cases d2_0 : p3 = 0
  · have hv := hv.1 d2_0
    refine lv_lookup (off := 26) (tgt := 28) hx hb dX0_saying_2 (by decide +kernel) (by rw [d2_0]; decide +kernel) (by decide) ?_
    refine lv_aload_n hx hb dX0_saying_28 rfl (lv_at hl 0 rfl) ?_
    refine lv_iload_n hx hb dX0_saying_29 rfl (lv_at hl 1 rfl) ?_
    refine lv_iload_n hx hb dX0_saying_30 rfl (lv_at hl 2 rfl) ?_
    refine lv_iload_n hx hb dX0_saying_31 rfl (lv_at hl 3 rfl) ?_
    have h8 := hv.1
    have hv := hv.2
    have hPc := hP
    refine ro_long (va_runV (As := [.int p0, .int p1, .int p2]) (rest := []) ⟨hx, hb, hml, hown, hts⟩ (h_X0_no g ad o σ p0 p1 p2 h8) (cwV 3 hts gX0_saying_X0_no rfl rfl rfl (by decide +kernel) ⟨Nat.le_of_ble_eq_true rfl, Nat.le_of_ble_eq_true rfl⟩) ⟨RO_blind, va_recv hK hP (ci := 0) (q0 := 0) rfl rfl, fun U hU hW => ⟨rfl, by rw [hU]; exact hPc, va_K.moved hW.alike hK, hE.call hW hU hS (fun _ h => h.elim)⟩⟩ rfl rfl hl.1 rfl (lv_room (Nat.le_of_ble_eq_true rfl)) dX0_saying_32 ⟨Nat.le_of_ble_eq_true rfl, Nat.le_of_ble_eq_true rfl⟩) hS hP (fun r H locs hw hP hS => ?_)
    subst r
    exact W.lret (v := (noL σ p0 p1 p2)) hx hb hr (fun t ht hW => ⟨⟨(noL σ p0 p1 p2), (), rfl, hv, trivial⟩, hS.F ht⟩) hS.2.2 dX0_saying_35
  · have hv := hv.2 d2_0
    by_cases d2_1 : p3 = 1
    · have hv := hv.1 d2_1
      refine lv_lookup (off := 34) (tgt := 36) hx hb dX0_saying_2 (by decide +kernel) (by rw [d2_1]; decide +kernel) (by decide) ?_
      refine lv_aload_n hx hb dX0_saying_36 rfl (lv_at hl 0 rfl) ?_
      refine lv_iload_n hx hb dX0_saying_37 rfl (lv_at hl 1 rfl) ?_
      refine lv_iload_n hx hb dX0_saying_38 rfl (lv_at hl 2 rfl) ?_
      refine lv_iload_n hx hb dX0_saying_39 rfl (lv_at hl 3 rfl) ?_
      have h8 := hv.1
      have hv := hv.2
      have hPc := hP
      refine ro_long (va_runV (As := [.int p0, .int p1, .int p2]) (rest := []) ⟨hx, hb, hml, hown, hts⟩ (h_X0_yes g ad o σ p0 p1 p2 h8) (cwV 3 hts gX0_saying_X0_yes rfl rfl rfl (by decide +kernel) ⟨Nat.le_of_ble_eq_true rfl, Nat.le_of_ble_eq_true rfl⟩) ⟨RO_blind, va_recv hK hP (ci := 0) (q0 := 0) rfl rfl, fun U hU hW => ⟨rfl, by rw [hU]; exact hPc, va_K.moved hW.alike hK, hE.call hW hU hS (fun _ h => h.elim)⟩⟩ rfl rfl hl.1 rfl (lv_room (Nat.le_of_ble_eq_true rfl)) dX0_saying_40 ⟨Nat.le_of_ble_eq_true rfl, Nat.le_of_ble_eq_true rfl⟩) hS hP (fun r H locs hw hP hS => ?_)
      subst r
      exact W.lret (v := (yesL σ p0 p1 p2)) hx hb hr (fun t ht hW => ⟨⟨(yesL σ p0 p1 p2), (), rfl, hv, trivial⟩, hS.F ht⟩) hS.2.2 dX0_saying_43
    · have hv := hv.2 d2_1
      refine lv_lookup (off := 42) (tgt := 44) hx hb dX0_saying_2 (by decide +kernel) (by first | (rw [lv_osw d2_0 (by decide), lv_osw d2_1 (by decide)]; rfl) | (show Op.lookupswitch.offset [(0, 26), (1, 34)] 42 _ = _; rw [lv_osw d2_0 (by decide), lv_osw d2_1 (by decide)]; rfl)) (by decide) ?_
      refine lv_aload_n hx hb dX0_saying_44 rfl (lv_at hl 0 rfl) ?_
      refine lv_iload_n hx hb dX0_saying_45 rfl (lv_at hl 1 rfl) ?_
      refine lv_iload_n hx hb dX0_saying_46 rfl (lv_at hl 2 rfl) ?_
      refine lv_iload_n hx hb dX0_saying_47 rfl (lv_at hl 3 rfl) ?_
      have h8 := hv.1
      have hv := hv.2
      have hPc := hP
      refine ro_long (va_runV (As := [.int p0, .int p1, .int p2]) (rest := []) ⟨hx, hb, hml, hown, hts⟩ (h_X0_yes g ad o σ p0 p1 p2 h8) (cwV 3 hts gX0_saying_X0_yes rfl rfl rfl (by decide +kernel) ⟨Nat.le_of_ble_eq_true rfl, Nat.le_of_ble_eq_true rfl⟩) ⟨RO_blind, va_recv hK hP (ci := 0) (q0 := 0) rfl rfl, fun U hU hW => ⟨rfl, by rw [hU]; exact hPc, va_K.moved hW.alike hK, hE.call hW hU hS (fun _ h => h.elim)⟩⟩ rfl rfl hl.1 rfl (lv_room (Nat.le_of_ble_eq_true rfl)) dX0_saying_48 ⟨Nat.le_of_ble_eq_true rfl, Nat.le_of_ble_eq_true rfl⟩) hS hP (fun r H locs hw hP hS => ?_)
      subst r
      refine lv_aload_n hx hb dX0_saying_51 rfl (lv_at hl 0 rfl) ?_
      refine lv_iload_n hx hb dX0_saying_52 rfl (lv_at hl 1 rfl) ?_
      refine lv_iload_n hx hb dX0_saying_53 rfl (lv_at hl 2 rfl) ?_
      refine lv_iload_n hx hb dX0_saying_54 rfl (lv_at hl 3 rfl) ?_
      have h8 := hv.1
      have hv := hv.2
      have hPc := hP
      refine ro_long (va_runV (As := [.int p0, .int p1, .int p2]) (rest := [.long (yesL σ p0 p1 p2)]) ⟨hx, hb, hml, hown, hts⟩ (h_X0_no g ad o σ p0 p1 p2 h8) (cwV 3 hts gX0_saying_X0_no rfl rfl rfl (by decide +kernel) ⟨Nat.le_of_ble_eq_true rfl, Nat.le_of_ble_eq_true rfl⟩) ⟨RO_blind, va_recv hK hP (ci := 0) (q0 := 0) rfl rfl, fun U hU hW => ⟨rfl, by rw [hU]; exact hPc, va_K.moved hW.alike hK, hE.call hW hU hS (fun _ h => h.elim)⟩⟩ rfl rfl hl.1 rfl (lv_room (Nat.le_of_ble_eq_true rfl)) dX0_saying_55 ⟨Nat.le_of_ble_eq_true rfl, Nat.le_of_ble_eq_true rfl⟩) hS hP (fun r H locs hw hP hS => ?_)
      subst r
      refine lv_lor hx hb dX0_saying_58 ?_
      refine lv_ldc2 hx hb hown k0 dX0_saying_59 ?_
      refine lv_lxor hx hb dX0_saying_62 ?_
      exact W.lret (v := (((yesL σ p0 p1 p2) ||| (noL σ p0 p1 p2)) ^^^ (-1))) hx hb hr (fun t ht hW => ⟨⟨(((yesL σ p0 p1 p2) ||| (noL σ p0 p1 p2)) ^^^ (-1)), (), rfl, hv, trivial⟩, hS.F ht⟩) hS.2.2 dX0_saying_63

set_option maxHeartbeats 4000000 in
set_option maxRecDepth 100000 in
theorem m_X0_reply (l : Launch) (h_X0_no : C_X0_no l) (h_X0_yes : C_X0_yes l) (h_X2_isIn : C_X2_isIn l) (g : CX) (ad : Nat → Nat) (o : Nat) (σ : KC) (p0 : Int32) (p1 : Int32) (p2 : Int32) (p3 : Int32) (Post : Int32 → Prop) (hv : vc_X0_reply σ p0 p1 p2 p3 Post) : Met l yX0_reply wsX0_reply { frames := 2, cells := 0, slots := 0, locals := 46 } (va_Pc [.ref (ad o), .int p0, .int p1, .int p2, .int p3] (RO g (wC g ad o σ))) (va_Qi (fun r (_ : Unit) => Post r) (fun _ _ => True) A0) 0 0 A0 := by
  unfold vc_X0_reply at hv
  refine Met.ofW (cc := cX0_reply) (maxL := 5) (ret := (some .int)) (by decide) rfl ?_
  intro p e s m args below meth c s₁ B hml hv0
  obtain ⟨rfl, hP, hK, hE⟩ := hv0
  have hx := B.exec
  have hb := B.bytes
  have hr := B.returns
  have hts := atoms_spec (ws := wsX0_reply) B.pre
  have hown : s.vm.findClass RX0 = some m.cls := findClass_of_methodNamed B.named
  have hlocks := B.notSynchronized
  have k0 := hts (.initialized RX2) (by decide +kernel)
  have k1 := hts (.static yX2_isIn) (by decide +kernel)
  have hS : va_S A0 s.heap s.heap [] := va_S.rf
  have hP : va_P (gD g) vwCl (wC g ad o σ) s.heap := hP
  have hl := lv_entry ([.ref (ad o), .int p0, .int p1, .int p2, .int p3]) (n := 5) (Nat.le_of_ble_eq_true rfl)
  rw [lg_entry_eq]
  generalize (lg_sl ([.ref (ad o), .int p0, .int p1, .int p2, .int p3]) ++ List.replicate (5 - (lg_sl ([.ref (ad o), .int p0, .int p1, .int p2, .int p3])).length) Slot.unset).toArray = ls at hl ⊢
  have hl : lv_has ls 5 [(0, .ref (ad o)), (1, .int p0), (2, .int p1), (3, .int p2), (4, .int p3)] := hl
  obtain ⟨H, hH⟩ : ∃ z, z = s.heap := ⟨_, rfl⟩
  obtain ⟨locs, hL⟩ : ∃ z : List Loc, z = [] := ⟨_, rfl⟩
  rw [← hL] at hS ⊢
  have hS : va_S A0 s.heap H locs := by rw [hH]; exact hS
  rw [← hH] at hP ⊢
  clear hH hL
  refine lv_aload_n hx hb dX0_reply_0 rfl (lv_at hl 0 rfl) ?_
  refine lv_iload_n hx hb dX0_reply_1 rfl (lv_at hl 1 rfl) ?_
  refine lv_iload_n hx hb dX0_reply_2 rfl (lv_at hl 2 rfl) ?_
  refine lv_iload_n hx hb dX0_reply_3 rfl (lv_at hl 3 rfl) ?_
  have h8 := hv.1
  have hv := hv.2
  have hPc := hP
  refine ro_long (va_runV (As := [.int p0, .int p1, .int p2]) (rest := []) ⟨hx, hb, hml, hown, hts⟩ (h_X0_yes g ad o σ p0 p1 p2 h8) (cwV 3 hts gX0_reply_X0_yes rfl rfl rfl (by decide +kernel) ⟨Nat.le_of_ble_eq_true rfl, Nat.le_of_ble_eq_true rfl⟩) ⟨RO_blind, va_recv hK hP (ci := 0) (q0 := 0) rfl rfl, fun U hU hW => ⟨rfl, by rw [hU]; exact hPc, va_K.moved hW.alike hK, hE.call hW hU hS (fun _ h => h.elim)⟩⟩ rfl rfl hl.1 rfl (lv_room (Nat.le_of_ble_eq_true rfl)) dX0_reply_4 ⟨Nat.le_of_ble_eq_true rfl, Nat.le_of_ble_eq_true rfl⟩) hS hP (fun r H locs hw hP hS => ?_)
  subst r
  refine lv_iload hx hb dX0_reply_7 (lv_at hl 4 rfl) ?_
  have hPc : va_P (gD g) vwCl [] H := fun k q h => by simp at h
  refine ro_int (va_runSN (As := [.long (yesL σ p0 p1 p2), .int p3]) (rest := []) ⟨hx, hb, hml, hown, hts⟩ (h_X2_isIn g (yesL σ p0 p1 p2) p3) ⟨va_cnB 2 hts gX0_reply_X2_isIn_n101 rfl rfl rfl (hE.1.2.2.1) k0 (by decide +kernel) ⟨Nat.le_of_ble_eq_true rfl, Nat.le_of_ble_eq_true rfl⟩, k1, trivial⟩ ⟨RO_blind, fun U hU hW => ⟨rfl, by rw [hU]; exact hPc, va_K.moved hW.alike hK, hE.call hW hU hS (fun _ h => h.elim)⟩⟩ rfl rfl hl.1 rfl (lv_room (Nat.le_of_ble_eq_true rfl)) dX0_reply_9 ⟨Nat.le_of_ble_eq_true rfl, Nat.le_of_ble_eq_true rfl⟩) hS hP (fun r H locs hw hP hS => ?_)
  subst r
  refine lv_if_eq (tgt := 17) hx hb dX0_reply_12 (by decide) (fun c12 => ?_) (fun c12 => ?_)
  · have hv := hv.1 c12
    refine lv_aload_n hx hb dX0_reply_17 rfl (lv_at hl 0 rfl) ?_
    refine lv_iload_n hx hb dX0_reply_18 rfl (lv_at hl 1 rfl) ?_
    refine lv_iload_n hx hb dX0_reply_19 rfl (lv_at hl 2 rfl) ?_
    refine lv_iload_n hx hb dX0_reply_20 rfl (lv_at hl 3 rfl) ?_
    have h8 := hv.1
    have hv := hv.2
    have hPc := hP
    refine ro_long (va_runV (As := [.int p0, .int p1, .int p2]) (rest := []) ⟨hx, hb, hml, hown, hts⟩ (h_X0_no g ad o σ p0 p1 p2 h8) (cwV 3 hts gX0_reply_X0_no rfl rfl rfl (by decide +kernel) ⟨Nat.le_of_ble_eq_true rfl, Nat.le_of_ble_eq_true rfl⟩) ⟨RO_blind, va_recv hK hP (ci := 0) (q0 := 0) rfl rfl, fun U hU hW => ⟨rfl, by rw [hU]; exact hPc, va_K.moved hW.alike hK, hE.call hW hU hS (fun _ h => h.elim)⟩⟩ rfl rfl hl.1 rfl (lv_room (Nat.le_of_ble_eq_true rfl)) dX0_reply_21 ⟨Nat.le_of_ble_eq_true rfl, Nat.le_of_ble_eq_true rfl⟩) hS hP (fun r H locs hw hP hS => ?_)
    subst r
    refine lv_iload hx hb dX0_reply_24 (lv_at hl 4 rfl) ?_
    have hPc : va_P (gD g) vwCl [] H := fun k q h => by simp at h
    refine ro_int (va_runSN (As := [.long (noL σ p0 p1 p2), .int p3]) (rest := []) ⟨hx, hb, hml, hown, hts⟩ (h_X2_isIn g (noL σ p0 p1 p2) p3) ⟨va_cnB 2 hts gX0_reply_X2_isIn_n101 rfl rfl rfl (hE.1.2.2.1) k0 (by decide +kernel) ⟨Nat.le_of_ble_eq_true rfl, Nat.le_of_ble_eq_true rfl⟩, k1, trivial⟩ ⟨RO_blind, fun U hU hW => ⟨rfl, by rw [hU]; exact hPc, va_K.moved hW.alike hK, hE.call hW hU hS (fun _ h => h.elim)⟩⟩ rfl rfl hl.1 rfl (lv_room (Nat.le_of_ble_eq_true rfl)) dX0_reply_26 ⟨Nat.le_of_ble_eq_true rfl, Nat.le_of_ble_eq_true rfl⟩) hS hP (fun r H locs hw hP hS => ?_)
    subst r
    refine lv_if_eq (tgt := 36) hx hb dX0_reply_29 (by decide) (fun c29 => ?_) (fun c29 => ?_)
    · have hv := hv.1 c29
      refine lv_iconst (v := 2) hx hb dX0_reply_36 (by decide) ?_
      exact W.iret (v := 2) hx hb hr (fun t ht hW => ⟨⟨2, (), rfl, hv, trivial⟩, hS.F ht⟩) hS.2.2 dX0_reply_37
    · have hv := hv.2 c29
      refine lv_iconst (v := 0) hx hb dX0_reply_32 (by decide) ?_
      refine lv_goto (tgt := 37) hx hb dX0_reply_33 (by decide) ?_
      exact W.iret (v := 0) hx hb hr (fun t ht hW => ⟨⟨0, (), rfl, hv, trivial⟩, hS.F ht⟩) hS.2.2 dX0_reply_37
  · have hv := hv.2 c12
    refine lv_iconst (v := 1) hx hb dX0_reply_15 (by decide) ?_
    exact W.iret (v := 1) hx hb hr (fun t ht hW => ⟨⟨1, (), rfl, hv, trivial⟩, hS.F ht⟩) hS.2.2 dX0_reply_16

set_option maxHeartbeats 4000000 in
set_option maxRecDepth 100000 in
theorem m_X0_keeping (l : Launch) (h_X0_reply : C_X0_reply l) (h_X0_saying : C_X0_saying l) (g : CX) (ad : Nat → Nat) (o : Nat) (σ : KC) (p0 : Int32) (p1 : Int32) (p2 : Int32) (Post : Int64 → Prop) (hv : vc_X0_keeping σ p0 p1 p2 Post) : Met l yX0_keeping wsX0_keeping { frames := 3, cells := 0, slots := 0, locals := 70 } (va_Pc [.ref (ad o), .int p0, .int p1, .int p2] (RO g (wC g ad o σ))) (va_Ql (fun r (_ : Unit) => Post r) (fun _ _ => True) A0) 0 0 A0 := by
  unfold vc_X0_keeping at hv
  refine Met.ofW (cc := cX0_keeping) (maxL := 4) (ret := (some .long)) (by decide) rfl ?_
  intro p e s m args below meth c s₁ B hml hv0
  obtain ⟨rfl, hP, hK, hE⟩ := hv0
  have hx := B.exec
  have hb := B.bytes
  have hr := B.returns
  have hts := atoms_spec (ws := wsX0_keeping) B.pre
  have hown : s.vm.findClass RX0 = some m.cls := findClass_of_methodNamed B.named
  have hlocks := B.notSynchronized
  have hi0 : ∀ w ∈ wsX00, w ∈ wsX0_keeping := by decide +kernel
  have k0 := hts (.fieldLink RX0 49 "JuryHearsAnswers$Court" "caseNow" "I") (by decide +kernel)
  have hS : va_S A0 s.heap s.heap [] := va_S.rf
  have hP : va_P (gD g) vwCl (wC g ad o σ) s.heap := hP
  have hl := lv_entry ([.ref (ad o), .int p0, .int p1, .int p2]) (n := 4) (Nat.le_of_ble_eq_true rfl)
  rw [lg_entry_eq]
  generalize (lg_sl ([.ref (ad o), .int p0, .int p1, .int p2]) ++ List.replicate (4 - (lg_sl ([.ref (ad o), .int p0, .int p1, .int p2])).length) Slot.unset).toArray = ls at hl ⊢
  have hl : lv_has ls 4 [(0, .ref (ad o)), (1, .int p0), (2, .int p1), (3, .int p2)] := hl
  obtain ⟨H, hH⟩ : ∃ z, z = s.heap := ⟨_, rfl⟩
  obtain ⟨locs, hL⟩ : ∃ z : List Loc, z = [] := ⟨_, rfl⟩
  rw [← hL] at hS ⊢
  have hS : va_S A0 s.heap H locs := by rw [hH]; exact hS
  rw [← hH] at hP ⊢
  clear hH hL
  refine lv_aload_n hx hb dX0_keeping_0 rfl (lv_at hl 0 rfl) ?_
  refine lv_iload_n hx hb dX0_keeping_1 rfl (lv_at hl 1 rfl) ?_
  refine lv_iload_n hx hb dX0_keeping_2 rfl (lv_at hl 2 rfl) ?_
  refine lv_iload_n hx hb dX0_keeping_3 rfl (lv_at hl 3 rfl) ?_
  refine lv_aload_n hx hb dX0_keeping_4 rfl (lv_at hl 0 rfl) ?_
  refine lv_iload_n hx hb dX0_keeping_5 rfl (lv_at hl 1 rfl) ?_
  refine lv_iload_n hx hb dX0_keeping_6 rfl (lv_at hl 2 rfl) ?_
  refine lv_iload_n hx hb dX0_keeping_7 rfl (lv_at hl 3 rfl) ?_
  refine lv_aload_n hx hb dX0_keeping_8 rfl (lv_at hl 0 rfl) ?_
  refine va_get (D := gD g) (ci := 0) (v := .int (sCase (cS σ))) (C := RX0) (T := TX0) (N := 17) hx hb hts hi0 hown hK hP 0 rfl rfl 0 (by decide) k0 (fun _ h9 => h9) rfl dX0_keeping_9 ?_
  have h8 := hv.1
  have hv := hv.2
  have hPc := hP
  refine ro_int (va_runV (As := [.int p0, .int p1, .int p2, .int (sCase (cS σ))]) (rest := [.int p2, .int p1, .int p0, .ref (ad o)]) ⟨hx, hb, hml, hown, hts⟩ (h_X0_reply g ad o σ p0 p1 p2 (sCase (cS σ)) h8) (cwV 4 hts gX0_keeping_X0_reply rfl rfl rfl (by decide +kernel) ⟨Nat.le_of_ble_eq_true rfl, Nat.le_of_ble_eq_true rfl⟩) ⟨RO_blind, va_recv hK hP (ci := 0) (q0 := 0) rfl rfl, fun U hU hW => ⟨rfl, by rw [hU]; exact hPc, va_K.moved hW.alike hK, hE.call hW hU hS (fun _ h => h.elim)⟩⟩ rfl rfl hl.1 rfl (lv_room (Nat.le_of_ble_eq_true rfl)) dX0_keeping_12 ⟨Nat.le_of_ble_eq_true rfl, Nat.le_of_ble_eq_true rfl⟩) hS hP (fun r H locs hw hP hS => ?_)
  subst r
  have h8 := hv.1
  have hv := hv.2
  have hPc := hP
  refine ro_long (va_runV (As := [.int p0, .int p1, .int p2, .int (replyI σ p0 p1 p2 (sCase (cS σ)))]) (rest := []) ⟨hx, hb, hml, hown, hts⟩ (h_X0_saying g ad o σ p0 p1 p2 (replyI σ p0 p1 p2 (sCase (cS σ))) h8) (cwV 4 hts gX0_keeping_X0_saying rfl rfl rfl (by decide +kernel) ⟨Nat.le_of_ble_eq_true rfl, Nat.le_of_ble_eq_true rfl⟩) ⟨RO_blind, va_recv hK hP (ci := 0) (q0 := 0) rfl rfl, fun U hU hW => ⟨rfl, by rw [hU]; exact hPc, va_K.moved hW.alike hK, hE.call hW hU hS (fun _ h => h.elim)⟩⟩ rfl rfl hl.1 rfl (lv_room (Nat.le_of_ble_eq_true rfl)) dX0_keeping_15 ⟨Nat.le_of_ble_eq_true rfl, Nat.le_of_ble_eq_true rfl⟩) hS hP (fun r H locs hw hP hS => ?_)
  subst r
  exact W.lret (v := (sayingL σ p0 p1 p2 (replyI σ p0 p1 p2 (sCase (cS σ))))) hx hb hr (fun t ht hW => ⟨⟨(sayingL σ p0 p1 p2 (replyI σ p0 p1 p2 (sCase (cS σ)))), (), rfl, hv, trivial⟩, hS.F ht⟩) hS.2.2 dX0_keeping_18

set_option maxHeartbeats 4000000 in
set_option maxRecDepth 100000 in
theorem m_X0_questionsSaid (l : Launch) (h_X0_reply : C_X0_reply l) (g : CX) (ad : Nat → Nat) (o : Nat) (σ : KC) (p0 : Int32) (p1 : Int32) (p2 : Int32) (Post : Int32 → Prop) (hv : vc_X0_questionsSaid σ p0 p1 p2 Post) : Met l yX0_questionsSaid wsX0_questionsSaid { frames := 3, cells := 0, slots := 0, locals := 70 } (va_Pc [.ref (ad o), .int p0, .int p1, .int p2] (RO g (wC g ad o σ))) (va_Qi (fun r (_ : Unit) => Post r) (fun _ _ => True) A0) 0 0 A0 := by
  unfold vc_X0_questionsSaid at hv
  refine Met.ofW (cc := cX0_questionsSaid) (maxL := 6) (ret := (some .int)) (by decide) rfl ?_
  intro p e s m args below meth c s₁ B hml hv0
  obtain ⟨rfl, hP, hK, hE⟩ := hv0
  have hx := B.exec
  have hb := B.bytes
  have hr := B.returns
  have hts := atoms_spec (ws := wsX0_questionsSaid) B.pre
  have hown : s.vm.findClass RX0 = some m.cls := findClass_of_methodNamed B.named
  have hlocks := B.notSynchronized
  have hi0 : ∀ w ∈ wsX00, w ∈ wsX0_questionsSaid := by decide +kernel
  have k0 := hts (.fieldLink RX0 56 "JuryHearsAnswers$Court" "questions" "I") (by decide +kernel)
  have k1 := hts (.fieldLink RX0 49 "JuryHearsAnswers$Court" "caseNow" "I") (by decide +kernel)
  have hS : va_S A0 s.heap s.heap [] := va_S.rf
  have hP : va_P (gD g) vwCl (wC g ad o σ) s.heap := hP
  have hl := lv_entry ([.ref (ad o), .int p0, .int p1, .int p2]) (n := 6) (Nat.le_of_ble_eq_true rfl)
  rw [lg_entry_eq]
  generalize (lg_sl ([.ref (ad o), .int p0, .int p1, .int p2]) ++ List.replicate (6 - (lg_sl ([.ref (ad o), .int p0, .int p1, .int p2])).length) Slot.unset).toArray = ls at hl ⊢
  have hl : lv_has ls 6 [(0, .ref (ad o)), (1, .int p0), (2, .int p1), (3, .int p2)] := hl
  have hv := hv (fun (x4 : Int32) (x5 : Int32) => ∀ (H : Heap) (locs : List Loc) (ls : Array Slot), va_P (gD g) vwCl (wC g ad o σ) H → va_S A0 s.heap H locs → lv_has ls 6 [(0, .ref (ad o)), (1, .int p0), (2, .int p1), (3, .int p2), (4, .int x4), (5, .int x5)] → W p l e { frames := 3, cells := 0, slots := 0, locals := 70 } s m ([.ref (ad o), .int p0, .int p1, .int p2] : List Value).toArray below meth c H locs 0 0 (MQ below (va_Qi (fun r (_ : Unit) => Post r) (fun _ _ => True) A0) ([.ref (ad o), .int p0, .int p1, .int p2] : List Value).toArray s 0 0 A0) (F0 m 6 ls []))
  have hv := hv (by
    intro x4 x5 hv H locs ls hP hS hl
    refine lv_iload hx hb dX0_questionsSaid_6 (lv_at hl 5 rfl) ?_
    refine lv_aload_n hx hb dX0_questionsSaid_8 rfl (lv_at hl 0 rfl) ?_
    refine va_get (D := gD g) (ci := 0) (v := .int (sNq (cS σ))) (C := RX0) (T := TX0) (N := 17) hx hb hts hi0 hown hK hP 0 rfl rfl 2 (by decide) k0 (fun _ h9 => h9) rfl dX0_questionsSaid_9 ?_
    refine lv_icmp_ge (tgt := 40) hx hb dX0_questionsSaid_12 (by decide) (fun c12 => ?_) (fun c12 => ?_)
    · have hv := hv.1 c12
      refine lv_iload hx hb dX0_questionsSaid_40 (lv_at hl 4 rfl) ?_
      exact W.iret (v := x4) hx hb hr (fun t ht hW => ⟨⟨x4, (), rfl, hv, trivial⟩, hS.F ht⟩) hS.2.2 dX0_questionsSaid_42
    · have hv := hv.2 c12
      refine lv_aload_n hx hb dX0_questionsSaid_15 rfl (lv_at hl 0 rfl) ?_
      refine lv_iload_n hx hb dX0_questionsSaid_16 rfl (lv_at hl 1 rfl) ?_
      refine lv_iload hx hb dX0_questionsSaid_17 (lv_at hl 5 rfl) ?_
      refine lv_iload_n hx hb dX0_questionsSaid_19 rfl (lv_at hl 2 rfl) ?_
      refine lv_aload_n hx hb dX0_questionsSaid_20 rfl (lv_at hl 0 rfl) ?_
      refine va_get (D := gD g) (ci := 0) (v := .int (sCase (cS σ))) (C := RX0) (T := TX0) (N := 17) hx hb hts hi0 hown hK hP 0 rfl rfl 0 (by decide) k1 (fun _ h9 => h9) rfl dX0_questionsSaid_21 ?_
      have h8 := hv.1
      have hv := hv.2
      have hPc := hP
      refine ro_int (va_runV (As := [.int p0, .int x5, .int p1, .int (sCase (cS σ))]) (rest := []) ⟨hx, hb, hml, hown, hts⟩ (h_X0_reply g ad o σ p0 x5 p1 (sCase (cS σ)) h8) (cwV 4 hts gX0_questionsSaid_X0_reply rfl rfl rfl (by decide +kernel) ⟨Nat.le_of_ble_eq_true rfl, Nat.le_of_ble_eq_true rfl⟩) ⟨RO_blind, va_recv hK hP (ci := 0) (q0 := 0) rfl rfl, fun U hU hW => ⟨rfl, by rw [hU]; exact hPc, va_K.moved hW.alike hK, hE.call hW hU hS (fun _ h => h.elim)⟩⟩ rfl rfl hl.1 rfl (lv_room (Nat.le_of_ble_eq_true rfl)) dX0_questionsSaid_24 ⟨Nat.le_of_ble_eq_true rfl, Nat.le_of_ble_eq_true rfl⟩) hS hP (fun r H locs hw hP hS => ?_)
      subst r
      refine lv_iload_n hx hb dX0_questionsSaid_27 rfl (lv_at hl 3 rfl) ?_
      refine lv_icmp_ne (tgt := 34) hx hb dX0_questionsSaid_28 (by decide) (fun c28 => ?_) (fun c28 => ?_)
      · have hv := hv.1 c28
        refine lv_iinc (v := (x5 + 1)) (lv' := [(5, .int (x5 + 1)), (0, .ref (ad o)), (1, .int p0), (2, .int p1), (3, .int p2), (4, .int x4)]) hx hb dX0_questionsSaid_34 hl (k := 5) rfl (by first | rfl | exact congrArg _ (by decide)) (by decide) rfl (fun ls hl => ?_)
        refine lv_goto (tgt := 6) hx hb dX0_questionsSaid_37 (by decide) ?_
        exact hv H locs ls hP hS (lv_sub hl [1, 2, 3, 4, 5, 0] rfl)
      · have hv := hv.2 c28
        refine lv_iinc (v := (x4 + 1)) (lv' := [(4, .int (x4 + 1)), (0, .ref (ad o)), (1, .int p0), (2, .int p1), (3, .int p2), (5, .int x5)]) hx hb dX0_questionsSaid_31 hl (k := 4) rfl (by first | rfl | exact congrArg _ (by decide)) (by decide) rfl (fun ls hl => ?_)
        refine lv_iinc (v := (x5 + 1)) (lv' := [(5, .int (x5 + 1)), (4, .int (x4 + 1)), (0, .ref (ad o)), (1, .int p0), (2, .int p1), (3, .int p2)]) hx hb dX0_questionsSaid_34 hl (k := 5) rfl (by first | rfl | exact congrArg _ (by decide)) (by decide) rfl (fun ls hl => ?_)
        refine lv_goto (tgt := 6) hx hb dX0_questionsSaid_37 (by decide) ?_
        exact hv H locs ls hP hS (lv_sub hl [2, 3, 4, 5, 1, 0] rfl))
  obtain ⟨H, hH⟩ : ∃ z, z = s.heap := ⟨_, rfl⟩
  obtain ⟨locs, hL⟩ : ∃ z : List Loc, z = [] := ⟨_, rfl⟩
  rw [← hL] at hS ⊢
  have hS : va_S A0 s.heap H locs := by rw [hH]; exact hS
  rw [← hH] at hP ⊢
  clear hH hL
  refine lv_iconst (v := 0) hx hb dX0_questionsSaid_0 (by decide) ?_
  refine lv_istore (lv' := [(4, .int 0), (0, .ref (ad o)), (1, .int p0), (2, .int p1), (3, .int p2)]) hx hb dX0_questionsSaid_1 hl (by decide) rfl (fun ls hl => ?_)
  refine lv_iconst (v := 0) hx hb dX0_questionsSaid_3 (by decide) ?_
  refine lv_istore (lv' := [(5, .int 0), (4, .int 0), (0, .ref (ad o)), (1, .int p0), (2, .int p1), (3, .int p2)]) hx hb dX0_questionsSaid_4 hl (by decide) rfl (fun ls hl => ?_)
  exact hv H locs ls hP hS (lv_sub hl [2, 3, 4, 5, 1, 0] rfl)

set_option maxHeartbeats 4000000 in
set_option maxRecDepth 100000 in
theorem m_X0_questionsSo (l : Launch) (h_X0_isSo : C_X0_isSo l) (g : CX) (ad : Nat → Nat) (o : Nat) (σ : KC)  (Post : Int32 → Prop) (hv : vc_X0_questionsSo σ Post) : Met l yX0_questionsSo wsX0_questionsSo { frames := 3, cells := 0, slots := 0, locals := 63 } (va_Pc [.ref (ad o)] (RO g (wC g ad o σ))) (va_Qi (fun r (_ : Unit) => Post r) (fun _ _ => True) A0) 0 0 A0 := by
  unfold vc_X0_questionsSo at hv
  refine Met.ofW (cc := cX0_questionsSo) (maxL := 3) (ret := (some .int)) (by decide) rfl ?_
  intro p e s m args below meth c s₁ B hml hv0
  obtain ⟨rfl, hP, hK, hE⟩ := hv0
  have hx := B.exec
  have hb := B.bytes
  have hr := B.returns
  have hts := atoms_spec (ws := wsX0_questionsSo) B.pre
  have hown : s.vm.findClass RX0 = some m.cls := findClass_of_methodNamed B.named
  have hlocks := B.notSynchronized
  have hi0 : ∀ w ∈ wsX00, w ∈ wsX0_questionsSo := by decide +kernel
  have k0 := hts (.fieldLink RX0 56 "JuryHearsAnswers$Court" "questions" "I") (by decide +kernel)
  have hS : va_S A0 s.heap s.heap [] := va_S.rf
  have hP : va_P (gD g) vwCl (wC g ad o σ) s.heap := hP
  have hl := lv_entry ([.ref (ad o)]) (n := 3) (Nat.le_of_ble_eq_true rfl)
  rw [lg_entry_eq]
  generalize (lg_sl ([.ref (ad o)]) ++ List.replicate (3 - (lg_sl ([.ref (ad o)])).length) Slot.unset).toArray = ls at hl ⊢
  have hl : lv_has ls 3 [(0, .ref (ad o))] := hl
  have hv := hv (fun (x1 : Int32) (x2 : Int32) => ∀ (H : Heap) (locs : List Loc) (ls : Array Slot), va_P (gD g) vwCl (wC g ad o σ) H → va_S A0 s.heap H locs → lv_has ls 3 [(0, .ref (ad o)), (1, .int x1), (2, .int x2)] → W p l e { frames := 3, cells := 0, slots := 0, locals := 63 } s m ([.ref (ad o)] : List Value).toArray below meth c H locs 0 0 (MQ below (va_Qi (fun r (_ : Unit) => Post r) (fun _ _ => True) A0) ([.ref (ad o)] : List Value).toArray s 0 0 A0) (F0 m 4 ls []))
  have hv := hv (by
    intro x1 x2 hv H locs ls hP hS hl
    refine lv_iload_n hx hb dX0_questionsSo_4 rfl (lv_at hl 2 rfl) ?_
    refine lv_aload_n hx hb dX0_questionsSo_5 rfl (lv_at hl 0 rfl) ?_
    refine va_get (D := gD g) (ci := 0) (v := .int (sNq (cS σ))) (C := RX0) (T := TX0) (N := 17) hx hb hts hi0 hown hK hP 0 rfl rfl 2 (by decide) k0 (fun _ h9 => h9) rfl dX0_questionsSo_6 ?_
    refine lv_icmp_ge (tgt := 32) hx hb dX0_questionsSo_9 (by decide) (fun c9 => ?_) (fun c9 => ?_)
    · have hv := hv.1 c9
      refine lv_iload_n hx hb dX0_questionsSo_32 rfl (lv_at hl 1 rfl) ?_
      exact W.iret (v := x1) hx hb hr (fun t ht hW => ⟨⟨x1, (), rfl, hv, trivial⟩, hS.F ht⟩) hS.2.2 dX0_questionsSo_33
    · have hv := hv.2 c9
      refine lv_aload_n hx hb dX0_questionsSo_12 rfl (lv_at hl 0 rfl) ?_
      refine lv_iload_n hx hb dX0_questionsSo_13 rfl (lv_at hl 2 rfl) ?_
      have hPc := hP
      refine ro_int (va_runV (As := [.int x2]) (rest := []) ⟨hx, hb, hml, hown, hts⟩ (h_X0_isSo g ad o σ x2) (cwV 1 hts gX0_questionsSo_X0_isSo rfl rfl rfl (by decide +kernel) ⟨Nat.le_of_ble_eq_true rfl, Nat.le_of_ble_eq_true rfl⟩) ⟨RO_blind, va_recv hK hP (ci := 0) (q0 := 0) rfl rfl, fun U hU hW => ⟨rfl, by rw [hU]; exact hPc, va_K.moved hW.alike hK, hE.call hW hU hS (fun _ h => h.elim)⟩⟩ rfl rfl hl.1 rfl (lv_room (Nat.le_of_ble_eq_true rfl)) dX0_questionsSo_14 ⟨Nat.le_of_ble_eq_true rfl, Nat.le_of_ble_eq_true rfl⟩) hS hP (fun r H locs hw hP hS => ?_)
      subst r
      refine lv_if_eq (tgt := 26) hx hb dX0_questionsSo_17 (by decide) (fun c17 => ?_) (fun c17 => ?_)
      · have hv := hv.1 c17
        refine lv_iinc (v := (x2 + 1)) (lv' := [(2, .int (x2 + 1)), (0, .ref (ad o)), (1, .int x1)]) hx hb dX0_questionsSo_26 hl (k := 2) rfl (by first | rfl | exact congrArg _ (by decide)) (by decide) rfl (fun ls hl => ?_)
        refine lv_goto (tgt := 4) hx hb dX0_questionsSo_29 (by decide) ?_
        exact hv H locs ls hP hS (lv_sub hl [1, 2, 0] rfl)
      · have hv := hv.2 c17
        refine lv_iload_n hx hb dX0_questionsSo_20 rfl (lv_at hl 1 rfl) ?_
        refine lv_iconst (v := 1) hx hb dX0_questionsSo_21 (by decide) ?_
        refine lv_iload_n hx hb dX0_questionsSo_22 rfl (lv_at hl 2 rfl) ?_
        refine lv_ishl hx hb dX0_questionsSo_23 ?_
        refine lv_ior hx hb dX0_questionsSo_24 ?_
        refine lv_istore_n (lv' := [(1, .int (x1 ||| (1 <<< (x2 &&& 31)))), (0, .ref (ad o)), (2, .int x2)]) hx hb dX0_questionsSo_25 rfl hl (by decide) rfl (fun ls hl => ?_)
        refine lv_iinc (v := (x2 + 1)) (lv' := [(2, .int (x2 + 1)), (1, .int (x1 ||| (1 <<< (x2 &&& 31)))), (0, .ref (ad o))]) hx hb dX0_questionsSo_26 hl (k := 2) rfl (by first | rfl | exact congrArg _ (by decide)) (by decide) rfl (fun ls hl => ?_)
        refine lv_goto (tgt := 4) hx hb dX0_questionsSo_29 (by decide) ?_
        exact hv H locs ls hP hS (lv_sub hl [2, 1, 0] rfl))
  obtain ⟨H, hH⟩ : ∃ z, z = s.heap := ⟨_, rfl⟩
  obtain ⟨locs, hL⟩ : ∃ z : List Loc, z = [] := ⟨_, rfl⟩
  rw [← hL] at hS ⊢
  have hS : va_S A0 s.heap H locs := by rw [hH]; exact hS
  rw [← hH] at hP ⊢
  clear hH hL
  refine lv_iconst (v := 0) hx hb dX0_questionsSo_0 (by decide) ?_
  refine lv_istore_n (lv' := [(1, .int 0), (0, .ref (ad o))]) hx hb dX0_questionsSo_1 rfl hl (by decide) rfl (fun ls hl => ?_)
  refine lv_iconst (v := 0) hx hb dX0_questionsSo_2 (by decide) ?_
  refine lv_istore_n (lv' := [(2, .int 0), (1, .int 0), (0, .ref (ad o))]) hx hb dX0_questionsSo_3 rfl hl (by decide) rfl (fun ls hl => ?_)
  exact hv H locs ls hP hS (lv_sub hl [2, 1, 0] rfl)

set_option maxHeartbeats 4000000 in
set_option maxRecDepth 100000 in
theorem m_X0_heardFitting (l : Launch) (h_X0_hasPlace : C_X0_hasPlace l) (h_X0_saying : C_X0_saying l) (g : CX) (ad : Nat → Nat) (o : Nat) (σ : KC) (p0 : Int32) (Post : Int64 → Prop) (hv : vc_X0_heardFitting σ p0 Post) : Met l yX0_heardFitting wsX0_heardFitting { frames := 3, cells := 0, slots := 0, locals := 70 } (va_Pc [.ref (ad o), .int p0] (RO g (wC g ad o σ))) (va_Ql (fun r (_ : Unit) => Post r) (fun _ _ => True) A0) 0 0 A0 := by
  unfold vc_X0_heardFitting at hv
  refine Met.ofW (cc := cX0_heardFitting) (maxL := 2) (ret := (some .long)) (by decide) rfl ?_
  intro p e s m args below meth c s₁ B hml hv0
  obtain ⟨rfl, hP, hK, hE⟩ := hv0
  have hx := B.exec
  have hb := B.bytes
  have hr := B.returns
  have hts := atoms_spec (ws := wsX0_heardFitting) B.pre
  have hown : s.vm.findClass RX0 = some m.cls := findClass_of_methodNamed B.named
  have hlocks := B.notSynchronized
  have hi0 : ∀ w ∈ wsX00, w ∈ wsX0_heardFitting := by decide +kernel
  have k0 := hts (.fieldLink RX0 37 "JuryHearsAnswers$Court" "heardWitness" "[I") (by decide +kernel)
  have k1 := hts (.fieldLink RX0 40 "JuryHearsAnswers$Court" "heardQuestion" "[I") (by decide +kernel)
  have k2 := hts (.fieldLink RX0 46 "JuryHearsAnswers$Court" "heardAsked" "[I") (by decide +kernel)
  have k3 := hts (.fieldLink RX0 43 "JuryHearsAnswers$Court" "heardAnswer" "[I") (by decide +kernel)
  have k4 := hts (.constantLong RX0 96 (-1)) (by decide +kernel)
  have hS : va_S A0 s.heap s.heap [] := va_S.rf
  have hP : va_P (gD g) vwCl (wC g ad o σ) s.heap := hP
  have hl := lv_entry ([.ref (ad o), .int p0]) (n := 2) (Nat.le_of_ble_eq_true rfl)
  rw [lg_entry_eq]
  generalize (lg_sl ([.ref (ad o), .int p0]) ++ List.replicate (2 - (lg_sl ([.ref (ad o), .int p0])).length) Slot.unset).toArray = ls at hl ⊢
  have hl : lv_has ls 2 [(0, .ref (ad o)), (1, .int p0)] := hl
  obtain ⟨H, hH⟩ : ∃ z, z = s.heap := ⟨_, rfl⟩
  obtain ⟨locs, hL⟩ : ∃ z : List Loc, z = [] := ⟨_, rfl⟩
  rw [← hL] at hS ⊢
  have hS : va_S A0 s.heap H locs := by rw [hH]; exact hS
  rw [← hH] at hP ⊢
  clear hH hL
  refine lv_aload_n hx hb dX0_heardFitting_0 rfl (lv_at hl 0 rfl) ?_
  refine lv_iload_n hx hb dX0_heardFitting_1 rfl (lv_at hl 1 rfl) ?_
  have hPc := hP
  refine ro_int (va_runV (As := [.int p0]) (rest := []) ⟨hx, hb, hml, hown, hts⟩ (h_X0_hasPlace g ad o σ p0) (cwV 1 hts gX0_heardFitting_X0_hasPlace rfl rfl rfl (by decide +kernel) ⟨Nat.le_of_ble_eq_true rfl, Nat.le_of_ble_eq_true rfl⟩) ⟨RO_blind, va_recv hK hP (ci := 0) (q0 := 0) rfl rfl, fun U hU hW => ⟨rfl, by rw [hU]; exact hPc, va_K.moved hW.alike hK, hE.call hW hU hS (fun _ h => h.elim)⟩⟩ rfl rfl hl.1 rfl (lv_room (Nat.le_of_ble_eq_true rfl)) dX0_heardFitting_2 ⟨Nat.le_of_ble_eq_true rfl, Nat.le_of_ble_eq_true rfl⟩) hS hP (fun r H locs hw hP hS => ?_)
  subst r
  refine lv_if_ne (tgt := 12) hx hb dX0_heardFitting_5 (by decide) (fun c5 => ?_) (fun c5 => ?_)
  · have hv := hv.1 c5
    refine lv_aload_n hx hb dX0_heardFitting_12 rfl (lv_at hl 0 rfl) ?_
    refine lv_aload_n hx hb dX0_heardFitting_13 rfl (lv_at hl 0 rfl) ?_
    refine va_get (D := gD g) (ci := 0) (v := .ref (ad (o + 9))) (C := RX0) (T := TX0) (N := 17) hx hb hts hi0 hown hK hP 0 rfl rfl 13 (by decide) k0 (fun _ h9 => h9) rfl dX0_heardFitting_14 ?_
    refine lv_iload_n hx hb dX0_heardFitting_17 rfl (lv_at hl 1 rfl) ?_
    have h9 := hv.1
    have hv := hv.2
    refine va_iald (f := (sWhom (cS σ))) (n := 12) hx hb hK hP 9 0 rfl rfl h9 dX0_heardFitting_18 ?_
    refine lv_aload_n hx hb dX0_heardFitting_19 rfl (lv_at hl 0 rfl) ?_
    refine va_get (D := gD g) (ci := 0) (v := .ref (ad (o + 10))) (C := RX0) (T := TX0) (N := 17) hx hb hts hi0 hown hK hP 0 rfl rfl 14 (by decide) k1 (fun _ h9 => h9) rfl dX0_heardFitting_20 ?_
    refine lv_iload_n hx hb dX0_heardFitting_23 rfl (lv_at hl 1 rfl) ?_
    have h9 := hv.1
    have hv := hv.2
    refine va_iald (f := (sWhat (cS σ))) (n := 12) hx hb hK hP 10 0 rfl rfl h9 dX0_heardFitting_24 ?_
    refine lv_aload_n hx hb dX0_heardFitting_25 rfl (lv_at hl 0 rfl) ?_
    refine va_get (D := gD g) (ci := 0) (v := .ref (ad (o + 12))) (C := RX0) (T := TX0) (N := 17) hx hb hts hi0 hown hK hP 0 rfl rfl 16 (by decide) k2 (fun _ h9 => h9) rfl dX0_heardFitting_26 ?_
    refine lv_iload_n hx hb dX0_heardFitting_29 rfl (lv_at hl 1 rfl) ?_
    have h9 := hv.1
    have hv := hv.2
    refine va_iald (f := (sWhen (cS σ))) (n := 12) hx hb hK hP 12 0 rfl rfl h9 dX0_heardFitting_30 ?_
    refine lv_aload_n hx hb dX0_heardFitting_31 rfl (lv_at hl 0 rfl) ?_
    refine va_get (D := gD g) (ci := 0) (v := .ref (ad (o + 11))) (C := RX0) (T := TX0) (N := 17) hx hb hts hi0 hown hK hP 0 rfl rfl 15 (by decide) k3 (fun _ h9 => h9) rfl dX0_heardFitting_32 ?_
    refine lv_iload_n hx hb dX0_heardFitting_35 rfl (lv_at hl 1 rfl) ?_
    have h9 := hv.1
    have hv := hv.2
    refine va_iald (f := (sSaid (cS σ))) (n := 12) hx hb hK hP 11 0 rfl rfl h9 dX0_heardFitting_36 ?_
    have h8 := hv.1
    have hv := hv.2
    have hPc := hP
    refine ro_long (va_runV (As := [.int ((sWhom (cS σ)) (p0).toNatClampNeg), .int ((sWhat (cS σ)) (p0).toNatClampNeg), .int ((sWhen (cS σ)) (p0).toNatClampNeg), .int ((sSaid (cS σ)) (p0).toNatClampNeg)]) (rest := []) ⟨hx, hb, hml, hown, hts⟩ (h_X0_saying g ad o σ ((sWhom (cS σ)) (p0).toNatClampNeg) ((sWhat (cS σ)) (p0).toNatClampNeg) ((sWhen (cS σ)) (p0).toNatClampNeg) ((sSaid (cS σ)) (p0).toNatClampNeg) h8) (cwV 4 hts gX0_heardFitting_X0_saying rfl rfl rfl (by decide +kernel) ⟨Nat.le_of_ble_eq_true rfl, Nat.le_of_ble_eq_true rfl⟩) ⟨RO_blind, va_recv hK hP (ci := 0) (q0 := 0) rfl rfl, fun U hU hW => ⟨rfl, by rw [hU]; exact hPc, va_K.moved hW.alike hK, hE.call hW hU hS (fun _ h => h.elim)⟩⟩ rfl rfl hl.1 rfl (lv_room (Nat.le_of_ble_eq_true rfl)) dX0_heardFitting_37 ⟨Nat.le_of_ble_eq_true rfl, Nat.le_of_ble_eq_true rfl⟩) hS hP (fun r H locs hw hP hS => ?_)
    subst r
    exact W.lret (v := (sayingL σ ((sWhom (cS σ)) (p0).toNatClampNeg) ((sWhat (cS σ)) (p0).toNatClampNeg) ((sWhen (cS σ)) (p0).toNatClampNeg) ((sSaid (cS σ)) (p0).toNatClampNeg))) hx hb hr (fun t ht hW => ⟨⟨(sayingL σ ((sWhom (cS σ)) (p0).toNatClampNeg) ((sWhat (cS σ)) (p0).toNatClampNeg) ((sWhen (cS σ)) (p0).toNatClampNeg) ((sSaid (cS σ)) (p0).toNatClampNeg)), (), rfl, hv, trivial⟩, hS.F ht⟩) hS.2.2 dX0_heardFitting_40
  · have hv := hv.2 c5
    refine lv_ldc2 hx hb hown k4 dX0_heardFitting_8 ?_
    exact W.lret (v := (-1)) hx hb hr (fun t ht hW => ⟨⟨(-1), (), rfl, hv, trivial⟩, hS.F ht⟩) hS.2.2 dX0_heardFitting_11

set_option maxHeartbeats 4000000 in
set_option maxRecDepth 100000 in
theorem m_X0_fitting (l : Launch) (h_X0_heardFitting : C_X0_heardFitting l) (g : CX) (ad : Nat → Nat) (o : Nat) (σ : KC)  (Post : Int64 → Prop) (hv : vc_X0_fitting σ Post) : Met l yX0_fitting wsX0_fitting { frames := 4, cells := 0, slots := 0, locals := 91 } (va_Pc [.ref (ad o)] (RO g (wC g ad o σ))) (va_Ql (fun r (_ : Unit) => Post r) (fun _ _ => True) A0) 0 0 A0 := by
  unfold vc_X0_fitting at hv
  refine Met.ofW (cc := cX0_fitting) (maxL := 4) (ret := (some .long)) (by decide) rfl ?_
  intro p e s m args below meth c s₁ B hml hv0
  obtain ⟨rfl, hP, hK, hE⟩ := hv0
  have hx := B.exec
  have hb := B.bytes
  have hr := B.returns
  have hts := atoms_spec (ws := wsX0_fitting) B.pre
  have hown : s.vm.findClass RX0 = some m.cls := findClass_of_methodNamed B.named
  have hlocks := B.notSynchronized
  have hi0 : ∀ w ∈ wsX00, w ∈ wsX0_fitting := by decide +kernel
  have k0 := hts (.constantLong RX0 96 (-1)) (by decide +kernel)
  have k1 := hts (.fieldLink RX0 62 "JuryHearsAnswers$Court" "heardLength" "I") (by decide +kernel)
  have hS : va_S A0 s.heap s.heap [] := va_S.rf
  have hP : va_P (gD g) vwCl (wC g ad o σ) s.heap := hP
  have hl := lv_entry ([.ref (ad o)]) (n := 4) (Nat.le_of_ble_eq_true rfl)
  rw [lg_entry_eq]
  generalize (lg_sl ([.ref (ad o)]) ++ List.replicate (4 - (lg_sl ([.ref (ad o)])).length) Slot.unset).toArray = ls at hl ⊢
  have hl : lv_has ls 4 [(0, .ref (ad o))] := hl
  have hv := hv (fun (x1 : Int64) (x3 : Int32) => ∀ (H : Heap) (locs : List Loc) (ls : Array Slot), va_P (gD g) vwCl (wC g ad o σ) H → va_S A0 s.heap H locs → lv_has ls 4 [(0, .ref (ad o)), (1, .long x1), (3, .int x3)] → W p l e { frames := 4, cells := 0, slots := 0, locals := 91 } s m ([.ref (ad o)] : List Value).toArray below meth c H locs 0 0 (MQ below (va_Ql (fun r (_ : Unit) => Post r) (fun _ _ => True) A0) ([.ref (ad o)] : List Value).toArray s 0 0 A0) (F0 m 6 ls []))
  have hv := hv (by
    intro x1 x3 hv H locs ls hP hS hl
    refine lv_iload_n hx hb dX0_fitting_6 rfl (lv_at hl 2 rfl) ?_
    refine lv_aload_n hx hb dX0_fitting_7 rfl (lv_at hl 0 rfl) ?_
    refine va_get (D := gD g) (ci := 0) (v := .int (sNh (cS σ))) (C := RX0) (T := TX0) (N := 17) hx hb hts hi0 hown hK hP 0 rfl rfl 4 (by decide) k1 (fun _ h9 => h9) rfl dX0_fitting_8 ?_
    refine lv_icmp_ge (tgt := 28) hx hb dX0_fitting_11 (by decide) (fun c11 => ?_) (fun c11 => ?_)
    · have hv := hv.1 c11
      refine lv_lload_n hx hb dX0_fitting_28 rfl (lv_at hl 1 rfl) ?_
      exact W.lret (v := x1) hx hb hr (fun t ht hW => ⟨⟨x1, (), rfl, hv, trivial⟩, hS.F ht⟩) hS.2.2 dX0_fitting_29
    · have hv := hv.2 c11
      refine lv_lload_n hx hb dX0_fitting_14 rfl (lv_at hl 1 rfl) ?_
      refine lv_aload_n hx hb dX0_fitting_15 rfl (lv_at hl 0 rfl) ?_
      refine lv_iload_n hx hb dX0_fitting_16 rfl (lv_at hl 2 rfl) ?_
      have h8 := hv.1
      have hv := hv.2
      have hPc := hP
      refine ro_long (va_runV (As := [.int x3]) (rest := [.long x1]) ⟨hx, hb, hml, hown, hts⟩ (h_X0_heardFitting g ad o σ x3 h8) (cwV 1 hts gX0_fitting_X0_heardFitting rfl rfl rfl (by decide +kernel) ⟨Nat.le_of_ble_eq_true rfl, Nat.le_of_ble_eq_true rfl⟩) ⟨RO_blind, va_recv hK hP (ci := 0) (q0 := 0) rfl rfl, fun U hU hW => ⟨rfl, by rw [hU]; exact hPc, va_K.moved hW.alike hK, hE.call hW hU hS (fun _ h => h.elim)⟩⟩ rfl rfl hl.1 rfl (lv_room (Nat.le_of_ble_eq_true rfl)) dX0_fitting_17 ⟨Nat.le_of_ble_eq_true rfl, Nat.le_of_ble_eq_true rfl⟩) hS hP (fun r H locs hw hP hS => ?_)
      subst r
      refine lv_land hx hb dX0_fitting_20 ?_
      refine lv_lstore_n (lv' := [(1, .long (x1 &&& (heardFittingL σ x3))), (0, .ref (ad o)), (3, .int x3)]) hx hb dX0_fitting_21 rfl hl (by decide) rfl (fun ls hl => ?_)
      refine lv_iinc (v := (x3 + 1)) (lv' := [(3, .int (x3 + 1)), (1, .long (x1 &&& (heardFittingL σ x3))), (0, .ref (ad o))]) hx hb dX0_fitting_22 hl (k := 2) rfl (by first | rfl | exact congrArg _ (by decide)) (by decide) rfl (fun ls hl => ?_)
      refine lv_goto (tgt := 6) hx hb dX0_fitting_25 (by decide) ?_
      exact hv H locs ls hP hS (lv_sub hl [2, 1, 0] rfl))
  obtain ⟨H, hH⟩ : ∃ z, z = s.heap := ⟨_, rfl⟩
  obtain ⟨locs, hL⟩ : ∃ z : List Loc, z = [] := ⟨_, rfl⟩
  rw [← hL] at hS ⊢
  have hS : va_S A0 s.heap H locs := by rw [hH]; exact hS
  rw [← hH] at hP ⊢
  clear hH hL
  refine lv_ldc2 hx hb hown k0 dX0_fitting_0 ?_
  refine lv_lstore_n (lv' := [(1, .long (-1)), (0, .ref (ad o))]) hx hb dX0_fitting_3 rfl hl (by decide) rfl (fun ls hl => ?_)
  refine lv_iconst (v := 0) hx hb dX0_fitting_4 (by decide) ?_
  refine lv_istore_n (lv' := [(3, .int 0), (1, .long (-1)), (0, .ref (ad o))]) hx hb dX0_fitting_5 rfl hl (by decide) rfl (fun ls hl => ?_)
  exact hv H locs ls hP hS (lv_sub hl [2, 1, 0] rfl)

set_option maxHeartbeats 4000000 in
set_option maxRecDepth 100000 in
theorem m_X0_juryFitting (l : Launch) (h_X0_saying : C_X0_saying l) (g : CX) (ad : Nat → Nat) (o : Nat) (σ : KC)  (Post : Int64 → Prop) (hv : vc_X0_juryFitting σ Post) : Met l yX0_juryFitting wsX0_juryFitting { frames := 3, cells := 0, slots := 0, locals := 70 } (va_Pc [.ref (ad o)] (RO g (wC g ad o σ))) (va_Ql (fun r (_ : Unit) => Post r) (fun _ _ => True) A0) 0 0 A0 := by
  unfold vc_X0_juryFitting at hv
  refine Met.ofW (cc := cX0_juryFitting) (maxL := 7) (ret := (some .long)) (by decide) rfl ?_
  intro p e s m args below meth c s₁ B hml hv0
  obtain ⟨rfl, hP, hK, hE⟩ := hv0
  have hx := B.exec
  have hb := B.bytes
  have hr := B.returns
  have hts := atoms_spec (ws := wsX0_juryFitting) B.pre
  have hown : s.vm.findClass RX0 = some m.cls := findClass_of_methodNamed B.named
  have hlocks := B.notSynchronized
  have hi0 : ∀ w ∈ wsX00, w ∈ wsX0_juryFitting := by decide +kernel
  have k0 := hts (.constantLong RX0 96 (-1)) (by decide +kernel)
  have k1 := hts (.fieldLink RX0 62 "JuryHearsAnswers$Court" "heardLength" "I") (by decide +kernel)
  have k2 := hts (.fieldLink RX0 56 "JuryHearsAnswers$Court" "questions" "I") (by decide +kernel)
  have k3 := hts (.fieldLink RX0 37 "JuryHearsAnswers$Court" "heardWitness" "[I") (by decide +kernel)
  have k4 := hts (.fieldLink RX0 46 "JuryHearsAnswers$Court" "heardAsked" "[I") (by decide +kernel)
  have k5 := hts (.fieldLink RX0 43 "JuryHearsAnswers$Court" "heardAnswer" "[I") (by decide +kernel)
  have hS : va_S A0 s.heap s.heap [] := va_S.rf
  have hP : va_P (gD g) vwCl (wC g ad o σ) s.heap := hP
  have hl := lv_entry ([.ref (ad o)]) (n := 7) (Nat.le_of_ble_eq_true rfl)
  rw [lg_entry_eq]
  generalize (lg_sl ([.ref (ad o)]) ++ List.replicate (7 - (lg_sl ([.ref (ad o)])).length) Slot.unset).toArray = ls at hl ⊢
  have hl : lv_has ls 7 [(0, .ref (ad o))] := hl
  have hv := hv (fun (x1 : Int64) (x3 : Int32) => ∀ (H : Heap) (locs : List Loc) (ls : Array Slot), va_P (gD g) vwCl (wC g ad o σ) H → va_S A0 s.heap H locs → lv_has ls 7 [(0, .ref (ad o)), (1, .long x1), (3, .int x3)] → W p l e { frames := 3, cells := 0, slots := 0, locals := 70 } s m ([.ref (ad o)] : List Value).toArray below meth c H locs 0 0 (MQ below (va_Ql (fun r (_ : Unit) => Post r) (fun _ _ => True) A0) ([.ref (ad o)] : List Value).toArray s 0 0 A0) (F0 m 6 ls []))
  have hv := hv (fun (x1 : Int64) (x3 : Int32) (x4 : Int64) (x6 : Int32) => ∀ (H : Heap) (locs : List Loc) (ls : Array Slot), va_P (gD g) vwCl (wC g ad o σ) H → va_S A0 s.heap H locs → lv_has ls 7 [(0, .ref (ad o)), (1, .long x1), (3, .int x3), (4, .long x4), (6, .int x6)] → W p l e { frames := 3, cells := 0, slots := 0, locals := 70 } s m ([.ref (ad o)] : List Value).toArray below meth c H locs 0 0 (MQ below (va_Ql (fun r (_ : Unit) => Post r) (fun _ _ => True) A0) ([.ref (ad o)] : List Value).toArray s 0 0 A0) (F0 m 20 ls []))
  have hv := hv (by
    intro x1 x3 hv H locs ls hP hS hl
    refine lv_iload_n hx hb dX0_juryFitting_6 rfl (lv_at hl 2 rfl) ?_
    refine lv_aload_n hx hb dX0_juryFitting_7 rfl (lv_at hl 0 rfl) ?_
    refine va_get (D := gD g) (ci := 0) (v := .int (sNh (cS σ))) (C := RX0) (T := TX0) (N := 17) hx hb hts hi0 hown hK hP 0 rfl rfl 4 (by decide) k1 (fun _ h9 => h9) rfl dX0_juryFitting_8 ?_
    refine lv_icmp_ge (tgt := 75) hx hb dX0_juryFitting_11 (by decide) (fun c11 => ?_) (fun c11 => ?_)
    · have hv := hv.1 c11
      refine lv_lload_n hx hb dX0_juryFitting_75 rfl (lv_at hl 1 rfl) ?_
      exact W.lret (v := x1) hx hb hr (fun t ht hW => ⟨⟨x1, (), rfl, hv, trivial⟩, hS.F ht⟩) hS.2.2 dX0_juryFitting_76
    · have hv := hv.2 c11
      refine lv_lconst (v := 0) hx hb dX0_juryFitting_14 (by decide) ?_
      refine lv_lstore (lv' := [(4, .long 0), (0, .ref (ad o)), (1, .long x1), (3, .int x3)]) hx hb dX0_juryFitting_15 hl (by decide) rfl (fun ls hl => ?_)
      refine lv_iconst (v := 0) hx hb dX0_juryFitting_17 (by decide) ?_
      refine lv_istore (lv' := [(6, .int 0), (4, .long 0), (0, .ref (ad o)), (1, .long x1), (3, .int x3)]) hx hb dX0_juryFitting_18 hl (by decide) rfl (fun ls hl => ?_)
      exact hv H locs ls hP hS (lv_sub hl [2, 3, 4, 1, 0] rfl))
  have hv := hv (by
    intro x1 x3 x4 x6 hv H locs ls hP hS hl
    refine lv_iload hx hb dX0_juryFitting_20 (lv_at hl 4 rfl) ?_
    refine lv_aload_n hx hb dX0_juryFitting_22 rfl (lv_at hl 0 rfl) ?_
    refine va_get (D := gD g) (ci := 0) (v := .int (sNq (cS σ))) (C := RX0) (T := TX0) (N := 17) hx hb hts hi0 hown hK hP 0 rfl rfl 2 (by decide) k2 (fun _ h9 => h9) rfl dX0_juryFitting_23 ?_
    refine lv_icmp_ge (tgt := 64) hx hb dX0_juryFitting_26 (by decide) (fun c26 => ?_) (fun c26 => ?_)
    · have hv := hv.1 c26
      refine lv_lload_n hx hb dX0_juryFitting_64 rfl (lv_at hl 1 rfl) ?_
      refine lv_lload hx hb dX0_juryFitting_65 (lv_at hl 3 rfl) ?_
      refine lv_land hx hb dX0_juryFitting_67 ?_
      refine lv_lstore_n (lv' := [(1, .long (x1 &&& x4)), (0, .ref (ad o)), (3, .int x3), (4, .long x4), (6, .int x6)]) hx hb dX0_juryFitting_68 rfl hl (by decide) rfl (fun ls hl => ?_)
      refine lv_iinc (v := (x3 + 1)) (lv' := [(3, .int (x3 + 1)), (1, .long (x1 &&& x4)), (0, .ref (ad o)), (4, .long x4), (6, .int x6)]) hx hb dX0_juryFitting_69 hl (k := 2) rfl (by first | rfl | exact congrArg _ (by decide)) (by decide) rfl (fun ls hl => ?_)
      refine lv_goto (tgt := 6) hx hb dX0_juryFitting_72 (by decide) ?_
      exact hv H locs ls hP hS (lv_sub hl [2, 1, 0] rfl)
    · have hv := hv.2 c26
      refine lv_lload hx hb dX0_juryFitting_29 (lv_at hl 3 rfl) ?_
      refine lv_aload_n hx hb dX0_juryFitting_31 rfl (lv_at hl 0 rfl) ?_
      refine lv_aload_n hx hb dX0_juryFitting_32 rfl (lv_at hl 0 rfl) ?_
      refine va_get (D := gD g) (ci := 0) (v := .ref (ad (o + 9))) (C := RX0) (T := TX0) (N := 17) hx hb hts hi0 hown hK hP 0 rfl rfl 13 (by decide) k3 (fun _ h9 => h9) rfl dX0_juryFitting_33 ?_
      refine lv_iload_n hx hb dX0_juryFitting_36 rfl (lv_at hl 2 rfl) ?_
      have h9 := hv.1
      have hv := hv.2
      refine va_iald (f := (sWhom (cS σ))) (n := 12) hx hb hK hP 9 0 rfl rfl h9 dX0_juryFitting_37 ?_
      refine lv_iload hx hb dX0_juryFitting_38 (lv_at hl 4 rfl) ?_
      refine lv_aload_n hx hb dX0_juryFitting_40 rfl (lv_at hl 0 rfl) ?_
      refine va_get (D := gD g) (ci := 0) (v := .ref (ad (o + 12))) (C := RX0) (T := TX0) (N := 17) hx hb hts hi0 hown hK hP 0 rfl rfl 16 (by decide) k4 (fun _ h9 => h9) rfl dX0_juryFitting_41 ?_
      refine lv_iload_n hx hb dX0_juryFitting_44 rfl (lv_at hl 2 rfl) ?_
      have h9 := hv.1
      have hv := hv.2
      refine va_iald (f := (sWhen (cS σ))) (n := 12) hx hb hK hP 12 0 rfl rfl h9 dX0_juryFitting_45 ?_
      refine lv_aload_n hx hb dX0_juryFitting_46 rfl (lv_at hl 0 rfl) ?_
      refine va_get (D := gD g) (ci := 0) (v := .ref (ad (o + 11))) (C := RX0) (T := TX0) (N := 17) hx hb hts hi0 hown hK hP 0 rfl rfl 15 (by decide) k5 (fun _ h9 => h9) rfl dX0_juryFitting_47 ?_
      refine lv_iload_n hx hb dX0_juryFitting_50 rfl (lv_at hl 2 rfl) ?_
      have h9 := hv.1
      have hv := hv.2
      refine va_iald (f := (sSaid (cS σ))) (n := 12) hx hb hK hP 11 0 rfl rfl h9 dX0_juryFitting_51 ?_
      have h8 := hv.1
      have hv := hv.2
      have hPc := hP
      refine ro_long (va_runV (As := [.int ((sWhom (cS σ)) (x3).toNatClampNeg), .int x6, .int ((sWhen (cS σ)) (x3).toNatClampNeg), .int ((sSaid (cS σ)) (x3).toNatClampNeg)]) (rest := [.long x4]) ⟨hx, hb, hml, hown, hts⟩ (h_X0_saying g ad o σ ((sWhom (cS σ)) (x3).toNatClampNeg) x6 ((sWhen (cS σ)) (x3).toNatClampNeg) ((sSaid (cS σ)) (x3).toNatClampNeg) h8) (cwV 4 hts gX0_juryFitting_X0_saying rfl rfl rfl (by decide +kernel) ⟨Nat.le_of_ble_eq_true rfl, Nat.le_of_ble_eq_true rfl⟩) ⟨RO_blind, va_recv hK hP (ci := 0) (q0 := 0) rfl rfl, fun U hU hW => ⟨rfl, by rw [hU]; exact hPc, va_K.moved hW.alike hK, hE.call hW hU hS (fun _ h => h.elim)⟩⟩ rfl rfl hl.1 rfl (lv_room (Nat.le_of_ble_eq_true rfl)) dX0_juryFitting_52 ⟨Nat.le_of_ble_eq_true rfl, Nat.le_of_ble_eq_true rfl⟩) hS hP (fun r H locs hw hP hS => ?_)
      subst r
      refine lv_lor hx hb dX0_juryFitting_55 ?_
      refine lv_lstore (lv' := [(4, .long (x4 ||| (sayingL σ ((sWhom (cS σ)) (x3).toNatClampNeg) x6 ((sWhen (cS σ)) (x3).toNatClampNeg) ((sSaid (cS σ)) (x3).toNatClampNeg)))), (0, .ref (ad o)), (1, .long x1), (3, .int x3), (6, .int x6)]) hx hb dX0_juryFitting_56 hl (by decide) rfl (fun ls hl => ?_)
      refine lv_iinc (v := (x6 + 1)) (lv' := [(6, .int (x6 + 1)), (4, .long (x4 ||| (sayingL σ ((sWhom (cS σ)) (x3).toNatClampNeg) x6 ((sWhen (cS σ)) (x3).toNatClampNeg) ((sSaid (cS σ)) (x3).toNatClampNeg)))), (0, .ref (ad o)), (1, .long x1), (3, .int x3)]) hx hb dX0_juryFitting_58 hl (k := 4) rfl (by first | rfl | exact congrArg _ (by decide)) (by decide) rfl (fun ls hl => ?_)
      refine lv_goto (tgt := 20) hx hb dX0_juryFitting_61 (by decide) ?_
      exact hv H locs ls hP hS (lv_sub hl [2, 3, 4, 1, 0] rfl))
  obtain ⟨H, hH⟩ : ∃ z, z = s.heap := ⟨_, rfl⟩
  obtain ⟨locs, hL⟩ : ∃ z : List Loc, z = [] := ⟨_, rfl⟩
  rw [← hL] at hS ⊢
  have hS : va_S A0 s.heap H locs := by rw [hH]; exact hS
  rw [← hH] at hP ⊢
  clear hH hL
  refine lv_ldc2 hx hb hown k0 dX0_juryFitting_0 ?_
  refine lv_lstore_n (lv' := [(1, .long (-1)), (0, .ref (ad o))]) hx hb dX0_juryFitting_3 rfl hl (by decide) rfl (fun ls hl => ?_)
  refine lv_iconst (v := 0) hx hb dX0_juryFitting_4 (by decide) ?_
  refine lv_istore_n (lv' := [(3, .int 0), (1, .long (-1)), (0, .ref (ad o))]) hx hb dX0_juryFitting_5 rfl hl (by decide) rfl (fun ls hl => ?_)
  exact hv H locs ls hP hS (lv_sub hl [2, 1, 0] rfl)

set_option maxHeartbeats 4000000 in
set_option maxRecDepth 100000 in
theorem m_X0_untruths (l : Launch) (h_X0_truthOf : C_X0_truthOf l) (g : CX) (ad : Nat → Nat) (o : Nat) (σ : KC) (p0 : Int32) (Post : Int64 → Prop) (hv : vc_X0_untruths σ p0 Post) : Met l yX0_untruths wsX0_untruths { frames := 2, cells := 0, slots := 0, locals := 42 } (va_Pc [.ref (ad o), .int p0] (RO g (wC g ad o σ))) (va_Ql (fun r (_ : Unit) => Post r) (fun _ _ => True) A0) 0 0 A0 := by
  unfold vc_X0_untruths at hv
  refine Met.ofW (cc := cX0_untruths) (maxL := 8) (ret := (some .long)) (by decide) rfl ?_
  intro p e s m args below meth c s₁ B hml hv0
  obtain ⟨rfl, hP, hK, hE⟩ := hv0
  have hx := B.exec
  have hb := B.bytes
  have hr := B.returns
  have hts := atoms_spec (ws := wsX0_untruths) B.pre
  have hown : s.vm.findClass RX0 = some m.cls := findClass_of_methodNamed B.named
  have hlocks := B.notSynchronized
  have hi0 : ∀ w ∈ wsX00, w ∈ wsX0_untruths := by decide +kernel
  have k0 := hts (.fieldLink RX0 62 "JuryHearsAnswers$Court" "heardLength" "I") (by decide +kernel)
  have k1 := hts (.fieldLink RX0 43 "JuryHearsAnswers$Court" "heardAnswer" "[I") (by decide +kernel)
  have k2 := hts (.fieldLink RX0 37 "JuryHearsAnswers$Court" "heardWitness" "[I") (by decide +kernel)
  have k3 := hts (.fieldLink RX0 40 "JuryHearsAnswers$Court" "heardQuestion" "[I") (by decide +kernel)
  have k4 := hts (.constantLong RX0 96 (-1)) (by decide +kernel)
  have hS : va_S A0 s.heap s.heap [] := va_S.rf
  have hP : va_P (gD g) vwCl (wC g ad o σ) s.heap := hP
  have hl := lv_entry ([.ref (ad o), .int p0]) (n := 8) (Nat.le_of_ble_eq_true rfl)
  rw [lg_entry_eq]
  generalize (lg_sl ([.ref (ad o), .int p0]) ++ List.replicate (8 - (lg_sl ([.ref (ad o), .int p0])).length) Slot.unset).toArray = ls at hl ⊢
  have hl : lv_has ls 8 [(0, .ref (ad o)), (1, .int p0)] := hl
  have hv := hv (fun (x2 : Int64) (x4 : Int32) => ∀ (H : Heap) (locs : List Loc) (ls : Array Slot), va_P (gD g) vwCl (wC g ad o σ) H → va_S A0 s.heap H locs → lv_has ls 8 [(0, .ref (ad o)), (1, .int p0), (2, .long x2), (4, .int x4)] → W p l e { frames := 2, cells := 0, slots := 0, locals := 42 } s m ([.ref (ad o), .int p0] : List Value).toArray below meth c H locs 0 0 (MQ below (va_Ql (fun r (_ : Unit) => Post r) (fun _ _ => True) A0) ([.ref (ad o), .int p0] : List Value).toArray s 0 0 A0) (F0 m 5 ls []))
  have hv := hv (by
    intro x2 x4 hv H locs ls hP hS hl
    refine lv_iload hx hb dX0_untruths_5 (lv_at hl 3 rfl) ?_
    refine lv_aload_n hx hb dX0_untruths_7 rfl (lv_at hl 0 rfl) ?_
    refine va_get (D := gD g) (ci := 0) (v := .int (sNh (cS σ))) (C := RX0) (T := TX0) (N := 17) hx hb hts hi0 hown hK hP 0 rfl rfl 4 (by decide) k0 (fun _ h9 => h9) rfl dX0_untruths_8 ?_
    refine lv_icmp_ge (tgt := 79) hx hb dX0_untruths_11 (by decide) (fun c11 => ?_) (fun c11 => ?_)
    · have hv := hv.1 c11
      refine lv_lload_n hx hb dX0_untruths_79 rfl (lv_at hl 2 rfl) ?_
      exact W.lret (v := x2) hx hb hr (fun t ht hW => ⟨⟨x2, (), rfl, hv, trivial⟩, hS.F ht⟩) hS.2.2 dX0_untruths_80
    · have hv := hv.2 c11
      refine lv_aload_n hx hb dX0_untruths_14 rfl (lv_at hl 0 rfl) ?_
      refine va_get (D := gD g) (ci := 0) (v := .ref (ad (o + 11))) (C := RX0) (T := TX0) (N := 17) hx hb hts hi0 hown hK hP 0 rfl rfl 15 (by decide) k1 (fun _ h9 => h9) rfl dX0_untruths_15 ?_
      refine lv_iload hx hb dX0_untruths_18 (lv_at hl 3 rfl) ?_
      have h9 := hv.1
      have hv := hv.2
      refine va_iald (f := (sSaid (cS σ))) (n := 12) hx hb hK hP 11 0 rfl rfl h9 dX0_untruths_20 ?_
      refine lv_istore (lv' := [(5, .int ((sSaid (cS σ)) (x4).toNatClampNeg)), (0, .ref (ad o)), (1, .int p0), (2, .long x2), (4, .int x4)]) hx hb dX0_untruths_21 hl (by decide) rfl (fun ls hl => ?_)
      refine lv_aload_n hx hb dX0_untruths_23 rfl (lv_at hl 1 rfl) ?_
      refine va_get (D := gD g) (ci := 0) (v := .ref (ad (o + 9))) (C := RX0) (T := TX0) (N := 17) hx hb hts hi0 hown hK hP 0 rfl rfl 13 (by decide) k2 (fun _ h9 => h9) rfl dX0_untruths_24 ?_
      refine lv_iload hx hb dX0_untruths_27 (lv_at hl 4 rfl) ?_
      have h9 := hv.1
      have hv := hv.2
      refine va_iald (f := (sWhom (cS σ))) (n := 12) hx hb hK hP 9 0 rfl rfl h9 dX0_untruths_29 ?_
      refine lv_iload_n hx hb dX0_untruths_30 rfl (lv_at hl 2 rfl) ?_
      refine lv_icmp_ne (tgt := 73) hx hb dX0_untruths_31 (by decide) (fun c31 => ?_) (fun c31 => ?_)
      · have hv := hv.1 c31
        refine lv_iinc (v := (x4 + 1)) (lv' := [(4, .int (x4 + 1)), (5, .int ((sSaid (cS σ)) (x4).toNatClampNeg)), (0, .ref (ad o)), (1, .int p0), (2, .long x2)]) hx hb dX0_untruths_73 hl (k := 4) rfl (by first | rfl | exact congrArg _ (by decide)) (by decide) rfl (fun ls hl => ?_)
        refine lv_goto (tgt := 5) hx hb dX0_untruths_76 (by decide) ?_
        exact hv H locs ls hP hS (lv_sub hl [2, 3, 4, 0] rfl)
      · have hv := hv.2 c31
        refine lv_iload hx hb dX0_untruths_34 (lv_at hl 0 rfl) ?_
        refine lv_iconst (v := 2) hx hb dX0_untruths_36 (by decide) ?_
        refine lv_icmp_eq (tgt := 73) hx hb dX0_untruths_37 (by decide) (fun c37 => ?_) (fun c37 => ?_)
        · have hv := hv.1 c37
          refine lv_iinc (v := (x4 + 1)) (lv' := [(4, .int (x4 + 1)), (5, .int ((sSaid (cS σ)) (x4).toNatClampNeg)), (0, .ref (ad o)), (1, .int p0), (2, .long x2)]) hx hb dX0_untruths_73 hl (k := 4) rfl (by first | rfl | exact congrArg _ (by decide)) (by decide) rfl (fun ls hl => ?_)
          refine lv_goto (tgt := 5) hx hb dX0_untruths_76 (by decide) ?_
          exact hv H locs ls hP hS (lv_sub hl [2, 3, 4, 0] rfl)
        · have hv := hv.2 c37
          refine lv_aload_n hx hb dX0_untruths_40 rfl (lv_at hl 1 rfl) ?_
          refine lv_aload_n hx hb dX0_untruths_41 rfl (lv_at hl 1 rfl) ?_
          refine va_get (D := gD g) (ci := 0) (v := .ref (ad (o + 10))) (C := RX0) (T := TX0) (N := 17) hx hb hts hi0 hown hK hP 0 rfl rfl 14 (by decide) k3 (fun _ h9 => h9) rfl dX0_untruths_42 ?_
          refine lv_iload hx hb dX0_untruths_45 (lv_at hl 4 rfl) ?_
          have h9 := hv.1
          have hv := hv.2
          refine va_iald (f := (sWhat (cS σ))) (n := 12) hx hb hK hP 10 0 rfl rfl h9 dX0_untruths_47 ?_
          have hPc := hP
          refine ro_long (va_runV (As := [.int ((sWhat (cS σ)) (x4).toNatClampNeg)]) (rest := []) ⟨hx, hb, hml, hown, hts⟩ (h_X0_truthOf g ad o σ ((sWhat (cS σ)) (x4).toNatClampNeg)) (cwV 1 hts gX0_untruths_X0_truthOf rfl rfl rfl (by decide +kernel) ⟨Nat.le_of_ble_eq_true rfl, Nat.le_of_ble_eq_true rfl⟩) ⟨RO_blind, va_recv hK hP (ci := 0) (q0 := 0) rfl rfl, fun U hU hW => ⟨rfl, by rw [hU]; exact hPc, va_K.moved hW.alike hK, hE.call hW hU hS (fun _ h => h.elim)⟩⟩ rfl rfl hl.1 rfl (lv_room (Nat.le_of_ble_eq_true rfl)) dX0_untruths_48 ⟨Nat.le_of_ble_eq_true rfl, Nat.le_of_ble_eq_true rfl⟩) hS hP (fun r H locs hw hP hS => ?_)
          subst r
          refine lv_lstore (lv' := [(6, .long (truthOfL σ ((sWhat (cS σ)) (x4).toNatClampNeg))), (5, .int ((sSaid (cS σ)) (x4).toNatClampNeg)), (0, .ref (ad o)), (1, .int p0), (2, .long x2), (4, .int x4)]) hx hb dX0_untruths_51 hl (by decide) rfl (fun ls hl => ?_)
          refine lv_lload_n hx hb dX0_untruths_53 rfl (lv_at hl 4 rfl) ?_
          refine lv_iload hx hb dX0_untruths_54 (lv_at hl 1 rfl) ?_
          refine lv_iconst (v := 1) hx hb dX0_untruths_56 (by decide) ?_
          refine lv_icmp_ne (tgt := 69) hx hb dX0_untruths_57 (by decide) (fun c57 => ?_) (fun c57 => ?_)
          · have hv := hv.1 c57
            refine lv_lload hx hb dX0_untruths_69 (lv_at hl 0 rfl) ?_
            refine lv_lor hx hb dX0_untruths_71 ?_
            refine lv_lstore_n (lv' := [(2, .long (x2 ||| (truthOfL σ ((sWhat (cS σ)) (x4).toNatClampNeg)))), (6, .long (truthOfL σ ((sWhat (cS σ)) (x4).toNatClampNeg))), (5, .int ((sSaid (cS σ)) (x4).toNatClampNeg)), (0, .ref (ad o)), (1, .int p0), (4, .int x4)]) hx hb dX0_untruths_72 rfl hl (by decide) rfl (fun ls hl => ?_)
            refine lv_iinc (v := (x4 + 1)) (lv' := [(4, .int (x4 + 1)), (2, .long (x2 ||| (truthOfL σ ((sWhat (cS σ)) (x4).toNatClampNeg)))), (6, .long (truthOfL σ ((sWhat (cS σ)) (x4).toNatClampNeg))), (5, .int ((sSaid (cS σ)) (x4).toNatClampNeg)), (0, .ref (ad o)), (1, .int p0)]) hx hb dX0_untruths_73 hl (k := 5) rfl (by first | rfl | exact congrArg _ (by decide)) (by decide) rfl (fun ls hl => ?_)
            refine lv_goto (tgt := 5) hx hb dX0_untruths_76 (by decide) ?_
            exact hv H locs ls hP hS (lv_sub hl [4, 5, 1, 0] rfl)
          · have hv := hv.2 c57
            refine lv_lload hx hb dX0_untruths_60 (lv_at hl 0 rfl) ?_
            refine lv_ldc2 hx hb hown k4 dX0_untruths_62 ?_
            refine lv_lxor hx hb dX0_untruths_65 ?_
            refine lv_goto (tgt := 71) hx hb dX0_untruths_66 (by decide) ?_
            refine lv_lor hx hb dX0_untruths_71 ?_
            refine lv_lstore_n (lv' := [(2, .long (x2 ||| ((truthOfL σ ((sWhat (cS σ)) (x4).toNatClampNeg)) ^^^ (-1)))), (6, .long (truthOfL σ ((sWhat (cS σ)) (x4).toNatClampNeg))), (5, .int ((sSaid (cS σ)) (x4).toNatClampNeg)), (0, .ref (ad o)), (1, .int p0), (4, .int x4)]) hx hb dX0_untruths_72 rfl hl (by decide) rfl (fun ls hl => ?_)
            refine lv_iinc (v := (x4 + 1)) (lv' := [(4, .int (x4 + 1)), (2, .long (x2 ||| ((truthOfL σ ((sWhat (cS σ)) (x4).toNatClampNeg)) ^^^ (-1)))), (6, .long (truthOfL σ ((sWhat (cS σ)) (x4).toNatClampNeg))), (5, .int ((sSaid (cS σ)) (x4).toNatClampNeg)), (0, .ref (ad o)), (1, .int p0)]) hx hb dX0_untruths_73 hl (k := 5) rfl (by first | rfl | exact congrArg _ (by decide)) (by decide) rfl (fun ls hl => ?_)
            refine lv_goto (tgt := 5) hx hb dX0_untruths_76 (by decide) ?_
            exact hv H locs ls hP hS (lv_sub hl [4, 5, 1, 0] rfl))
  obtain ⟨H, hH⟩ : ∃ z, z = s.heap := ⟨_, rfl⟩
  obtain ⟨locs, hL⟩ : ∃ z : List Loc, z = [] := ⟨_, rfl⟩
  rw [← hL] at hS ⊢
  have hS : va_S A0 s.heap H locs := by rw [hH]; exact hS
  rw [← hH] at hP ⊢
  clear hH hL
  refine lv_lconst (v := 0) hx hb dX0_untruths_0 (by decide) ?_
  refine lv_lstore_n (lv' := [(2, .long 0), (0, .ref (ad o)), (1, .int p0)]) hx hb dX0_untruths_1 rfl hl (by decide) rfl (fun ls hl => ?_)
  refine lv_iconst (v := 0) hx hb dX0_untruths_2 (by decide) ?_
  refine lv_istore (lv' := [(4, .int 0), (2, .long 0), (0, .ref (ad o)), (1, .int p0)]) hx hb dX0_untruths_3 hl (by decide) rfl (fun ls hl => ?_)
  exact hv H locs ls hP hS (lv_sub hl [2, 3, 1, 0] rfl)

set_option maxHeartbeats 4000000 in
set_option maxRecDepth 100000 in
theorem m_X0_answersOf (l : Launch)  (g : CX) (ad : Nat → Nat) (o : Nat) (σ : KC) (p0 : Int32) (Post : Int32 → Prop) (hv : vc_X0_answersOf σ p0 Post) : Met l yX0_answersOf wsX0_answersOf { frames := 0, cells := 0, slots := 0, locals := 0 } (va_Pc [.ref (ad o), .int p0] (RO g (wC g ad o σ))) (va_Qi (fun r (_ : Unit) => Post r) (fun _ _ => True) A0) 0 0 A0 := by
  unfold vc_X0_answersOf at hv
  refine Met.ofW (cc := cX0_answersOf) (maxL := 4) (ret := (some .int)) (by decide) rfl ?_
  intro p e s m args below meth c s₁ B hml hv0
  obtain ⟨rfl, hP, hK, hE⟩ := hv0
  have hx := B.exec
  have hb := B.bytes
  have hr := B.returns
  have hts := atoms_spec (ws := wsX0_answersOf) B.pre
  have hown : s.vm.findClass RX0 = some m.cls := findClass_of_methodNamed B.named
  have hlocks := B.notSynchronized
  have hi0 : ∀ w ∈ wsX00, w ∈ wsX0_answersOf := by decide +kernel
  have k0 := hts (.fieldLink RX0 62 "JuryHearsAnswers$Court" "heardLength" "I") (by decide +kernel)
  have k1 := hts (.fieldLink RX0 37 "JuryHearsAnswers$Court" "heardWitness" "[I") (by decide +kernel)
  have k2 := hts (.fieldLink RX0 43 "JuryHearsAnswers$Court" "heardAnswer" "[I") (by decide +kernel)
  have hS : va_S A0 s.heap s.heap [] := va_S.rf
  have hP : va_P (gD g) vwCl (wC g ad o σ) s.heap := hP
  have hl := lv_entry ([.ref (ad o), .int p0]) (n := 4) (Nat.le_of_ble_eq_true rfl)
  rw [lg_entry_eq]
  generalize (lg_sl ([.ref (ad o), .int p0]) ++ List.replicate (4 - (lg_sl ([.ref (ad o), .int p0])).length) Slot.unset).toArray = ls at hl ⊢
  have hl : lv_has ls 4 [(0, .ref (ad o)), (1, .int p0)] := hl
  have hv := hv (fun (x2 : Int32) (x3 : Int32) => ∀ (H : Heap) (locs : List Loc) (ls : Array Slot), va_P (gD g) vwCl (wC g ad o σ) H → va_S A0 s.heap H locs → lv_has ls 4 [(0, .ref (ad o)), (1, .int p0), (2, .int x2), (3, .int x3)] → W p l e { frames := 0, cells := 0, slots := 0, locals := 0 } s m ([.ref (ad o), .int p0] : List Value).toArray below meth c H locs 0 0 (MQ below (va_Qi (fun r (_ : Unit) => Post r) (fun _ _ => True) A0) ([.ref (ad o), .int p0] : List Value).toArray s 0 0 A0) (F0 m 4 ls []))
  have hv := hv (by
    intro x2 x3 hv H locs ls hP hS hl
    refine lv_iload_n hx hb dX0_answersOf_4 rfl (lv_at hl 3 rfl) ?_
    refine lv_aload_n hx hb dX0_answersOf_5 rfl (lv_at hl 0 rfl) ?_
    refine va_get (D := gD g) (ci := 0) (v := .int (sNh (cS σ))) (C := RX0) (T := TX0) (N := 17) hx hb hts hi0 hown hK hP 0 rfl rfl 4 (by decide) k0 (fun _ h9 => h9) rfl dX0_answersOf_6 ?_
    refine lv_icmp_ge (tgt := 41) hx hb dX0_answersOf_9 (by decide) (fun c9 => ?_) (fun c9 => ?_)
    · have hv := hv.1 c9
      refine lv_iload_n hx hb dX0_answersOf_41 rfl (lv_at hl 2 rfl) ?_
      exact W.iret (v := x2) hx hb hr (fun t ht hW => ⟨⟨x2, (), rfl, hv, trivial⟩, hS.F ht⟩) hS.2.2 dX0_answersOf_42
    · have hv := hv.2 c9
      refine lv_aload_n hx hb dX0_answersOf_12 rfl (lv_at hl 0 rfl) ?_
      refine va_get (D := gD g) (ci := 0) (v := .ref (ad (o + 9))) (C := RX0) (T := TX0) (N := 17) hx hb hts hi0 hown hK hP 0 rfl rfl 13 (by decide) k1 (fun _ h9 => h9) rfl dX0_answersOf_13 ?_
      refine lv_iload_n hx hb dX0_answersOf_16 rfl (lv_at hl 3 rfl) ?_
      have h9 := hv.1
      have hv := hv.2
      refine va_iald (f := (sWhom (cS σ))) (n := 12) hx hb hK hP 9 0 rfl rfl h9 dX0_answersOf_17 ?_
      refine lv_iload_n hx hb dX0_answersOf_18 rfl (lv_at hl 1 rfl) ?_
      refine lv_icmp_ne (tgt := 35) hx hb dX0_answersOf_19 (by decide) (fun c19 => ?_) (fun c19 => ?_)
      · have hv := hv.1 c19
        refine lv_iinc (v := (x3 + 1)) (lv' := [(3, .int (x3 + 1)), (0, .ref (ad o)), (1, .int p0), (2, .int x2)]) hx hb dX0_answersOf_35 hl (k := 3) rfl (by first | rfl | exact congrArg _ (by decide)) (by decide) rfl (fun ls hl => ?_)
        refine lv_goto (tgt := 4) hx hb dX0_answersOf_38 (by decide) ?_
        exact hv H locs ls hP hS (lv_sub hl [1, 2, 3, 0] rfl)
      · have hv := hv.2 c19
        refine lv_aload_n hx hb dX0_answersOf_22 rfl (lv_at hl 0 rfl) ?_
        refine va_get (D := gD g) (ci := 0) (v := .ref (ad (o + 11))) (C := RX0) (T := TX0) (N := 17) hx hb hts hi0 hown hK hP 0 rfl rfl 15 (by decide) k2 (fun _ h9 => h9) rfl dX0_answersOf_23 ?_
        refine lv_iload_n hx hb dX0_answersOf_26 rfl (lv_at hl 3 rfl) ?_
        have h9 := hv.1
        have hv := hv.2
        refine va_iald (f := (sSaid (cS σ))) (n := 12) hx hb hK hP 11 0 rfl rfl h9 dX0_answersOf_27 ?_
        refine lv_iconst (v := 2) hx hb dX0_answersOf_28 (by decide) ?_
        refine lv_icmp_eq (tgt := 35) hx hb dX0_answersOf_29 (by decide) (fun c29 => ?_) (fun c29 => ?_)
        · have hv := hv.1 c29
          refine lv_iinc (v := (x3 + 1)) (lv' := [(3, .int (x3 + 1)), (0, .ref (ad o)), (1, .int p0), (2, .int x2)]) hx hb dX0_answersOf_35 hl (k := 3) rfl (by first | rfl | exact congrArg _ (by decide)) (by decide) rfl (fun ls hl => ?_)
          refine lv_goto (tgt := 4) hx hb dX0_answersOf_38 (by decide) ?_
          exact hv H locs ls hP hS (lv_sub hl [1, 2, 3, 0] rfl)
        · have hv := hv.2 c29
          refine lv_iinc (v := (x2 + 1)) (lv' := [(2, .int (x2 + 1)), (0, .ref (ad o)), (1, .int p0), (3, .int x3)]) hx hb dX0_answersOf_32 hl (k := 2) rfl (by first | rfl | exact congrArg _ (by decide)) (by decide) rfl (fun ls hl => ?_)
          refine lv_iinc (v := (x3 + 1)) (lv' := [(3, .int (x3 + 1)), (2, .int (x2 + 1)), (0, .ref (ad o)), (1, .int p0)]) hx hb dX0_answersOf_35 hl (k := 3) rfl (by first | rfl | exact congrArg _ (by decide)) (by decide) rfl (fun ls hl => ?_)
          refine lv_goto (tgt := 4) hx hb dX0_answersOf_38 (by decide) ?_
          exact hv H locs ls hP hS (lv_sub hl [2, 3, 1, 0] rfl))
  obtain ⟨H, hH⟩ : ∃ z, z = s.heap := ⟨_, rfl⟩
  obtain ⟨locs, hL⟩ : ∃ z : List Loc, z = [] := ⟨_, rfl⟩
  rw [← hL] at hS ⊢
  have hS : va_S A0 s.heap H locs := by rw [hH]; exact hS
  rw [← hH] at hP ⊢
  clear hH hL
  refine lv_iconst (v := 0) hx hb dX0_answersOf_0 (by decide) ?_
  refine lv_istore_n (lv' := [(2, .int 0), (0, .ref (ad o)), (1, .int p0)]) hx hb dX0_answersOf_1 rfl hl (by decide) rfl (fun ls hl => ?_)
  refine lv_iconst (v := 0) hx hb dX0_answersOf_2 (by decide) ?_
  refine lv_istore_n (lv' := [(3, .int 0), (2, .int 0), (0, .ref (ad o)), (1, .int p0)]) hx hb dX0_answersOf_3 rfl hl (by decide) rfl (fun ls hl => ?_)
  exact hv H locs ls hP hS (lv_sub hl [2, 3, 1, 0] rfl)

