theorem wC_len {g : CX} {ad : Nat → Nat} {o : Nat} {x : KC} : (wC g ad o x).length = 13 := rfl
theorem wC_addr {g : CX} {ad : Nat → Nat} {o : Nat} {x y : KC} : (wC g ad o x).map Prod.fst = (wC g ad o y).map Prod.fst := rfl
theorem wZ_len {g : CX} {ad : Nat → Nat} {o : Nat} {x : KZ} : (wZ g ad o x).length = 2 := rfl
theorem wZ_addr {g : CX} {ad : Nat → Nat} {o : Nat} {x y : KZ} : (wZ g ad o x).map Prod.fst = (wZ g ad o y).map Prod.fst := rfl
theorem wT_len {g : CX} {ad : Nat → Nat} {x : K3} : (wT g ad x).length = 39 := rfl
theorem wT_addr {g : CX} {ad : Nat → Nat} {x y : K3} : (wT g ad x).map Prod.fst = (wT g ad y).map Prod.fst := rfl
theorem wP_len {g : CX} {ad : Nat → Nat} {x : KP} : (wP g ad x).length = 15 := rfl
theorem wP_addr {g : CX} {ad : Nat → Nat} {x y : KP} : (wP g ad x).map Prod.fst = (wP g ad y).map Prod.fst := rfl
theorem wX_len {g : CX} {ad : Nat → Nat} {x : KX} : (wX g ad x).length = 45 := rfl
theorem wX_addr {g : CX} {ad : Nat → Nat} {x y : KX} : (wX g ad x).map Prod.fst = (wX g ad y).map Prod.fst := rfl
