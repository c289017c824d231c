/-! settling: questions by a number, and one by one -/
def ks (x : KC) (w : Int32) (step q : Nat) : Int64 := keepingL x w (nI q) (sAsked (cS x) + 1 + nI step)
/-- what is left behind the questions that the number c of d tells, from a step on -/
def cs (x : KC) (w : Int32) (nq : Nat) : Nat → Nat → Int64 → Nat → Int64
  | 0, _, l, _ => l
  | d + 1, step, l, c => cs x w nq d (step + 1) (l &&& ks x w step (c / nq ^ d)) (c % nq ^ d)
def ps (x : KC) (w : Int32) (nq d step : Nat) (l : Int64) (c : Nat) : Nat → Int64
  | 0 => l
  | k + 1 => ps x w nq d step l c k &&& ks x w (step + k) (c / nq ^ (d - 1 - k) % nq)
theorem ps_step (x : KC) (w : Int32) {nq d : Nat} (hq : 0 < nq) (step : Nat) (l : Int64) {c : Nat} (hc : c < nq ^ (d + 1)) : ∀ k, k ≤ d → ps x w nq (d + 1) step l c (k + 1) = ps x w nq d (step + 1) (l &&& ks x w step (c / nq ^ d)) (c % nq ^ d) k
  | 0, _ => by
    rw [ps, ps, ps, show d + 1 - 1 - 0 = d by omega, Nat.add_zero]
    have : c / nq ^ d < nq := by
      rw [Nat.pow_succ] at hc
      exact Nat.div_lt_of_lt_mul hc
    rw [Nat.mod_eq_of_lt this]
  | k + 1, hk => by
    rw [ps, ps_step x w hq step l hc k (by omega), ps]
    have e1 : d + 1 - 1 - (k + 1) = d - 1 - k := by omega
    have e2 : c % nq ^ d / nq ^ (d - 1 - k) % nq = c / nq ^ (d - 1 - k) % nq := by
      have hd : nq ^ d = nq ^ (d - 1 - k) * nq ^ (k + 1) := by rw [← Nat.pow_add]; congr 1; omega
      rw [hd, Nat.mod_mul_right_div_self]
      exact Nat.mod_mod_of_dvd _ (by rw [Nat.pow_succ]; exact Nat.dvd_mul_left _ _)
    rw [e1, e2, show step + (k + 1) = step + 1 + k by omega]
theorem cs_ps (x : KC) (w : Int32) {nq : Nat} (hq : 0 < nq) : ∀ (d step : Nat) (l : Int64) (c : Nat), c < nq ^ d → cs x w nq d step l c = ps x w nq d step l c d
  | 0, _, _, _, _ => rfl
  | d + 1, step, l, c, hc => by
    rw [cs, ps_step x w hq step l hc d (Nat.le_refl _)]
    exact cs_ps x w hq d (step + 1) _ _ (Nat.mod_lt _ (Nat.pow_pos hq))
/-- in how many ways -/
theorem ways_eq {x : KC} {w : Int32} {nq : Nat} (hq8 : nq ≤ 8) (F : Int64) : ∀ (d step : Nat) (l : Int64), step + d ≤ 4 → waysN (fun k => ks x w (k / 8) (k % 8)) nq F d step l = nI (natS (fun c => bn (!decide (isSureI (cs x w nq d step l c) F = 0))) (nq ^ d))
  | 0, step, l, _ => by
    rw [waysN, Nat.pow_zero]
    show isSureI l F = nI (0 + bn (!decide (isSureI l F = 0)))
    rw [Nat.zero_add]
    unfold isSureI
    generalize (!decide (l = 0) && (decide (l &&& F = 0) || decide (l &&& F = l))) = b
    cases b <;> decide
  | d + 1, step, l, hd => by
    rw [waysN]
    have e : ∀ q, q < nq → waysN (fun k => ks x w (k / 8) (k % 8)) nq F d (step + 1) (l &&& ks x w ((step * 8 + q) / 8) ((step * 8 + q) % 8)) = nI (natS (fun c => bn (!decide (isSureI (cs x w nq d (step + 1) (l &&& ks x w step q) c) F = 0))) (nq ^ d)) := by
      intro q hq
      rw [show (step * 8 + q) / 8 = step by omega, show (step * 8 + q) % 8 = q by omega]
      exact ways_eq hq8 F d (step + 1) _ (by omega)
    rw [sumN_congr e, sumN_natS, Nat.pow_succ, Nat.mul_comm (nq ^ d) nq, natS_split]
    congr 1
    refine natS_congr fun q hq => natS_congr fun r hr => ?_
    rw [cs]
    have h0 : 0 < nq ^ d := by omega
    rw [show (q * nq ^ d + r) / nq ^ d = q by rw [Nat.mul_comm, Nat.mul_add_div h0, Nat.div_eq_of_lt hr, Nat.add_zero], show (q * nq ^ d + r) % nq ^ d = r by rw [Nat.mul_comm, Nat.mul_add_mod, Nat.mod_eq_of_lt hr]]
theorem kept_ks {x : KC} {w : Int32} {nq : Nat} (enq : (sNq (cS x)).toNatClampNeg = nq) (old : FL) : ∀ k, k < 32 → k % 8 < nq → keptX x w old k = (fun k => ks x w (k / 8) (k % 8)) k := by
  intro k h1 h2
  unfold keptX
  rw [if_pos ⟨h1, by rw [enq]; exact h2⟩]; rfl
theorem code_eq {x : SS} {nq n k c : Nat} (en : sNq x = nI nq) (hq : nq ≤ 8) (h0 : 0 < nq) (hn : n ≤ 4) (hc : c < nq ^ n) : codeQ x (nI c) n k = nI (c / nq ^ (n - 1 - k) % nq) := by
  have hb := pow_le hq hn
  have hb2 := pow_le hq (show n - 1 - k ≤ 4 by omega)
  unfold codeQ
  simp only []
  rw [en, pow_nI, pk_div (by omega) (Nat.pow_pos h0) (by omega), pk_rem (Nat.lt_of_le_of_lt (Nat.div_le_self _ _) (by omega)) h0 (by omega)]
theorem code_CH {x : KC} (h : okC x) {w : Int32} (hw : inW (cS x) w) {nq n c : Nat} (en : sNq (cS x) = nI nq) (hq : nq ≤ 8) (h0 : 0 < nq) (hn : n ≤ 4) (hc : c < nq ^ n) {L : Int64} {fit : FI} (hL : CH L fit) (old : FI) : ∀ k, k ≤ n → CH (ps x w nq n 0 L c k) (leftCode (cS x) w (nI c) n fit k old)
  | 0, _ => tab_CH hL
  | k + 1, hk => by
    rw [ps, leftCode, code_eq en hq h0 hn hc, Nat.zero_add]
    exact left_CH h (code_CH h hw en hq h0 hn hc hL old k (by omega)) hw (inQ_nI en hq (Nat.mod_lt _ h0)) _
theorem settled_eq {x : KC} (h : okC x) {w : Int32} (hw : inW (cS x) w) {nq n c i : Nat} (en : sNq (cS x) = nI nq) (hq : nq ≤ 8) (h0 : 0 < nq) (hn : n ≤ 4) (hc : c < nq ^ n) {L : Int64} {fit : FI} (hL : CH L fit) (hi : i < 6) : settledB (cS x) fit w (nI i) (nI c) n = !decide (isSureI (cs x w nq n 0 L c) (factCasesL (nI i)) = 0) := by
  unfold settledB
  rw [sure_has (code_CH h hw en hq h0 hn hc hL fit n (Nat.le_refl _)) hi, cs_ps x w h0 n 0 L c hc]
theorem drawn_eq {x : KC} (h : okC x) {w : Int32} (hw : inW (cS x) w) {n : Nat} (hn : n ≤ 4) {f p : Int32} (hf : ¬ isFactI f = 0) (hp : p = 0 ∨ p = 1) (hq0 : ¬ sNq (cS x) = 0) {fit : FI} (hc : CH (fittingL x) fit) : drawnX x w n (factCasesL f) p = drawnV (cS x) fit w n f p := by
  obtain ⟨i, hi, rfl⟩ := fact_nat hf
  obtain ⟨nq, hq, en⟩ := okS_nq h.1
  have ecl : (sNq (cS x)).toNatClampNeg = nq := by rw [en, nI_clamp (by omega)]
  have h0 : 0 < nq := by
    rcases Nat.eq_zero_or_pos nq with z | z
    · exact absurd (by rw [en, z]; rfl) hq0
    · exact z
  have hb := pow_le hq hn
  unfold drawnX drawnV
  rw [ecl, ways_congr hq (factCasesL (nI i)) (kept_ks ecl (fun _ => 0)) n 0 (fittingL x) (by omega), ways_eq hq _ n 0 _ (by omega), en, pow_nI, nI_clamp (show nq ^ n < 2 ^ 31 by omega)]
  have e : sumL (fun c => if settledB (cS x) fit w (nI i) (nI c) n then 1 else 0) (nq ^ n) = lN (natS (fun c => bn (!decide (isSureI (cs x w nq n 0 (fittingL x) c) (factCasesL (nI i)) = 0))) (nq ^ n)) := by
    rw [← sumL_natS]
    have : ∀ m, m ≤ nq ^ n → sumL (fun c => if settledB (cS x) fit w (nI i) (nI c) n then 1 else 0) m = sumL (fun c => lN (bn (!decide (isSureI (cs x w nq n 0 (fittingL x) c) (factCasesL (nI i)) = 0)))) m := by
      intro m
      induction m with
      | zero => intro _; rfl
      | succ m ih =>
        intro hm
        rw [sumL, sumL, ih (by omega), settled_eq h hw en hq h0 hn (by omega) hc hi]
        congr 1
        generalize (!decide (isSureI (cs x w nq n 0 (fittingL x) m) (factCasesL (nI i)) = 0)) = b
        cases b <;> decide
    exact this _ (Nat.le_refl _)
  rw [e]
  have b1 := natS_le (f := fun c => bn (!decide (isSureI (cs x w nq n 0 (fittingL x) c) (factCasesL (nI i)) = 0))) (fun k => bn_le _) (nq ^ n)
  exact frac_eq (by omega) (by omega) hp
/-- the first question of the first number is the first question with which some number goes -/
theorem first_code {g : Nat → Nat → Bool} {f : Nat → Bool} {p : Nat → Bool} {nq M : Nat} (hM : 0 < M) (hf : ∀ q r, q < nq → r < M → f (q * M + r) = g q r) (hp : ∀ q, q < nq → (p q = true ↔ ∃ r, r < M ∧ g q r = true)) : firstN p nq 0 = (firstN f (nq * M) 0).map (fun c => c / M) := by
  cases e : firstN f (nq * M) 0 with
  | none =>
    have h := first_no _ _ e
    show _ = none
    refine first_none nq 0 fun q _ hq => ?_
    cases z : p q with
    | false => rfl
    | true =>
      obtain ⟨r, hr, hg⟩ := (hp q (by omega)).mp z
      have hlt : q * M + r < nq * M := by
        have : (q + 1) * M ≤ nq * M := Nat.mul_le_mul_right _ (by omega)
        rw [Nat.succ_mul] at this; omega
      have := h (q * M + r) (by omega) (by omega)
      rw [hf q r (by omega) hr, hg] at this
      cases this
  | some c =>
    obtain ⟨⟨_, hc⟩, h1, h2⟩ := first_get _ _ _ e
    rw [Nat.zero_add] at hc
    have hq : c / M < nq := Nat.div_lt_of_lt_mul (by rw [Nat.mul_comm]; exact hc)
    have hr : c % M < M := Nat.mod_lt _ hM
    have hcq : c / M * M + c % M = c := by rw [Nat.mul_comm]; exact Nat.div_add_mod c M
    show _ = some (c / M)
    refine first_some nq 0 (c / M) (Nat.zero_le _) (by rw [Nat.zero_add]; exact hq) ((hp _ hq).mpr ⟨c % M, hr, ?_⟩) (fun k _ hk => ?_)
    · rw [← hf _ _ hq hr, hcq]; exact h1
    · cases z : p k with
      | false => rfl
      | true =>
        obtain ⟨r, hr2, hg⟩ := (hp k (by omega)).mp z
        have hlt : k * M + r < c := by
          have : (k + 1) * M ≤ c / M * M := Nat.mul_le_mul_right _ (by omega)
          rw [Nat.succ_mul] at this; omega
        have := h2 (k * M + r) (by omega) hlt
        rw [hf k r (by omega) hr2, hg] at this
        cases this
theorem settle_eq {x : KC} (h : okC x) {w : Int32} (hw : inW (cS x) w) {f p : Int32} (hf : ¬ isFactI f = 0) {fit : FI} (hc : CH (fittingL x) fit) : settleX x w (factCasesL f) p = settleV (cS x) fit w f p := by
  obtain ⟨i, hi, rfl⟩ := fact_nat hf
  obtain ⟨nq, hq, en⟩ := okS_nq h.1
  have ecl : (sNq (cS x)).toNatClampNeg = nq := by rw [en, nI_clamp (by omega)]
  unfold settleX settleV
  rw [sure_has hc hi, ecl]
  by_cases z : isSureI (fittingL x) (factCasesL (nI i)) = 0
  · rw [if_pos z, decide_eq_true z]
    rw [if_neg (show ¬ (!true) = true by decide)]
    rw [settle_congr hq (fittingL x) (factCasesL (nI i)) p (kept_ks ecl (fun _ => 0)) 3 1 (by decide) (by decide)]
    have key : ∀ d len, 1 ≤ len → len + d ≤ 4 → settleFromX (fun k => ks x w (k / 8) (k % 8)) nq (fittingL x) (factCasesL (nI i)) p d len = settleFrom (cS x) fit w (nI i) p d len := by
      intro d
      induction d with
      | zero => intro _ _ _; rfl
      | succ d ih =>
        intro len h1 h2
        obtain ⟨m, rfl⟩ : ∃ m, len = m + 1 := ⟨len - 1, by omega⟩
        rw [settleFromX, settleFrom, ih (m + 1 + 1) (by omega) (by omega), show m + 1 - 1 = m by omega, en, pow_nI, pow_nI]
        have hb := pow_le hq (show m + 1 ≤ 4 by omega)
        have hb2 := pow_le hq (show m ≤ 4 by omega)
        rw [nI_clamp (show nq ^ (m + 1) < 2 ^ 31 by omega)]
        rcases Nat.eq_zero_or_pos nq with h0 | h0
        · subst h0
          rw [Nat.pow_succ, Nat.mul_zero]; rfl
        · have hM : 0 < nq ^ m := Nat.pow_pos h0
          have hfc := first_code (nq := nq) (M := nq ^ m) hM
            (f := fun c => settledB (cS x) fit w (nI i) (nI c) (m + 1))
            (g := fun q r => !decide (isSureI (cs x w nq m 1 (fittingL x &&& ks x w 0 q) r) (factCasesL (nI i)) = 0))
            (p := fun q => decide (0 < waysN (fun k => ks x w (k / 8) (k % 8)) nq (factCasesL (nI i)) m 1 (fittingL x &&& ks x w (q / 8) (q % 8))))
            (fun q r hq2 hr => by
              have hlt : q * nq ^ m + r < nq ^ (m + 1) := by
                have : (q + 1) * nq ^ m ≤ nq * nq ^ m := Nat.mul_le_mul_right _ (by omega)
                rw [Nat.succ_mul] at this
                rw [Nat.pow_succ, Nat.mul_comm (nq ^ m) nq]; omega
              show settledB (cS x) fit w (nI i) (nI (q * nq ^ m + r)) (m + 1) = _
              rw [settled_eq h hw en hq h0 (by omega) hlt hc hi, cs, show (q * nq ^ m + r) / nq ^ m = q by rw [Nat.mul_comm, Nat.mul_add_div hM, Nat.div_eq_of_lt hr, Nat.add_zero], show (q * nq ^ m + r) % nq ^ m = r by rw [Nat.mul_comm, Nat.mul_add_mod, Nat.mod_eq_of_lt hr]])
            (fun q hq2 => by
              show decide _ = true ↔ _
              rw [show q / 8 = 0 by omega, show q % 8 = q by omega, ways_eq hq _ m 1 _ (by omega), decide_eq_true_eq]
              have b1 := natS_le (f := fun c => bn (!decide (isSureI (cs x w nq m 1 (fittingL x &&& ks x w 0 q) c) (factCasesL (nI i)) = 0))) (fun k => bn_le _) (nq ^ m)
              have e0 : (0 < nI (natS (fun c => bn (!decide (isSureI (cs x w nq m 1 (fittingL x &&& ks x w 0 q) c) (factCasesL (nI i)) = 0))) (nq ^ m))) ↔ 0 < natS (fun c => bn (!decide (isSureI (cs x w nq m 1 (fittingL x &&& ks x w 0 q) c) (factCasesL (nI i)) = 0))) (nq ^ m) := nI_ltI (a := 0) (by decide) (by omega)
              rw [e0, natS_pos]
              exact ⟨fun ⟨k, a, b⟩ => ⟨k, a, (bn_pos _).mp b⟩, fun ⟨k, a, b⟩ => ⟨k, a, (bn_pos _).mpr b⟩⟩)
          rw [hfc, Nat.pow_succ, Nat.mul_comm (nq ^ m) nq]
          cases e : firstN (fun c => settledB (cS x) fit w (nI i) (nI c) (m + 1)) (nq * nq ^ m) 0 with
          | none => rfl
          | some c =>
            obtain ⟨⟨_, hcl⟩, _⟩ := first_get _ _ _ e
            rw [Nat.zero_add] at hcl
            have hcl : c < nq ^ (m + 1) := by rw [Nat.pow_succ, Nat.mul_comm]; exact hcl
            show (if p = 0 then nI (m + 1) else nI (c / nq ^ m)) = if p = 0 then nI (m + 1) else nI c / nI (nq ^ m)
            rw [pk_div (by omega) hM (by omega)]
    exact key 3 1 (by decide) (by decide)
  · rw [if_neg z, decide_eq_false z]; rfl
/-! pairs that are alike -/
def rowL (a b d : Nat) : List (Nat × Nat) := (List.range' b d).map (fun c => (a, c))
def stepP (x : SS) (p : Nat × Nat) (r : Int32 × Int32) : Int32 × Int32 := if sameB x (nI p.1) (nI p.2) then (r.1 + 1, 10 * nI p.1 + nI p.2) else r
def stepC (x : SS) (r : Int32 × Int32) (p : Nat × Nat) : Int32 × Int32 := if sameB x (nI p.1) (nI p.2) then (r.1 + 1, if r.1 = 0 then 10 * nI p.1 + nI p.2 else r.2) else r
theorem same_truth {x : KC} (h : okC x) {n a b : Nat} (en : sNq (cS x) = nI n) (hn : n ≤ 8) (ha : a < n) (hb : b < n) : (truthOfL x (nI a) = truthOfL x (nI b)) ↔ sameB (cS x) (nI a) (nI b) = true := by
  unfold sameB
  rw [allN_true]
  constructor
  · intro e k hk
    rw [← truth_b h (inQ_nI en hn ha) hk, ← truth_b h (inQ_nI en hn hb) hk, e]
    simp
  · intro e
    refine bt_ext fun k hk => ?_
    rw [truth_b h (inQ_nI en hn ha) hk, truth_b h (inQ_nI en hn hb) hk]
    exact eq_of_beq (e k hk)
theorem rowX_l {x : KC} (h : okC x) {n a : Nat} (en : sNq (cS x) = nI n) (hn : n ≤ 8) (ha : a < n) : ∀ (d b : Nat) (r : Int32 × Int32), b + d ≤ n → sameRowX x a d b r = (rowL a b d).foldl (stepC (cS x)) r
  | 0, _, _, _ => rfl
  | d + 1, b, r, hb => by
    rw [sameRowX, rowX_l h en hn ha d (b + 1) _ (by omega)]
    have e : sameStepX x a b r = stepC (cS x) r (a, b) := by
      unfold sameStepX stepC
      have := same_truth h en hn ha (show b < n by omega)
      by_cases c : sameB (cS x) (nI a) (nI b) = true
      · rw [if_pos (this.mpr c), if_pos c]
      · rw [if_neg (fun q => c (this.mp q)), if_neg c]
    rw [e]; rfl
def allL (n : Nat) : Nat → Nat → List (Nat × Nat)
  | 0, _ => []
  | d + 1, a => rowL a (a + 1) (n - (a + 1)) ++ allL n d (a + 1)
theorem fromX_l {x : KC} (h : okC x) {n : Nat} (en : sNq (cS x) = nI n) (hn : n ≤ 8) : ∀ (d a : Nat) (r : Int32 × Int32), a + d ≤ n → sameFromX x n d a r = (allL n d a).foldl (stepC (cS x)) r
  | 0, _, _, _ => rfl
  | d + 1, a, r, ha => by
    rw [sameFromX, fromX_l h en hn d (a + 1) _ (by omega), rowX_l h en hn (by omega) _ _ _ (by omega), allL, List.foldl_append]
theorem row_l (x : SS) (a : Nat) : ∀ (d b : Nat) (r : Int32 × Int32), d ≤ b + 1 → sameRow x a d b r = (rowL a (b + 1 - d) d).foldr (stepP x) r
  | 0, _, _, _ => rfl
  | d + 1, b, r, hd => by
    have e : sameRow x a (d + 1) b r = sameRow x a d (b - 1) (stepP x (a, b) r) := rfl
    rw [e]
    rcases Nat.eq_zero_or_pos d with z | z
    · subst z
      show stepP x (a, b) r = (rowL a (b + 1 - 1) 1).foldr (stepP x) r
      rw [show b + 1 - 1 = b by omega]; rfl
    · rw [row_l x a d (b - 1) _ (by omega), show b - 1 + 1 - d = b - d by omega, show b + 1 - (d + 1) = b - d by omega]
      have hr : rowL a (b - d) (d + 1) = rowL a (b - d) d ++ [(a, b)] := by
        unfold rowL
        rw [List.range'_1_concat, List.map_append, show b - d + d = b by omega]; rfl
      rw [hr, List.foldr_append]; rfl
def allU (n : Nat) : Nat → List (Nat × Nat)
  | 0 => []
  | a + 1 => allU n a ++ rowL a (a + 1) (n - (a + 1))
theorem from_l (x : SS) (n : Nat) : ∀ (a : Nat) (r : Int32 × Int32), a ≤ n → sameFrom x n a r = (allU n a).foldr (stepP x) r
  | 0, _, _ => rfl
  | a + 1, r, ha => by
    rw [sameFrom, from_l x n a _ (by omega), allU, List.foldr_append, row_l x a _ _ _ (by omega)]
    congr 2
    · congr 1
      · omega
      · omega
theorem all_u (n : Nat) : ∀ d a, a + d = n → allU n a ++ allL n d a = allU n n
  | 0, a, h => by rw [allL, List.append_nil, show a = n by omega]
  | d + 1, a, h => by
    rw [allL, ← List.append_assoc]
    exact all_u n d (a + 1) (by omega)
/-- both ways of counting -/
theorem fold_both (x : SS) : ∀ (l : List (Nat × Nat)), ∃ m : Nat, m ≤ l.length ∧ (l.foldr (stepP x) (0, -9)).1 = nI m ∧ (m = 0 → (l.foldr (stepP x) (0, -9)).2 = -9) ∧ ∀ (c : Nat) (e : Int32), c + l.length < 2 ^ 31 → l.foldl (stepC x) (nI c, e) = (nI (c + m), if c = 0 then (if m = 0 then e else (l.foldr (stepP x) (0, -9)).2) else e)
  | [] => ⟨0, Nat.le_refl _, rfl, fun _ => rfl, fun c e _ => by
      show (nI c, e) = _
      by_cases z : c = 0
      · rw [if_pos z, if_pos rfl]; rfl
      · rw [if_neg z]; rfl⟩
  | p :: l => by
    obtain ⟨m, hm, h1, h2, h3⟩ := fold_both x l
    by_cases s : sameB x (nI p.1) (nI p.2) = true
    · have e : (p :: l).foldr (stepP x) (0, -9) = (nI (m + 1), 10 * nI p.1 + nI p.2) := by
        have es : ∀ r, stepP x p r = (r.1 + 1, 10 * nI p.1 + nI p.2) := fun r => if_pos s
        show stepP x p (l.foldr (stepP x) (0, -9)) = _
        rw [es, h1, nI_1]
      refine ⟨m + 1, by show m + 1 ≤ l.length + 1; omega, by rw [e], fun z => absurd z (by omega), fun c v hc => ?_⟩
      have hc : c + (l.length + 1) < 2 ^ 31 := hc
      have es : stepC x (nI c, v) p = (nI (c + 1), if c = 0 then 10 * nI p.1 + nI p.2 else v) := by
        unfold stepC
        rw [if_pos s, nI_1]
        congr 1
        have : (nI c = 0) ↔ c = 0 := by rw [show (0 : Int32) = nI 0 from rfl]; exact nI_eq (by omega) (by decide)
        by_cases z : c = 0
        · rw [if_pos (this.mpr z), if_pos z]
        · rw [if_neg (fun q => z (this.mp q)), if_neg z]
      show l.foldl (stepC x) (stepC x (nI c, v) p) = _
      rw [es, h3 (c + 1) _ (by omega), if_neg (by omega), e, if_neg (show ¬ m + 1 = 0 by omega), show c + 1 + m = c + (m + 1) by omega]
    · have e : (p :: l).foldr (stepP x) (0, -9) = l.foldr (stepP x) (0, -9) := by
        exact if_neg s
      refine ⟨m, by show m ≤ l.length + 1; omega, by rw [e]; exact h1, by rw [e]; exact h2, fun c v hc => ?_⟩
      have hc : c + (l.length + 1) < 2 ^ 31 := hc
      have es : stepC x (nI c, v) p = (nI c, v) := by
        unfold stepC
        rw [if_neg s]
      show l.foldl (stepC x) (stepC x (nI c, v) p) = _
      rw [es, e]
      exact h3 c v (by omega)
theorem row_len (a b d : Nat) : (rowL a b d).length = d := by unfold rowL; simp
theorem allU_len (n : Nat) : ∀ a, a ≤ n → (allU n a).length ≤ a * n
  | 0, _ => Nat.zero_le _
  | a + 1, h => by
    have := allU_len n a (by omega)
    rw [allU, List.length_append, row_len, Nat.succ_mul]; omega
theorem same_eq {x : KC} (h : okC x) (p : Int32) : sameX x p = sameV (cS x) p := by
  obtain ⟨n, hn, en⟩ := okS_nq h.1
  unfold sameX sameV
  simp only []
  rw [en, nI_clamp (by omega), fromX_l h en hn n 0 _ (by omega), from_l (cS x) n n _ (Nat.le_refl _)]
  have ea := all_u n n 0 (by omega)
  have ea : allL n n 0 = allU n n := ea
  rw [ea]
  have hlen := allU_len n n (Nat.le_refl _)
  have hl2 : n * n ≤ 64 := Nat.le_trans (Nat.mul_le_mul hn hn) (by decide)
  obtain ⟨m, hm, h1, h2, h3⟩ := fold_both (cS x) (allU n n)
  have := h3 0 (-9) (by omega)
  rw [if_pos rfl] at this
  have e0 : ((0 : Int32), (-9 : Int32)) = (nI 0, -9) := rfl
  rw [e0, this, ← e0, h1, Nat.zero_add]
  by_cases z : m = 0
  · rw [if_pos z, h2 z]
  · rw [if_neg z]
