/-! a program: its rows and its text -/
/-- row r stands at [x, y) of the text -/
def rwTake (j : Nat) (N : xMem) (τ : Nat → Int32) (r x y : Nat) : Prop := ∃ v c p, v < 26 ∧ c < 4 ∧ p < 4 ∧ N.1 (27, 0, j) r = nI 0 ∧ N.1 (28, 0, j) r = nI v ∧ N.1 (29, 0, j) r = nI c ∧ N.1 (30, 0, j) r = nI p ∧ τ x = nI (97 + v) ∧ τ (x + 1) = nI 61 ∧ τ (x + 2) = nI (48 + c) ∧ τ (x + 3) = nI 64 ∧ τ (x + 4) = nI (48 + p) ∧ y = x + 5
def rwGive (j : Nat) (N : xMem) (τ : Nat → Int32) (r x y : Nat) : Prop := ∃ v p, v < 26 ∧ p < 4 ∧ N.1 (27, 0, j) r = nI 1 ∧ N.1 (28, 0, j) r = nI v ∧ N.1 (30, 0, j) r = nI p ∧ τ x = nI 126 ∧ τ (x + 1) = nI (97 + v) ∧ τ (x + 2) = nI 64 ∧ τ (x + 3) = nI (48 + p) ∧ y = x + 4
def rwSet (j : Nat) (N : xMem) (τ : Nat → Int32) (r x y : Nat) : Prop := ∃ v n e, v < 26 ∧ e < 3 ∧ N.1 (27, 0, j) r = nI 2 ∧ N.1 (28, 0, j) r = nI v ∧ N.1 (31, 0, j) r = nI n ∧ τ x = nI (97 + v) ∧ τ (x + 1) = nI 58 ∧ NumD τ (e + 1) (x + 2) n 0 ∧ y = x + 2 + (e + 1)
def rwTick (j : Nat) (N : xMem) (τ : Nat → Int32) (r x y : Nat) : Prop := N.1 (27, 0, j) r = nI 3 ∧ τ x = nI 33 ∧ y = x + 1
def rwMany (j : Nat) (N : xMem) (τ : Nat → Int32) (r x y : Nat) : Prop := ∃ n e, e < 3 ∧ N.1 (27, 0, j) r = nI 4 ∧ N.1 (31, 0, j) r = nI n ∧ NumD τ (e + 1) x n 0 ∧ τ (x + (e + 1)) = nI 40 ∧ y = x + (e + 1) + 1
def rwAsk (j : Nat) (N : xMem) (τ : Nat → Int32) (r x y : Nat) : Prop := ∃ c, c < 4 ∧ N.1 (27, 0, j) r = nI 5 ∧ N.1 (29, 0, j) r = nI c ∧ τ x = nI 63 ∧ τ (x + 1) = nI (48 + c) ∧ τ (x + 2) = nI 40 ∧ y = x + 3
def rwClose (j : Nat) (N : xMem) (τ : Nat → Int32) (r x y : Nat) : Prop := N.1 (27, 0, j) r = nI 6 ∧ τ x = nI 41 ∧ y = x + 1
def RW (j : Nat) (N : xMem) (τ : Nat → Int32) (r x y : Nat) : Prop := rwTake j N τ r x y ∨ rwGive j N τ r x y ∨ rwSet j N τ r x y ∨ rwTick j N τ r x y ∨ rwMany j N τ r x y ∨ rwAsk j N τ r x y ∨ rwClose j N τ r x y
def opB (j : Nat) (N : xMem) (r : Nat) : Bool := decide (N.1 (27, 0, j) r = nI 4 ∨ N.1 (27, 0, j) r = nI 5)
def clB (j : Nat) (N : xMem) (r : Nat) : Bool := decide (N.1 (27, 0, j) r = nI 6)
def stk (op cl : Nat → Bool) : Nat → List Nat
  | 0 => []
  | r + 1 => if op r = true then r :: stk op cl r else if cl r = true then (stk op cl r).tail else stk op cl r
theorem stk_lt {op cl : Nat → Bool} : ∀ {ρ o : Nat}, o ∈ stk op cl ρ → o < ρ := by
  intro ρ
  induction ρ with
  | zero => intro o h; cases h
  | succ ρ ih =>
    intro o h
    unfold stk at h
    split at h
    · rcases List.mem_cons.mp h with h | h
      · omega
      · have := ih h; omega
    · split at h
      · have := ih (List.mem_of_mem_tail h); omega
      · have := ih h; omega
/-- what lies under an open one is what was open before it -/
theorem stk_cut {op cl : Nat → Bool} : ∀ {ρ o : Nat} {l rest : List Nat}, stk op cl ρ = l ++ o :: rest → rest = stk op cl o ∧ op o = true := by
  intro ρ
  induction ρ with
  | zero => intro o l rest h; cases l <;> cases h
  | succ ρ ih =>
    intro o l rest h
    unfold stk at h
    split at h
    next hop =>
      cases l with
      | nil =>
        rw [List.nil_append] at h
        obtain ⟨h1, h2⟩ := List.cons.inj h
        subst h1
        exact ⟨h2.symm, hop⟩
      | cons a l =>
        rw [List.cons_append] at h
        exact ih (List.cons.inj h).2
    next =>
      split at h
      next =>
        cases hs : stk op cl ρ with
        | nil => rw [hs] at h; cases l <;> cases h
        | cons a r2 =>
          rw [hs] at h
          have h : r2 = l ++ o :: rest := h
          exact ih (l := a :: l) (by rw [hs, h]; rfl)
      next => exact ih h
/-- a program -/
def PG (j : Nat) (N : xMem) (τ : Nat → Int32) (L R : Nat) (tp : Nat → Nat) : Prop :=
  R ≤ 100 ∧ L ≤ 100 ∧ 0 < R ∧ tp 0 = 0
  ∧ (∀ r, r < R → ∃ y, y ≤ L ∧ RW j N τ r (tp r) y ∧ (if opB j N r = true then r + 1 < R ∧ tp (r + 1) = y ∧ clB j N (r + 1) = false else if r + 1 = R then y = L else if clB j N (r + 1) = true then tp (r + 1) = y else τ y = nI 59 ∧ tp (r + 1) = y + 1))
  ∧ (∀ z, z < R → clB j N z = true → ∃ o rest, stk (opB j N) (clB j N) z = o :: rest ∧ N.1 (32, 0, j) z = nI o ∧ N.1 (32, 0, j) o = nI z)
  ∧ stk (opB j N) (clB j N) R = [] ∧ ∀ r, r ≤ R → (stk (opB j N) (clB j N) r).length ≤ 5
theorem opB_cl {j r : Nat} {N : xMem} (h : clB j N r = true) : opB j N r = false := by
  unfold clB at h
  unfold opB
  rw [decide_eq_true_eq] at h
  rw [h]; decide
/-- letters that are no brackets are passed over -/
theorem S_over1 {d : Int32} {s : xS} {l : Nat} (hl0 : 0 < l) (hl : l < 1000) : ∀ e x f (X : xMem), XW X → X.1 (44, 0, 0) 44 = nI x → x + e ≤ 100 → (∀ i, x ≤ i → i < x + e → X.1 (76, 0, 0) i ≠ nI 40 ∧ X.1 (76, 0, 0) i ≠ nI 41) → fM_passesOver_2 (f + e) (mM d s X) (some (44, 0, 0)) (nI l) = fM_passesOver_2 f (mM d s (xsi X (44, 0, 0) 44 (nI (x + e)))) (some (44, 0, 0)) (nI l) := by
  intro e
  induction e with
  | zero =>
    intro x f X hW h44 _ _
    have : xsi X (44, 0, 0) 44 (nI (x + 0)) = X := by
      refine Prod.ext ?_ rfl
      funext a y
      rw [xsi_1]
      by_cases h : a = (44, 0, 0) ∧ y = 44
      · rw [if_pos h, h.1, h.2, h44]; rfl
      · rw [if_neg h]
    rw [this, Nat.add_zero]
  | succ e ih =>
    intro x f X hW h44 hx hc
    have hW1 : XW (xsi X (44, 0, 0) 44 (nI (x + 1))) := hW
    have h44' : (xsi X (44, 0, 0) 44 (nI (x + 1))).1 (44, 0, 0) 44 = nI (x + 1) := by rw [xsi_1, if_pos ⟨rfl, rfl⟩]
    have hx0 := hc x (Nat.le_refl _) (by omega)
    have hi := ih (x + 1) f (xsi X (44, 0, 0) 44 (nI (x + 1))) hW1 h44' (by omega) (fun i h1 h2 => by rw [xsi_1, if_neg (fun e => absurd e.1 (by decide))]; exact hc i (by omega) (by omega))
    rw [show f + (e + 1) = (f + e) + 1 from by omega, show fM_passesOver_2 (f + e + 1) (mM d s X) (some (44, 0, 0)) (nI l) = _ from by unfold fM_passesOver_2; rfl]
    rw [if_neg (show ¬ nI l ≤ (0 : Int32) from by rw [kl_0, nI_leI (by omega) (by decide)]; omega), nR_39 hW, Option.bind_some, ngI hW (by decide), Option.bind_some, h44, nA_76 hW (by omega) rfl, Option.bind_some, if_neg (show ¬ X.1 (76, 0, 0) x = (40 : Int32) from hx0.1), Option.bind_some, Option.bind_some, nA_76 hW (by omega) rfl, Option.bind_some, if_neg (show ¬ X.1 (76, 0, 0) x = (41 : Int32) from hx0.2)]
    unfold fM_passesOver_44
    rw [ngI hW (by decide), Option.bind_some, h44, nI_k1, npI hW (by decide), Option.bind_some, nI_k0]
    dsimp only
    rw [hi, xsi_xsi, show x + 1 + e = x + (e + 1) from by omega]
/-- one bracket -/
theorem S_over2 {d : Int32} {s : xS} {l x f : Nat} {X : xMem} (hl0 : 0 < l) (hl : l < 1000) (hW : XW X) (h44 : X.1 (44, 0, 0) 44 = nI x) (hx : x < 100) (hc : X.1 (76, 0, 0) x = nI 40) : fM_passesOver_2 (f + 1) (mM d s X) (some (44, 0, 0)) (nI l) = fM_passesOver_2 f (mM d s (xsi X (44, 0, 0) 44 (nI (x + 1)))) (some (44, 0, 0)) (nI (l + 1)) := by
  rw [show fM_passesOver_2 (f + 1) (mM d s X) (some (44, 0, 0)) (nI l) = _ from by unfold fM_passesOver_2; rfl]
  rw [if_neg (show ¬ nI l ≤ (0 : Int32) from by rw [kl_0, nI_leI (by omega) (by decide)]; omega), nR_39 hW, Option.bind_some, ngI hW (by decide), Option.bind_some, h44, nA_76 hW hx hc, Option.bind_some, if_pos (show nI 40 = (40 : Int32) from rfl)]
  unfold fM_passesOver_44
  rw [ngI hW (by decide), Option.bind_some, h44, nI_k1, npI hW (by decide), Option.bind_some, nI_k1]
theorem S_over3 {d : Int32} {s : xS} {l x f : Nat} {X : xMem} (hl0 : 0 < l) (hl : l < 1000) (hW : XW X) (h44 : X.1 (44, 0, 0) 44 = nI x) (hx : x < 100) (hc : X.1 (76, 0, 0) x = nI 41) : fM_passesOver_2 (f + 1) (mM d s X) (some (44, 0, 0)) (nI l) = fM_passesOver_2 f (mM d s (xsi X (44, 0, 0) 44 (nI (x + 1)))) (some (44, 0, 0)) (nI (l - 1)) := by
  rw [show fM_passesOver_2 (f + 1) (mM d s X) (some (44, 0, 0)) (nI l) = _ from by unfold fM_passesOver_2; rfl]
  rw [if_neg (show ¬ nI l ≤ (0 : Int32) from by rw [kl_0, nI_leI (by omega) (by decide)]; omega), nR_39 hW, Option.bind_some, ngI hW (by decide), Option.bind_some, h44, nA_76 hW hx hc, Option.bind_some, if_neg (show ¬ nI 41 = (40 : Int32) by decide), Option.bind_some, Option.bind_some, nA_76 hW hx hc, Option.bind_some, if_pos (show nI 41 = (41 : Int32) from rfl)]
  unfold fM_passesOver_44
  have e1 : nI l + (-1 : Int32) = nI (l - 1) := by rw [show l = (l - 1) + 1 from by omega, pk_m1, Nat.add_sub_cancel]
  rw [ngI hW (by decide), Option.bind_some, h44, nI_k1, npI hW (by decide), Option.bind_some, e1]
