/-! the class's bins -/
theorem bR_14 {M : xMem} (hW : XW M) : xgR M (some (0, 0, 0)) 7 14 = some (some (40, 0, 0)) := (xgR_w hW sh_0 (by decide) (by decide) rfl).trans rfl
theorem bO_40 {M : xMem} (hW : XW M) : xob M (some (40, 0, 0)) 1 = some (40, 0, 0) := xob_w hW sh_40
theorem bR_0 {M : xMem} (hW : XW M) : xgR M (some (40, 0, 0)) 1 0 = some (some (41, 0, 0)) := (xgR_w hW sh_40 (by decide) (by decide) rfl).trans rfl
theorem bR_1 {M : xMem} (hW : XW M) : xgR M (some (40, 0, 0)) 1 1 = some (some (43, 0, 0)) := (xgR_w hW sh_40 (by decide) (by decide) rfl).trans rfl
theorem bA_41 {M : xMem} {j : Nat} (hW : XW M) (hj : j < 4) : xaR M 25 (some (41, 0, 0)) (nI j) = some (some (42, 0, j)) := by
  rw [xaR_w hW sh_41 (by decide) hj (by decide) rfl]
  exact congrArg some (show (if j < 4 then some (42, 0, j) else none) = some (42, 0, j) from if_pos hj)
/-- sizes (41: none) and places (32768: none) -/
def RBc (bs bp : Nat → Nat) (M : xMem) : Prop := (∀ k, k < 4 → M.1 (43, 0, 0) k = en 41 m1 (bs k)) ∧ ∀ i j, i < 4 → j < 40 → M.1 (42, 0, i) j = en 32768 m1 (bp (40 * i + j))
def RBm (bs bp : Nat → Nat) (X : xMem) : Prop := (∀ k, k < 4 → X.1 (80, 0, 0) k = en 41 (-9) (bs k)) ∧ ∀ x, x < 160 → X.1 (79, 0, 0) x = en 32768 (-9) (bp x)
def bZ (bs : Nat → Nat) (k : Nat) : Nat := if bs k < 41 then bs k else 0
theorem bZ_40 {bs : Nat → Nat} {k : Nat} : bZ bs k ≤ 40 := by unfold bZ; split <;> omega
theorem D_isNumber {M : xMem} {u : xId} {a0 : Int32} : fB_isNumber M u a0 = some (bI (decide (cN 4 a0 < 4)), M) := by
  unfold fB_isNumber
  rcases ge_cases 4 a0 (by decide) with ⟨h, h2⟩ | ⟨k, hk, rfl, e⟩
  · rw [decide_eq_false h]
    rcases h2 with h2 | ⟨h2, h3⟩
    · rw [nI_0] at h2; rw [if_pos h2]; rfl
    · rw [nI_0] at h2; rw [if_neg h2, kl_4, if_pos h3]; rfl
  · have h6 : ¬ (4 : Int32) ≤ nI k := by rw [kl_4, nI_leI (by decide) (by omega)]; omega
    rw [e, decide_eq_true hk, if_neg (nI_pos (show k < 2 ^ 31 by omega)), if_neg h6]; rfl
theorem D_isMissing {M : xMem} {bs bp : Nat → Nat} {a0 : Int32} (hW : XW M) (hR : RBc bs bp M) : fB_isMissing M (40, 0, 0) a0 = some (bI (!decide (cN 4 a0 < 4 ∧ bs (cN 4 a0) < 41)), M) := by
  unfold fB_isMissing
  rw [bO_40 hW, Option.bind_some, D_isNumber, Option.bind_some]
  dsimp only
  by_cases h : cN 4 a0 < 4
  · rw [decide_eq_true h, if_neg (show ¬ bI true = 0 by decide)]
    rcases ge_cases 4 a0 (by decide) with ⟨h', -⟩ | ⟨k, hk, rfl, e⟩
    · exact absurd h h'
    · rw [bR_1 hW, Option.bind_some, xaI_w hW sh_43 hk (by decide), Option.bind_some, hR.1 k hk, e, km1]
      simp only [en_m1 (show 41 < 2 ^ 31 by decide)]
      by_cases h1 : bs k < 41
      · rw [if_neg (fun e => e h1), decide_eq_true (show k < 4 ∧ bs k < 41 from ⟨hk, h1⟩)]; rfl
      · rw [if_pos h1, decide_eq_false (show ¬ (k < 4 ∧ bs k < 41) from fun e => h1 e.2)]; rfl
  · rw [decide_eq_false h, if_pos (show bI false = 0 by decide), decide_eq_false (show ¬ (cN 4 a0 < 4 ∧ bs (cN 4 a0) < 41) from fun e => h e.1)]; rfl
theorem D_hasPlace {M : xMem} {bs bp : Nat → Nat} {a0 a1 : Int32} (hW : XW M) (hR : RBc bs bp M) : fB_hasPlace M (40, 0, 0) a0 a1 = some (bI (decide (cN 4 a0 < 4 ∧ cN (bZ bs (cN 4 a0)) a1 < bZ bs (cN 4 a0))), M) := by
  unfold fB_hasPlace
  rw [bO_40 hW, Option.bind_some, D_isNumber, Option.bind_some]
  dsimp only
  by_cases h : cN 4 a0 < 4
  · rw [decide_eq_true h, if_neg (show ¬ bI true = 0 by decide)]
    rcases ge_cases 4 a0 (by decide) with ⟨h', -⟩ | ⟨k, hk, rfl, e⟩
    · exact absurd h h'
    · rw [e]
      have h40 := bZ_40 (bs := bs) (k := k)
      have hz : ∀ p : Prop, ∀ (_ : Decidable p), ¬ p → ∀ q : Prop, ∀ (_ : Decidable q), (q → p) → bI (decide q) = 0 := fun p _ hp q _ hq => by rw [decide_eq_false (fun e => hp (hq e))]; rfl
      rcases ge_cases (bZ bs k) a1 (by omega) with ⟨h1, h2⟩ | ⟨j, hj, rfl, e2⟩
      · rw [decide_eq_false (show ¬ (k < 4 ∧ cN (bZ bs k) a1 < bZ bs k) from fun e => h1 e.2)]
        rcases h2 with h2 | ⟨h2, h3⟩
        · rw [nI_0] at h2; rw [if_pos h2]; rfl
        · rw [nI_0] at h2
          rw [if_neg h2, bR_1 hW, Option.bind_some, xaI_w hW sh_43 hk (by decide), Option.bind_some, hR.1 k hk]
          have h4 : en 41 m1 (bs k) ≤ a1 := by
            unfold bZ at h3
            by_cases h5 : bs k < 41
            · rw [if_pos h5] at h3; rw [en_lt h5]; exact h3
            · rw [if_neg h5] at h3; rw [en_ge h5]
              rw [Int32.le_iff_toInt_le] at h3 ⊢
              have e0 := nI_toInt (show (0 : Nat) < 2 ^ 31 by decide)
              have e1 : m1.toInt = -1 := by decide
              omega
          rw [if_pos h4]; rfl
      · rw [e2, decide_eq_true (show k < 4 ∧ j < bZ bs k from ⟨hk, hj⟩)]
        have h5 : bs k < 41 := by
          by_cases h5 : bs k < 41
          · exact h5
          · unfold bZ at hj; rw [if_neg h5] at hj; omega
        have hj' : j < bs k := by unfold bZ at hj; rw [if_pos h5] at hj; exact hj
        have h6 : ¬ en 41 m1 (bs k) ≤ nI j := by rw [en_lt h5, nI_leI (by omega) (by omega)]; omega
        rw [if_neg (show ¬ nI j < (0 : Int32) from nI_pos (show j < 2 ^ 31 by omega)), bR_1 hW, Option.bind_some, xaI_w hW sh_43 hk (by decide), Option.bind_some, hR.1 k hk, if_neg h6]; rfl
  · rw [decide_eq_false h, if_pos (show bI false = 0 by decide), decide_eq_false (show ¬ (cN 4 a0 < 4 ∧ cN (bZ bs (cN 4 a0)) a1 < bZ bs (cN 4 a0)) from fun e => h e.1)]; rfl
theorem D_get {M : xMem} {bs bp : Nat → Nat} {a0 a1 : Int32} (hW : XW M) (hR : RBc bs bp M) : fB_get M (40, 0, 0) a0 a1 = some (if cN 4 a0 < 4 ∧ cN (bZ bs (cN 4 a0)) a1 < bZ bs (cN 4 a0) then en 32768 m1 (bp (40 * cN 4 a0 + cN (bZ bs (cN 4 a0)) a1)) else m1, M) := by
  unfold fB_get
  rw [bO_40 hW, Option.bind_some, D_hasPlace hW hR, Option.bind_some]
  dsimp only
  by_cases h : cN 4 a0 < 4 ∧ cN (bZ bs (cN 4 a0)) a1 < bZ bs (cN 4 a0)
  · rw [decide_eq_true h, if_neg (show ¬ bI true = 0 by decide), if_pos h]
    rcases ge_cases 4 a0 (by decide) with ⟨h', -⟩ | ⟨k, hk, rfl, e⟩
    · exact absurd h.1 h'
    · rw [e] at h ⊢
      have h40 := bZ_40 (bs := bs) (k := k)
      rcases ge_cases (bZ bs k) a1 (by omega) with ⟨h1, -⟩ | ⟨j, hj, rfl, e2⟩
      · exact absurd h.2 h1
      · rw [e2, bR_0 hW, Option.bind_some, bA_41 hW hk, Option.bind_some, xaI_w hW (sh_42 hk) (show j < 40 by omega) (by decide), Option.bind_some, hR.2 k j hk (by omega)]
  · rw [decide_eq_false h, if_pos (show bI false = 0 by decide), if_neg h]; rfl
theorem D_set {M : xMem} {bs bp : Nat → Nat} {a0 a1 v : Int32} (hW : XW M) (hR : RBc bs bp M) : fB_set M (40, 0, 0) a0 a1 v = some (if cN 4 a0 < 4 ∧ cN (bZ bs (cN 4 a0)) a1 < bZ bs (cN 4 a0) then xsi M (42, 0, cN 4 a0) (cN (bZ bs (cN 4 a0)) a1) v else M) := by
  unfold fB_set
  rw [bO_40 hW, Option.bind_some, D_hasPlace hW hR, Option.bind_some]
  dsimp only
  by_cases h : cN 4 a0 < 4 ∧ cN (bZ bs (cN 4 a0)) a1 < bZ bs (cN 4 a0)
  · rw [decide_eq_true h, if_neg (show ¬ bI true = 0 by decide), if_pos h]
    rcases ge_cases 4 a0 (by decide) with ⟨h', -⟩ | ⟨k, hk, rfl, e⟩
    · exact absurd h.1 h'
    · rw [e] at h ⊢
      have h40 := bZ_40 (bs := bs) (k := k)
      rcases ge_cases (bZ bs k) a1 (by omega) with ⟨h1, -⟩ | ⟨j, hj, rfl, e2⟩
      · exact absurd h.2 h1
      · rw [e2, bR_0 hW, Option.bind_some, bA_41 hW hk, Option.bind_some, xuI_w hW (sh_42 hk) (show j < 40 by omega) (by decide), Option.bind_some]
  · rw [decide_eq_false h, if_pos (show bI false = 0 by decide), if_neg h]
