/-! the model's bins; at -/
theorem M_isBin {M : xMem} {a0 : Int32} : fM_isBin M a0 = some (bI (decide (cN 4 a0 < 4)), M) := by
  unfold fM_isBin
  rw [show fM_isIn M a0 0 3 = _ from M_isIn (k := 0) (hi := 3) (by decide), Option.bind_some]
  dsimp only
  by_cases h : cN 4 a0 < 4
  · rw [decide_eq_true (show cN (3 + 1) a0 < 3 + 1 from h)]; exact if_pos (Or.inr rfl)
  · rw [decide_eq_false (show ¬ cN (3 + 1) a0 < 3 + 1 from h)]; exact if_pos (Or.inl rfl)
theorem M_isInS {M : xMem} {sz : Nat} {x : Int32} (h : sz ≤ 40) : fM_isIn M x 0 (nI sz - 1) = some (bI (decide (cN sz x < sz)), M) := by
  rcases Nat.eq_zero_or_pos sz with rfl | h1
  · rw [decide_eq_false (Nat.not_lt_zero _)]
    unfold fM_isIn
    by_cases h2 : x < 0
    · rw [if_pos h2]; rfl
    · have h3 : nI 0 - 1 < x := by
        rw [show nI 0 - 1 = m1 by decide, Int32.lt_iff_toInt_lt]
        rw [Int32.lt_iff_toInt_lt] at h2
        have e0 : (0 : Int32).toInt = 0 := by decide
        have e1 : m1.toInt = -1 := by decide
        omega
      rw [if_neg h2, if_pos h3]; rfl
  · obtain ⟨z, rfl⟩ : ∃ z, sz = z + 1 := ⟨sz - 1, by omega⟩
    rw [show nI (z + 1) - 1 = nI z by rw [kl_1, pk_sub (show 1 ≤ z + 1 by omega)]; congr 1]
    exact M_isIn (k := 0) (by omega)
def rAt (bs bp : Nat → Nat) (a0 a1 : Int32) : Int32 :=
  if cN 4 a0 < 4 then
    (if bs (cN 4 a0) < 41 then
      (if cN (bs (cN 4 a0)) a1 < bs (cN 4 a0) then (if bp (40 * cN 4 a0 + cN (bs (cN 4 a0)) a1) < 32768 then nI (bp (40 * cN 4 a0 + cN (bs (cN 4 a0)) a1)) else -11) else -13)
     else -11)
  else -1
theorem C_at {M : xMem} {bs bp : Nat → Nat} {a0 a1 : Int32} (hW : XW M) (hR : RBc bs bp M) : fX_at M (0, 0, 0) a0 a1 = some (rAt bs bp a0 a1, M) := by
  unfold fX_at rAt
  rw [bR_14 hW, Option.bind_some, bO_40 hW, Option.bind_some, D_isNumber, Option.bind_some]
  dsimp only
  by_cases h : cN 4 a0 < 4
  · rw [decide_eq_true h, if_neg (show ¬ bI true = 0 by decide), if_pos h, bR_14 hW, Option.bind_some, bO_40 hW, Option.bind_some, D_isMissing hW hR, Option.bind_some]
    dsimp only
    by_cases h1 : bs (cN 4 a0) < 41
    · have hz : bZ bs (cN 4 a0) = bs (cN 4 a0) := if_pos h1
      rw [decide_eq_true (show cN 4 a0 < 4 ∧ bs (cN 4 a0) < 41 from ⟨h, h1⟩), if_pos (show bI (!true) = 0 by decide), if_pos h1, bR_14 hW, Option.bind_some, bO_40 hW, Option.bind_some, D_hasPlace hW hR, Option.bind_some, hz]
      dsimp only
      by_cases h2 : cN (bs (cN 4 a0)) a1 < bs (cN 4 a0)
      · rw [decide_eq_true (show cN 4 a0 < 4 ∧ cN (bs (cN 4 a0)) a1 < bs (cN 4 a0) from ⟨h, h2⟩), if_neg (show ¬ bI true = 0 by decide), if_pos h2, bR_14 hW, Option.bind_some, bO_40 hW, Option.bind_some, D_get hW hR, Option.bind_some, hz, if_pos (show cN 4 a0 < 4 ∧ cN (bs (cN 4 a0)) a1 < bs (cN 4 a0) from ⟨h, h2⟩)]
        dsimp only
        by_cases h3 : bp (40 * cN 4 a0 + cN (bs (cN 4 a0)) a1) < 32768
        · rw [en_lt h3, if_pos h3, if_neg (show ¬ nI (bp (40 * cN 4 a0 + cN (bs (cN 4 a0)) a1)) = (-1 : Int32) from by rw [km1, nI_m1 (by omega)]; exact not_false)]
        · rw [en_ge h3, if_neg h3, if_pos (show m1 = (-1 : Int32) from rfl)]
      · rw [decide_eq_false (show ¬ (cN 4 a0 < 4 ∧ cN (bs (cN 4 a0)) a1 < bs (cN 4 a0)) from fun e => h2 e.2), if_pos (show bI false = 0 by decide), if_neg h2]
    · rw [decide_eq_false (show ¬ (cN 4 a0 < 4 ∧ bs (cN 4 a0) < 41) from fun e => h1 e.2), if_neg (show ¬ bI (!false) = 0 by decide), if_neg h1]
  · rw [decide_eq_false h, if_pos (show bI false = 0 by decide), if_neg h]
theorem M_at {d : Int32} {s : xS} {X : xMem} {bs bp : Nat → Nat} {a0 a1 : Int32} (hW : XW X) (hR : RBm bs bp X) : fM_at (mM d s X) (44, 0, 0) a0 a1 = some (rAt bs bp a0 a1, mM d s X) := by
  unfold fM_at rAt
  rw [M_isBin, Option.bind_some]
  dsimp only
  by_cases h : cN 4 a0 < 4
  · rw [decide_eq_true h, if_neg (show ¬ bI true = 0 by decide), if_pos h]
    rcases ge_cases 4 a0 (by decide) with ⟨h', -⟩ | ⟨k, hk, rfl, e⟩
    · exact absurd h h'
    · rw [e, gR_53 hW, Option.bind_some, aI_80 hW hk, Option.bind_some, hR.1 k hk]
      by_cases h1 : bs k < 41
      · have h4 : (0 : Int32) ≤ en 41 (-9) (bs k) := by rw [kl_0, en_0le (by decide) (by decide)]; exact h1
        rw [if_pos h4, if_pos h1, Option.bind_some, aI_80 hW hk, Option.bind_some, hR.1 k hk, en_lt h1, M_isInS (by omega), Option.bind_some]
        dsimp only
        rcases ge_cases (bs k) a1 (by omega) with ⟨h2, -⟩ | ⟨j, hj, rfl, e2⟩
        · rw [decide_eq_false h2, if_pos (show bI false = 0 by decide), if_neg h2]
        · rw [e2, decide_eq_true hj, if_neg (show ¬ bI true = 0 by decide), if_pos hj, gR_52 hW, Option.bind_some]
          have hx : 40 * k + j < 160 := by omega
          have e3 : (40 : Int32) * nI k + nI j = nI (40 * k + j) := by rw [kl_40, pk_mul, nI_add]
          have hr : xaI (mM d s X) (some (79, 0, 0)) ((40 : Int32) * nI k + nI j) = some (en 32768 (-9) (bp (40 * k + j))) := by rw [e3, aI_79 hW hx, hR.2 _ hx]
          rw [hr, Option.bind_some]
          by_cases h5 : bp (40 * k + j) < 32768
          · have h6 : (0 : Int32) ≤ en 32768 (-9) (bp (40 * k + j)) := by rw [kl_0, en_0le (by decide) (by decide)]; exact h5
            rw [if_pos h6, if_pos h5, en_lt h5]
          · have h6 : ¬ (0 : Int32) ≤ en 32768 (-9) (bp (40 * k + j)) := by rw [kl_0, en_0le (by decide) (by decide)]; exact h5
            rw [if_neg h6, if_neg h5]
      · have h4 : ¬ (0 : Int32) ≤ en 41 (-9) (bs k) := by rw [kl_0, en_0le (by decide) (by decide)]; exact h1
        rw [if_neg h4, if_neg h1]
  · rw [decide_eq_false h, if_pos (show bI false = 0 by decide), if_neg h]
