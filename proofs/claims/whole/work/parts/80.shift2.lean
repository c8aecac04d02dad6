/-! shift: the class -/
def spanB (bs : Nat → Nat) (a0 a1 a4 : Int32) : Bool := decide (cN 4 a0 < 4 ∧ bs (cN 4 a0) < 41 ∧ cN 41 a1 + cN 41 a4 ≤ bs (cN 4 a0))
theorem c41 {a : Int32} : cN 41 a < 41 ∨ cN 41 a = 41 := by
  rcases rg_cases 40 a (by decide) with ⟨h1, -⟩ | ⟨m, hm, rfl, e⟩
  · rcases cN_cases 41 a (by decide) with ⟨h, -⟩ | ⟨h, -⟩
    · exact Or.inr h
    · exact Or.inl h
  · left; rw [cN_nI (by omega) (by decide)]; omega
theorem D_hasSpan {M : xMem} {bs bp : Nat → Nat} {a0 a1 a4 : Int32} (hW : XW M) (hR : RBc bs bp M) : fB_hasSpan M (40, 0, 0) a0 a1 a4 = some (bI (spanB bs a0 a1 a4), M) := by
  unfold fB_hasSpan spanB
  rw [bO_40 hW, Option.bind_some, D_isNumber, Option.bind_some]
  dsimp only
  by_cases h : cN 4 a0 < 4
  · rw [decide_eq_true h, if_neg (show ¬ bI true = 0 by decide)]
    rcases ge_cases 4 a0 (by decide) with ⟨h', -⟩ | ⟨k, hk, rfl, e⟩
    · exact absurd h h'
    · rw [e]
      rcases rg_cases 40 a1 (by decide) with ⟨h1, h2⟩ | ⟨i, hi, rfl, e1⟩
      · have h1' : ¬ cN 41 a1 < 41 := h1
        have hno : ¬ (k < 4 ∧ bs k < 41 ∧ cN 41 a1 + cN 41 a4 ≤ bs k) := fun e => by omega
        rw [decide_eq_false hno]
        by_cases h3 : a1 < 0
        · rw [if_pos h3]; rfl
        · rw [if_neg h3]
          by_cases h4 : a4 < 0
          · rw [if_pos h4]; rfl
          · have h5 : ¬ a1 ≤ nI 40 := by
              rcases h2 with h2 | ⟨-, h2⟩
              · rw [nI_0] at h2; exact absurd h2 h3
              · exact h2
            rw [if_neg h4, bR_1 hW, Option.bind_some, xaI_w hW sh_43 hk (by decide), Option.bind_some, hR.1 k hk]
            have h6 : en 41 m1 (bs k) < a1 := by
              rw [Int32.le_iff_toInt_le, nI_toInt (by decide)] at h5
              rw [Int32.lt_iff_toInt_lt]
              by_cases hb : bs k < 41
              · rw [en_lt hb, nI_toInt (by omega)]; omega
              · rw [en_ge hb, show m1.toInt = -1 by decide]; omega
            rw [if_pos h6]; rfl
      · rw [if_neg (show ¬ nI i < (0 : Int32) from nI_pos (show i < 2 ^ 31 by omega)), e1]
        rcases rg_cases 40 a4 (by decide) with ⟨h1, h2⟩ | ⟨n, hn, rfl, e2⟩
        · have h1' : ¬ cN 41 a4 < 41 := h1
          have hno : ¬ (k < 4 ∧ bs k < 41 ∧ i + cN 41 a4 ≤ bs k) := fun e => by omega
          rw [decide_eq_false hno]
          by_cases h4 : a4 < 0
          · rw [if_pos h4]; rfl
          · have h5 : ¬ a4 ≤ nI 40 := by
              rcases h2 with h2 | ⟨-, h2⟩
              · rw [nI_0] at h2; exact absurd h2 h4
              · exact h2
            rw [if_neg h4, bR_1 hW, Option.bind_some, xaI_w hW sh_43 hk (by decide), Option.bind_some, hR.1 k hk]
            by_cases h6 : en 41 m1 (bs k) < nI i
            · rw [if_pos h6]; rfl
            · rw [if_neg h6, Option.bind_some, xaI_w hW sh_43 hk (by decide), Option.bind_some, hR.1 k hk]
              have hb : bs k < 41 := by
                by_cases hb : bs k < 41
                · exact hb
                · exfalso; apply h6
                  rw [en_ge hb, Int32.lt_iff_toInt_lt, nI_toInt (by omega), show m1.toInt = -1 by decide]; omega
              rw [en_lt hb] at h6 ⊢
              rw [nI_ltI (by omega) (by omega)] at h6
              have h7 : nI (bs k) - nI i < a4 := by
                rw [Int32.le_iff_toInt_le, nI_toInt (by decide)] at h5
                rw [pk_sub (by omega), Int32.lt_iff_toInt_lt, nI_toInt (by omega)]; omega
              rw [if_pos h7]; rfl
        · rw [e2, if_neg (show ¬ nI n < (0 : Int32) from nI_pos (show n < 2 ^ 31 by omega)), bR_1 hW, Option.bind_some, xaI_w hW sh_43 hk (by decide), Option.bind_some, hR.1 k hk]
          by_cases hb : bs k < 41
          · rw [en_lt hb]
            by_cases h6 : nI (bs k) < nI i
            · have h6' := h6
              rw [nI_ltI (by omega) (by omega)] at h6'
              rw [if_pos h6, decide_eq_false (show ¬ (k < 4 ∧ bs k < 41 ∧ i + n ≤ bs k) from fun e => by omega)]; rfl
            · have h6' := h6
              rw [nI_ltI (by omega) (by omega)] at h6'
              rw [if_neg h6, Option.bind_some, xaI_w hW sh_43 hk (by decide), Option.bind_some, hR.1 k hk, en_lt hb, pk_sub (by omega)]
              by_cases h7 : nI (bs k - i) < nI n
              · have h7' := h7
                rw [nI_ltI (by omega) (by omega)] at h7'
                rw [if_pos h7, decide_eq_false (show ¬ (k < 4 ∧ bs k < 41 ∧ i + n ≤ bs k) from fun e => by omega)]; rfl
              · have h7' := h7
                rw [nI_ltI (by omega) (by omega)] at h7'
                rw [if_neg h7, decide_eq_true (show k < 4 ∧ bs k < 41 ∧ i + n ≤ bs k from ⟨hk, hb, by omega⟩)]; rfl
          · have h6 : en 41 m1 (bs k) < nI i := by
              rw [en_ge hb, Int32.lt_iff_toInt_lt, nI_toInt (by omega), show m1.toInt = -1 by decide]; omega
            rw [if_pos h6, decide_eq_false (show ¬ (k < 4 ∧ bs k < 41 ∧ i + n ≤ bs k) from fun e => hb e.2.1)]; rfl
  · rw [decide_eq_false h, if_pos (show bI false = 0 by decide), decide_eq_false (show ¬ (cN 4 a0 < 4 ∧ bs (cN 4 a0) < 41 ∧ cN 41 a1 + cN 41 a4 ≤ bs (cN 4 a0)) from fun e => h e.1)]; rfl
