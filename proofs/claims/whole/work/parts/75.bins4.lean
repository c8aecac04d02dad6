/-! lay -/
def rLay1 (bs : Nat → Nat) (a0 a1 : Int32) : Int32 := if bs (cN 4 a0) < 41 then (if cN (bs (cN 4 a0)) a1 < bs (cN 4 a0) then 1 else -13) else -11
def kLay (bs : Nat → Nat) (a0 a1 : Int32) : Bool := decide (cN 4 a0 < 4 ∧ bs (cN 4 a0) < 41 ∧ cN (bs (cN 4 a0)) a1 < bs (cN 4 a0))
theorem C_lay44 {M : xMem} {bs bp : Nat → Nat} {a0 a1 a2 : Int32} (hW : XW M) (hR : RBc bs bp M) (h : cN 4 a0 < 4) : fX_lay_44 M (some (0, 0, 0)) a0 a1 a2 = some (rLay1 bs a0 a1, if kLay bs a0 a1 = true then xsi M (42, 0, cN 4 a0) (cN (bs (cN 4 a0)) a1) a2 else M) := by
  unfold fX_lay_44 rLay1 kLay
  rw [bR_14 hW, Option.bind_some, bO_40 hW, Option.bind_some, D_isMissing hW hR, Option.bind_some]
  dsimp only
  by_cases h1 : bs (cN 4 a0) < 41
  · have hz : bZ bs (cN 4 a0) = bs (cN 4 a0) := if_pos h1
    rw [decide_eq_true (show cN 4 a0 < 4 ∧ bs (cN 4 a0) < 41 from ⟨h, h1⟩), if_pos (show bI (!true) = 0 by decide), if_pos h1, bR_14 hW, Option.bind_some, bO_40 hW, Option.bind_some, D_hasPlace hW hR, Option.bind_some, hz]
    dsimp only
    by_cases h2 : cN (bs (cN 4 a0)) a1 < bs (cN 4 a0)
    · have h3 : cN 4 a0 < 4 ∧ cN (bs (cN 4 a0)) a1 < bs (cN 4 a0) := ⟨h, h2⟩
      rw [decide_eq_true h3, if_neg (show ¬ bI true = 0 by decide), if_pos h2, decide_eq_true (show cN 4 a0 < 4 ∧ bs (cN 4 a0) < 41 ∧ cN (bs (cN 4 a0)) a1 < bs (cN 4 a0) from ⟨h, h1, h2⟩), if_pos rfl, bR_14 hW, Option.bind_some, bO_40 hW, Option.bind_some, D_set hW hR, Option.bind_some, hz, if_pos h3]
    · rw [decide_eq_false (show ¬ (cN 4 a0 < 4 ∧ cN (bs (cN 4 a0)) a1 < bs (cN 4 a0)) from fun e => h2 e.2), if_pos (show bI false = 0 by decide), if_neg h2, decide_eq_false (show ¬ (cN 4 a0 < 4 ∧ bs (cN 4 a0) < 41 ∧ cN (bs (cN 4 a0)) a1 < bs (cN 4 a0)) from fun e => h2 e.2.2), if_neg (by decide)]
  · rw [decide_eq_false (show ¬ (cN 4 a0 < 4 ∧ bs (cN 4 a0) < 41) from fun e => h1 e.2), if_neg (show ¬ bI (!false) = 0 by decide), if_neg h1, decide_eq_false (show ¬ (cN 4 a0 < 4 ∧ bs (cN 4 a0) < 41 ∧ cN (bs (cN 4 a0)) a1 < bs (cN 4 a0)) from fun e => h1 e.2.1), if_neg (by decide)]
theorem M_lay22 {d : Int32} {s : xS} {X : xMem} {bs bp : Nat → Nat} {a0 a1 a2 : Int32} (hW : XW X) (hR : RBm bs bp X) (h : cN 4 a0 < 4) : fM_lay_22 (mM d s X) (some (44, 0, 0)) a0 a1 a2 = some (rLay1 bs a0 a1, mM d s (if kLay bs a0 a1 = true then xsi X (79, 0, 0) (40 * cN 4 a0 + cN (bs (cN 4 a0)) a1) (if 0 ≤ a2 then a2 else -9) else X)) := by
  unfold fM_lay_22 rLay1 kLay
  rcases ge_cases 4 a0 (by decide) with ⟨h', -⟩ | ⟨k, hk, rfl, e⟩
  · exact absurd h h'
  · rw [e, gR_53 hW, Option.bind_some, aI_80 hW hk, Option.bind_some, hR.1 k hk]
    by_cases h1 : bs k < 41
    · have h4 : (0 : Int32) ≤ en 41 (-9) (bs k) := by rw [kl_0, en_0le (by decide) (by decide)]; exact h1
      rw [if_pos h4, if_pos h1, Option.bind_some, aI_80 hW hk, Option.bind_some, hR.1 k hk, en_lt h1, M_isInS (by omega), Option.bind_some]
      dsimp only
      rcases ge_cases (bs k) a1 (by omega) with ⟨h2, -⟩ | ⟨j, hj, rfl, e2⟩
      · rw [decide_eq_false h2, if_pos (show bI false = 0 by decide), if_neg h2, decide_eq_false (show ¬ (k < 4 ∧ bs k < 41 ∧ cN (bs k) a1 < bs k) from fun e => h2 e.2.2), if_neg (by decide)]
      · have hx : 40 * k + j < 160 := by omega
        have e3 : (40 : Int32) * nI k + nI j = nI (40 * k + j) := by rw [kl_40, pk_mul, nI_add]
        rw [e2, decide_eq_true hj, if_neg (show ¬ bI true = 0 by decide), if_pos hj, gR_52 hW, Option.bind_some, decide_eq_true (show k < 4 ∧ bs k < 41 ∧ j < bs k from ⟨hk, h1, hj⟩), if_pos rfl]
        unfold fM_lay_73
        by_cases h5 : (0 : Int32) ≤ a2
        · rw [if_pos h5, if_pos h5, e3, uI_79 hW hx, Option.bind_some]
        · rw [if_neg h5, if_neg h5, e3, uI_79 hW hx, Option.bind_some]
    · have h4 : ¬ (0 : Int32) ≤ en 41 (-9) (bs k) := by rw [kl_0, en_0le (by decide) (by decide)]; exact h1
      rw [if_neg h4, if_neg h1, decide_eq_false (show ¬ (k < 4 ∧ bs k < 41 ∧ cN (bs k) a1 < bs k) from fun e => h1 e.2.1), if_neg (by decide)]
def gLay (s : xS) (a0 a2 : Int32) : Bool := decide (cN 4 a0 < 4 ∧ (a2 = -1 ∨ qLive s a2 < 1984))
def rLay (s : xS) (bs : Nat → Nat) (a0 a1 a2 : Int32) : Int32 := if gLay s a0 a2 = true then rLay1 bs a0 a1 else -1
theorem C_lay {t : xS} {Y : xMem} {bs bp : Nat → Nat} {a0 a1 a2 : Int32} (hW : XW Y) (hI : INV t) (hR : RBc bs bp (cM 0 t Y)) : fX_lay (cM 0 t Y) (0, 0, 0) a0 a1 a2 = some (rLay t bs a0 a1 a2, cM 0 t (if (gLay t a0 a2 && kLay bs a0 a1) = true then xsi Y (42, 0, cN 4 a0) (cN (bs (cN 4 a0)) a1) a2 else Y)) := by
  have hWM : XW (cM 0 t Y) := hW
  have hw : ∀ b : Bool, (if b = true then xsi (cM 0 t Y) (42, 0, cN 4 a0) (cN (bs (cN 4 a0)) a1) a2 else cM 0 t Y) = cM 0 t (if b = true then xsi Y (42, 0, cN 4 a0) (cN (bs (cN 4 a0)) a1) a2 else Y) := fun b => by
    cases b
    · rfl
    · exact cM_out' (by decide)
  have hb : 0 < 3 := by decide
  have hs := D_slotOf (b := 0) (Y := Y) (a := a2) hW hb hI.R
  have hl := D_live (b := 0) (Y := Y) (a := a2) hW hb hI
  unfold fX_lay rLay gLay
  rw [bR_14 hWM, Option.bind_some, bO_40 hWM, Option.bind_some, D_isNumber, Option.bind_some]
  dsimp only
  by_cases h : cN 4 a0 < 4
  · rw [decide_eq_true h, if_neg (show ¬ bI true = 0 by decide)]
    by_cases h2 : a2 = -1
    · rw [if_pos h2, C_lay44 hWM hR h, hw, decide_eq_true (show cN 4 a0 < 4 ∧ (a2 = -1 ∨ qLive t a2 < 1984) from ⟨h, Or.inl h2⟩), if_pos rfl, Bool.true_and]
    · rw [if_neg h2, cX_0 hW, Option.bind_some, cR_1_0 hW hb, Option.bind_some, Option.bind_some, cR_1_0 hW hb, Option.bind_some, cO_2 hW hb, Option.bind_some, hs, Option.bind_some]
      dsimp only
      rw [cO_2 hW hb, Option.bind_some, hl, Option.bind_some]
      dsimp only
      by_cases h3 : qLive t a2 < 1984
      · rw [decide_eq_true h3, if_neg (show ¬ bI true = 0 by decide), C_lay44 hWM hR h, hw, decide_eq_true (show cN 4 a0 < 4 ∧ (a2 = -1 ∨ qLive t a2 < 1984) from ⟨h, Or.inr h3⟩), if_pos rfl, Bool.true_and]
      · rw [decide_eq_false h3, if_pos (show bI false = 0 by decide), decide_eq_false (show ¬ (cN 4 a0 < 4 ∧ (a2 = -1 ∨ qLive t a2 < 1984)) from fun e => e.2.elim h2 h3), if_neg (by decide), Bool.false_and, if_neg (by decide)]
  · rw [decide_eq_false h, if_pos (show bI false = 0 by decide), decide_eq_false (show ¬ (cN 4 a0 < 4 ∧ (a2 = -1 ∨ qLive t a2 < 1984)) from fun e => h e.1), if_neg (by decide), Bool.false_and, if_neg (by decide)]
theorem M_lay {d : Int32} {s : xS} {X : xMem} {bs bp : Nat → Nat} {a0 a1 a2 : Int32} (hW : XW X) (hI : INV s) (hR : RBm bs bp X) : fM_lay (mM d s X) (44, 0, 0) a0 a1 a2 = some (rLay s bs a0 a1 a2, mM d s (if (gLay s a0 a2 && kLay bs a0 a1) = true then xsi X (79, 0, 0) (40 * cN 4 a0 + cN (bs (cN 4 a0)) a1) (if 0 ≤ a2 then a2 else -9) else X)) := by
  have hl := M_liveAt (d := d) (X := X) (a := a2) hW hI.R (fun b hb => hI.S hb)
  unfold fM_lay rLay gLay
  rw [M_isBin, Option.bind_some]
  dsimp only
  by_cases h : cN 4 a0 < 4
  · rw [decide_eq_true h, if_neg (show ¬ bI true = 0 by decide)]
    by_cases h2 : a2 = -1
    · rw [if_pos h2, M_lay22 hW hR h, decide_eq_true (show cN 4 a0 < 4 ∧ (a2 = -1 ∨ qLive s a2 < 1984) from ⟨h, Or.inl h2⟩), if_pos rfl, Bool.true_and]
    · rw [if_neg h2, xob_44 hW, Option.bind_some, hl, Option.bind_some]
      dsimp only
      by_cases h3 : qLive s a2 < 1984
      · have h4 : (0 : Int32) ≤ en 1984 (-9) (qLive s a2) := by rw [kl_0, en_0le (by decide) (by decide)]; exact h3
        rw [if_pos h4, M_lay22 hW hR h, decide_eq_true (show cN 4 a0 < 4 ∧ (a2 = -1 ∨ qLive s a2 < 1984) from ⟨h, Or.inr h3⟩), if_pos rfl, Bool.true_and]
      · have h4 : ¬ (0 : Int32) ≤ en 1984 (-9) (qLive s a2) := by rw [kl_0, en_0le (by decide) (by decide)]; exact h3
        rw [if_neg h4, decide_eq_false (show ¬ (cN 4 a0 < 4 ∧ (a2 = -1 ∨ qLive s a2 < 1984)) from fun e => e.2.elim h2 h3), if_neg (by decide), Bool.false_and, if_neg (by decide)]
  · rw [decide_eq_false h, if_pos (show bI false = 0 by decide), decide_eq_false (show ¬ (cN 4 a0 < 4 ∧ (a2 = -1 ∨ qLive s a2 < 1984)) from fun e => h e.1), if_neg (by decide), Bool.false_and, if_neg (by decide)]
