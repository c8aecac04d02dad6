/-! shift: the model's call -/
theorem span_n {bs : Nat → Nat} {k i n : Nat} (hk : k < 4) (hb : bs k < 41) (h : i + n ≤ bs k) : spanB bs (nI k) (nI i) (nI n) = true := by
  unfold spanB
  rw [cN_nI hk (by decide), cN_nI (show i < 41 by omega) (by decide), cN_nI (show n < 41 by omega) (by decide)]
  exact decide_eq_true ⟨hk, hb, h⟩
theorem M_shift {d : Int32} {s : xS} {X : xMem} {bs bp : Nat → Nat} {a0 a1 a2 a3 a4 : Int32} (hW : XW X) (hR : RBm bs bp X) :
    ∃ X' : xMem, X'.2 = X.2 ∧ (∀ a x, a ≠ (79, 0, 0) → a ≠ (81, 0, 0) → X'.1 a x = X.1 a x) ∧ RBm bs (if gShift bs a0 a1 a2 a3 a4 = true then bpSh bp (40 * cN 4 a0 + cN 41 a1) (40 * cN 4 a2 + cN 41 a3) (cN 41 a4) else bp) X' ∧ fM_shift (mM d s X) (44, 0, 0) a0 a1 a2 a3 a4 = some (rShift bs a0 a1 a2 a3 a4, mM d s X') := by
  have g1 : gShift bs a0 a1 a2 a3 a4 = true → spanB bs a0 a1 a4 = true ∧ spanB bs a2 a3 a4 = true := fun e => by
    unfold gShift at e; exact Bool.and_eq_true_iff.mp e
  have fin : ∀ r : Int32, ¬ gShift bs a0 a1 a2 a3 a4 = true → rShift bs a0 a1 a2 a3 a4 = r → fM_shift (mM d s X) (44, 0, 0) a0 a1 a2 a3 a4 = some (r, mM d s X) → ∃ X' : xMem, X'.2 = X.2 ∧ (∀ a x, a ≠ (79, 0, 0) → a ≠ (81, 0, 0) → X'.1 a x = X.1 a x) ∧ RBm bs (if gShift bs a0 a1 a2 a3 a4 = true then bpSh bp (40 * cN 4 a0 + cN 41 a1) (40 * cN 4 a2 + cN 41 a3) (cN 41 a4) else bp) X' ∧ fM_shift (mM d s X) (44, 0, 0) a0 a1 a2 a3 a4 = some (rShift bs a0 a1 a2 a3 a4, mM d s X') := fun r hg hr hf => by
    rw [if_neg hg, hr]
    exact ⟨X, rfl, fun _ _ _ _ => rfl, hR, hf⟩
  rcases ge_cases 4 a0 (by decide) with ⟨h, -⟩ | ⟨k, hk, rfl, e0⟩
  · refine fin _ (fun e => h (of_decide_eq_true (g1 e).1).1) (if_neg h) ?_
    unfold fM_shift
    rw [M_isBin, Option.bind_some]
    dsimp only
    rw [decide_eq_false h, if_pos (show bI false = 0 by decide)]
  rcases ge_cases 4 a2 (by decide) with ⟨h, -⟩ | ⟨k', hk', rfl, e2⟩
  · refine fin _ (fun e => h (of_decide_eq_true (g1 e).2).1) ((if_pos (by rw [e0]; exact hk)).trans (if_neg h)) ?_
    unfold fM_shift
    rw [M_isBin, Option.bind_some]
    dsimp only
    rw [e0, decide_eq_true hk, if_neg (show ¬ bI true = 0 by decide), M_isBin, Option.bind_some]
    dsimp only
    rw [decide_eq_false h, if_pos (show bI false = 0 by decide)]
  by_cases hb : bs k < 41
  · by_cases hb' : bs k' < 41
    · have hr0 : ∀ r, (if gShift bs (nI k) a1 (nI k') a3 a4 = true then a4 else -13) = r → rShift bs (nI k) a1 (nI k') a3 a4 = r := fun r hr => by
        unfold rShift
        rw [e0, e2, if_pos hk, if_pos hk', if_pos hb, if_pos hb']; exact hr
      have n1 : ¬ nI (bs k) < (0 : Int32) := nI_pos (show bs k < 2 ^ 31 by omega)
      have n2 : (0 : Int32) ≤ nI (bs k') := by rw [kl_0, nI_leI (by decide) (by omega)]; omega
      have inj : ∀ {x y : Nat}, x < 2 ^ 31 → y < 2 ^ 31 → nI x = nI y → x = y := fun h1 h2 e => (nI_eq h1 h2).mp e
      rcases rg_cases (bs k) a1 (by omega) with ⟨h, -⟩ | ⟨i, hi, rfl, e3⟩
      · have hg : ¬ gShift bs (nI k) a1 (nI k') a3 a4 = true := fun e => by
          obtain ⟨k1, i1, n1, ek, rfl, -, hk1, hi1, hn1, hb1, hs1⟩ := span_v (g1 e).1
          have := inj (by omega) (by omega) ek
          subst this
          exact h (by rw [cN_nI (by omega) (by omega)]; omega)
        refine fin _ hg (hr0 _ (if_neg hg)) ?_
        unfold fM_shift
        rw [M_isBin, Option.bind_some]
        dsimp only
        rw [e0, decide_eq_true hk, if_neg (show ¬ bI true = 0 by decide), M_isBin, Option.bind_some]
        dsimp only
        rw [e2, decide_eq_true hk', if_neg (show ¬ bI true = 0 by decide), gR_53 hW, Option.bind_some, aI_80 hW hk, Option.bind_some, hR.1 k hk, en_lt hb, if_neg n1, Option.bind_some, aI_80 hW hk', Option.bind_some, hR.1 k' hk', en_lt hb', if_pos n2, Option.bind_some, aI_80 hW hk, Option.bind_some, hR.1 k hk, en_lt hb, show fM_isIn (mM d s X) a1 0 (nI (bs k)) = _ from M_isIn (k := 0) (hi := bs k) (by omega), Option.bind_some]
        dsimp only
        rw [decide_eq_false h, if_pos (show bI false = 0 by decide)]
      rcases rg_cases (bs k') a3 (by omega) with ⟨h, -⟩ | ⟨i', hi', rfl, e4⟩
      · have hg : ¬ gShift bs (nI k) (nI i) (nI k') a3 a4 = true := fun e => by
          obtain ⟨k1, i1, n1, ek, rfl, -, hk1, hi1, hn1, hb1, hs1⟩ := span_v (g1 e).2
          have := inj (by omega) (by omega) ek
          subst this
          exact h (by rw [cN_nI (by omega) (by omega)]; omega)
        refine fin _ hg (hr0 _ (if_neg hg)) ?_
        unfold fM_shift
        rw [M_isBin, Option.bind_some]
        dsimp only
        rw [e0, decide_eq_true hk, if_neg (show ¬ bI true = 0 by decide), M_isBin, Option.bind_some]
        dsimp only
        rw [e2, decide_eq_true hk', if_neg (show ¬ bI true = 0 by decide), gR_53 hW, Option.bind_some, aI_80 hW hk, Option.bind_some, hR.1 k hk, en_lt hb, if_neg n1, Option.bind_some, aI_80 hW hk', Option.bind_some, hR.1 k' hk', en_lt hb', if_pos n2, Option.bind_some, aI_80 hW hk, Option.bind_some, hR.1 k hk, en_lt hb, show fM_isIn (mM d s X) (nI i) 0 (nI (bs k)) = _ from M_isIn (k := 0) (hi := bs k) (by omega), Option.bind_some]
        dsimp only
        rw [e3, decide_eq_true (show i < bs k + 1 by omega), if_neg (show ¬ bI true = 0 by decide), gR_53 hW, Option.bind_some, aI_80 hW hk', Option.bind_some, hR.1 k' hk', en_lt hb', show fM_isIn (mM d s X) a3 0 (nI (bs k')) = _ from M_isIn (k := 0) (hi := bs k') (by omega), Option.bind_some]
        dsimp only
        rw [decide_eq_false h, if_pos (show bI false = 0 by decide)]
      rcases rg_cases (bs k - i) a4 (by omega) with ⟨h, -⟩ | ⟨n, hn, rfl, e5⟩
      · have hg : ¬ gShift bs (nI k) (nI i) (nI k') (nI i') a4 = true := fun e => by
          obtain ⟨k1, i1, n1, ek, ei, rfl, hk1, hi1, hn1, hb1, hs1⟩ := span_v (g1 e).1
          have := inj (by omega) (by omega) ek
          subst this
          have := inj (by omega) (by omega) ei
          subst this
          exact h (by rw [cN_nI (by omega) (by omega)]; omega)
        refine fin _ hg (hr0 _ (if_neg hg)) ?_
        unfold fM_shift
        rw [M_isBin, Option.bind_some]
        dsimp only
        rw [e0, decide_eq_true hk, if_neg (show ¬ bI true = 0 by decide), M_isBin, Option.bind_some]
        dsimp only
        rw [e2, decide_eq_true hk', if_neg (show ¬ bI true = 0 by decide), gR_53 hW, Option.bind_some, aI_80 hW hk, Option.bind_some, hR.1 k hk, en_lt hb, if_neg n1, Option.bind_some, aI_80 hW hk', Option.bind_some, hR.1 k' hk', en_lt hb', if_pos n2, Option.bind_some, aI_80 hW hk, Option.bind_some, hR.1 k hk, en_lt hb, show fM_isIn (mM d s X) (nI i) 0 (nI (bs k)) = _ from M_isIn (k := 0) (hi := bs k) (by omega), Option.bind_some]
        dsimp only
        rw [e3, decide_eq_true (show i < bs k + 1 by omega), if_neg (show ¬ bI true = 0 by decide), gR_53 hW, Option.bind_some, aI_80 hW hk', Option.bind_some, hR.1 k' hk', en_lt hb', show fM_isIn (mM d s X) (nI i') 0 (nI (bs k')) = _ from M_isIn (k := 0) (hi := bs k') (by omega), Option.bind_some]
        dsimp only
        rw [e4, decide_eq_true (show i' < bs k' + 1 by omega), if_neg (show ¬ bI true = 0 by decide), gR_53 hW, Option.bind_some, aI_80 hW hk, Option.bind_some, hR.1 k hk, en_lt hb, pk_sub (by omega), show fM_isIn (mM d s X) a4 0 (nI (bs k - i)) = _ from M_isIn (k := 0) (hi := bs k - i) (by omega), Option.bind_some]
        dsimp only
        rw [decide_eq_false h, if_pos (show bI false = 0 by decide)]
      by_cases hl : n ≤ bs k' - i'
      · have hg : gShift bs (nI k) (nI i) (nI k') (nI i') (nI n) = true := by
          unfold gShift
          rw [span_n hk hb (by omega), span_n hk' hb' (by omega)]; rfl
        have hl' : nI n ≤ nI (bs k' - i') := by rw [nI_leI (by omega) (by omega)]; exact hl
        rw [hr0 _ (if_pos hg), if_pos hg, e0, e2, cN_nI (show i < 41 by omega) (by decide), cN_nI (show i' < 41 by omega) (by decide), cN_nI (show n < 41 by omega) (by decide)]
        obtain ⟨X1, y1, y2, y3, y4⟩ := M_sh103 (d := d) (s := s) (k := k) (i0 := i) (k' := k') (i' := i') (n := n) (g := fun x => X.1 (79, 0, 0) (40 * k + i + x)) hk (by omega) n 0 xF X hW (by omega) (by unfold xF; omega) (fun _ _ => rfl) (fun x hx => by omega)
        have hW1 : XW X1 := by unfold XW at hW ⊢; rw [y1]; exact hW
        obtain ⟨X2, z1, z2, z3, z4⟩ := M_sh140 (d := d) (s := s) (k' := k') (i' := i') (n := n) (g := fun x => X.1 (79, 0, 0) (40 * k + i + x)) hk' (by omega) n 0 xF X1 hW1 (by omega) (by unfold xF; omega) y3
        refine ⟨X2, z1.trans y1, fun a x h1 h2 => by rw [z2 a x (fun e => h1 e.1), y2 a x h2], ⟨fun j hj => ?_, fun x hx => ?_⟩, ?_⟩
        · rw [z2 _ _ (by simp), y2 _ _ (by simp)]; exact hR.1 j hj
        · unfold bpSh
          by_cases hx2 : 40 * k' + i' ≤ x ∧ x < 40 * k' + i' + n
          · have := z3 (x - (40 * k' + i')) (by omega) (by omega)
            rw [show 40 * k' + i' + (x - (40 * k' + i')) = x by omega] at this
            rw [if_pos hx2, this]
            exact hR.2 _ (by omega)
          · rw [if_neg hx2, z2 _ _ (fun e => hx2 (by omega)), y2 _ _ (by simp)]
            exact hR.2 x hx
        · rw [← z4, ← y4]
          unfold fM_shift
          rw [M_isBin, Option.bind_some]
          dsimp only
          rw [e0, decide_eq_true hk, if_neg (show ¬ bI true = 0 by decide), M_isBin, Option.bind_some]
          dsimp only
          rw [e2, decide_eq_true hk', if_neg (show ¬ bI true = 0 by decide), gR_53 hW, Option.bind_some, aI_80 hW hk, Option.bind_some, hR.1 k hk, en_lt hb, if_neg n1, Option.bind_some, aI_80 hW hk', Option.bind_some, hR.1 k' hk', en_lt hb', if_pos n2, Option.bind_some, aI_80 hW hk, Option.bind_some, hR.1 k hk, en_lt hb, show fM_isIn (mM d s X) (nI i) 0 (nI (bs k)) = _ from M_isIn (k := 0) (hi := bs k) (by omega), Option.bind_some]
          dsimp only
          rw [e3, decide_eq_true (show i < bs k + 1 by omega), if_neg (show ¬ bI true = 0 by decide), gR_53 hW, Option.bind_some, aI_80 hW hk', Option.bind_some, hR.1 k' hk', en_lt hb', show fM_isIn (mM d s X) (nI i') 0 (nI (bs k')) = _ from M_isIn (k := 0) (hi := bs k') (by omega), Option.bind_some]
          dsimp only
          rw [e4, decide_eq_true (show i' < bs k' + 1 by omega), if_neg (show ¬ bI true = 0 by decide), gR_53 hW, Option.bind_some, aI_80 hW hk, Option.bind_some, hR.1 k hk, en_lt hb, pk_sub (by omega), show fM_isIn (mM d s X) (nI n) 0 (nI (bs k - i)) = _ from M_isIn (k := 0) (hi := bs k - i) (by omega), Option.bind_some]
          dsimp only
          rw [e5, decide_eq_true (show n < bs k - i + 1 by omega), if_neg (show ¬ bI true = 0 by decide), gR_53 hW, Option.bind_some, aI_80 hW hk', Option.bind_some, hR.1 k' hk', en_lt hb', pk_sub (by omega)]
          rw [if_pos hl', kl_0]
      · have hg : ¬ gShift bs (nI k) (nI i) (nI k') (nI i') (nI n) = true := fun e => by
          obtain ⟨k1, i1, n1, ek, ei, en, hk1, hi1, hn1, hb1, hs1⟩ := span_v (g1 e).2
          have := inj (by omega) (by omega) ek
          subst this
          have := inj (by omega) (by omega) ei
          subst this
          have := inj (by omega) (by omega) en
          omega
        have hl' : ¬ nI n ≤ nI (bs k' - i') := by rw [nI_leI (by omega) (by omega)]; exact hl
        refine fin _ hg (hr0 _ (if_neg hg)) ?_
        unfold fM_shift
        rw [M_isBin, Option.bind_some]
        dsimp only
        rw [e0, decide_eq_true hk, if_neg (show ¬ bI true = 0 by decide), M_isBin, Option.bind_some]
        dsimp only
        rw [e2, decide_eq_true hk', if_neg (show ¬ bI true = 0 by decide), gR_53 hW, Option.bind_some, aI_80 hW hk, Option.bind_some, hR.1 k hk, en_lt hb, if_neg n1, Option.bind_some, aI_80 hW hk', Option.bind_some, hR.1 k' hk', en_lt hb', if_pos n2, Option.bind_some, aI_80 hW hk, Option.bind_some, hR.1 k hk, en_lt hb, show fM_isIn (mM d s X) (nI i) 0 (nI (bs k)) = _ from M_isIn (k := 0) (hi := bs k) (by omega), Option.bind_some]
        dsimp only
        rw [e3, decide_eq_true (show i < bs k + 1 by omega), if_neg (show ¬ bI true = 0 by decide), gR_53 hW, Option.bind_some, aI_80 hW hk', Option.bind_some, hR.1 k' hk', en_lt hb', show fM_isIn (mM d s X) (nI i') 0 (nI (bs k')) = _ from M_isIn (k := 0) (hi := bs k') (by omega), Option.bind_some]
        dsimp only
        rw [e4, decide_eq_true (show i' < bs k' + 1 by omega), if_neg (show ¬ bI true = 0 by decide), gR_53 hW, Option.bind_some, aI_80 hW hk, Option.bind_some, hR.1 k hk, en_lt hb, pk_sub (by omega), show fM_isIn (mM d s X) (nI n) 0 (nI (bs k - i)) = _ from M_isIn (k := 0) (hi := bs k - i) (by omega), Option.bind_some]
        dsimp only
        rw [e5, decide_eq_true (show n < bs k - i + 1 by omega), if_neg (show ¬ bI true = 0 by decide), gR_53 hW, Option.bind_some, aI_80 hW hk', Option.bind_some, hR.1 k' hk', en_lt hb', pk_sub (by omega)]
        rw [if_neg hl']
    · refine fin (-11) (fun e => hb' (by have := (of_decide_eq_true (g1 e).2).2.1; rw [e2] at this; exact this)) (by unfold rShift; rw [e0, e2, if_pos hk, if_pos hk', if_pos hb, if_neg hb']) ?_
      have n1 : ¬ nI (bs k) < (0 : Int32) := nI_pos (show bs k < 2 ^ 31 by omega)
      unfold fM_shift
      rw [M_isBin, Option.bind_some]
      dsimp only
      rw [e0, decide_eq_true hk, if_neg (show ¬ bI true = 0 by decide), M_isBin, Option.bind_some]
      dsimp only
      rw [e2, decide_eq_true hk', if_neg (show ¬ bI true = 0 by decide), gR_53 hW, Option.bind_some, aI_80 hW hk, Option.bind_some, hR.1 k hk, en_lt hb, if_neg n1, Option.bind_some, aI_80 hW hk', Option.bind_some, hR.1 k' hk', en_ge hb', if_neg (show ¬ (0 : Int32) ≤ -9 by decide)]
  · refine fin (-11) (fun e => hb (by have := (of_decide_eq_true (g1 e).1).2.1; rw [e0] at this; exact this)) (by unfold rShift; rw [e0, e2, if_pos hk, if_pos hk', if_neg hb]) ?_
    unfold fM_shift
    rw [M_isBin, Option.bind_some]
    dsimp only
    rw [e0, decide_eq_true hk, if_neg (show ¬ bI true = 0 by decide), M_isBin, Option.bind_some]
    dsimp only
    rw [e2, decide_eq_true hk', if_neg (show ¬ bI true = 0 by decide), gR_53 hW, Option.bind_some, aI_80 hW hk, Option.bind_some, hR.1 k hk, en_ge hb, if_pos (show (-9 : Int32) < 0 by decide)]
