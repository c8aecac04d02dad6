/-! shift: the class's call -/
def gShift (bs : Nat → Nat) (a0 a1 a2 a3 a4 : Int32) : Bool := spanB bs a0 a1 a4 && spanB bs a2 a3 a4
def rShift (bs : Nat → Nat) (a0 a1 a2 a3 a4 : Int32) : Int32 := if cN 4 a0 < 4 then (if cN 4 a2 < 4 then (if bs (cN 4 a0) < 41 then (if bs (cN 4 a2) < 41 then (if gShift bs a0 a1 a2 a3 a4 = true then a4 else -13) else -11) else -11) else -1) else -1
def bpSh (bp : Nat → Nat) (S D n x : Nat) : Nat := if D ≤ x ∧ x < D + n then bp (S + (x - D)) else bp x
def cSh (k i k' i' n : Nat) (M : xMem) : xMem := xsri M (42, 0, k') (va_cpy (M.1 (42, 0, k)) (M.1 (42, 0, k')) i i' n)
theorem D_move {M : xMem} {bs bp : Nat → Nat} {k i k' i' n : Nat} (hW : XW M) (hR : RBc bs bp M) (hk : k < 4) (hk' : k' < 4) (h1 : spanB bs (nI k) (nI i) (nI n) = true) (h2 : spanB bs (nI k') (nI i') (nI n) = true) (hi : i < 41) (hi' : i' < 41) (hn : n < 41) :
    fB_move M (40, 0, 0) (nI k) (nI i) (nI k') (nI i') (nI n) = some (cSh k i k' i' n M) := by
  have e1 := (of_decide_eq_true h1).2
  have e2 := (of_decide_eq_true h2).2
  rw [cN_nI hk (by decide), cN_nI hi (by decide), cN_nI hn (by decide)] at e1
  rw [cN_nI hk' (by decide), cN_nI hi' (by decide), cN_nI hn (by decide)] at e2
  unfold fB_move cSh
  rw [bO_40 hW, Option.bind_some, D_hasSpan hW hR, Option.bind_some, h1]
  dsimp only
  rw [if_neg (show ¬ bI true = 0 by decide), bO_40 hW, Option.bind_some, D_hasSpan hW hR, Option.bind_some, h2]
  dsimp only
  rw [if_neg (show ¬ bI true = 0 by decide), bR_0 hW, Option.bind_some, bA_41 hW hk, Option.bind_some, Option.bind_some, bA_41 hW hk', Option.bind_some, xcpy_w hW (sh_42 hk) (sh_42 hk') (by omega) (by omega) (by decide) (by decide), Option.bind_some]
theorem span_v {bs : Nat → Nat} {a0 a1 a4 : Int32} (h : spanB bs a0 a1 a4 = true) : ∃ k i n, a0 = nI k ∧ a1 = nI i ∧ a4 = nI n ∧ k < 4 ∧ i < 41 ∧ n < 41 ∧ bs k < 41 ∧ i + n ≤ bs k := by
  obtain ⟨h0, h1, h2⟩ := of_decide_eq_true h
  rcases ge_cases 4 a0 (by decide) with ⟨h', -⟩ | ⟨k, hk, rfl, e⟩
  · exact absurd h0 h'
  · rw [e] at h1 h2
    rcases rg_cases 40 a1 (by decide) with ⟨h3, -⟩ | ⟨i, hi, rfl, e1⟩
    · have h3' : ¬ cN 41 a1 < 41 := h3
      omega
    · rcases rg_cases 40 a4 (by decide) with ⟨h3, -⟩ | ⟨n, hn, rfl, e2⟩
      · have h3' : ¬ cN 41 a4 < 41 := h3
        omega
      · have e1' : cN 41 (nI i) = i := e1
        have e2' : cN 41 (nI n) = n := e2
        exact ⟨k, i, n, rfl, rfl, rfl, hk, by omega, by omega, h1, by omega⟩
theorem C_shift {M : xMem} {bs bp : Nat → Nat} {a0 a1 a2 a3 a4 : Int32} (hW : XW M) (hR : RBc bs bp M) : fX_shift M (0, 0, 0) a0 a1 a2 a3 a4 = some (rShift bs a0 a1 a2 a3 a4, if gShift bs a0 a1 a2 a3 a4 = true then cSh (cN 4 a0) (cN 41 a1) (cN 4 a2) (cN 41 a3) (cN 41 a4) M else M) := by
  have hno : ∀ (p : Prop), (gShift bs a0 a1 a2 a3 a4 = true → p) → ¬ p → (if gShift bs a0 a1 a2 a3 a4 = true then cSh (cN 4 a0) (cN 41 a1) (cN 4 a2) (cN 41 a3) (cN 41 a4) M else M) = M := fun p h hp => if_neg (fun e => hp (h e))
  have g1 : gShift bs a0 a1 a2 a3 a4 = true → spanB bs a0 a1 a4 = true ∧ spanB bs a2 a3 a4 = true := fun e => by
    unfold gShift at e; exact Bool.and_eq_true_iff.mp e
  unfold fX_shift rShift
  rw [bR_14 hW, Option.bind_some, bO_40 hW, Option.bind_some, D_isNumber, Option.bind_some]
  dsimp only
  by_cases h : cN 4 a0 < 4
  · rw [decide_eq_true h, if_neg (show ¬ bI true = 0 by decide), if_pos h, bR_14 hW, Option.bind_some, bO_40 hW, Option.bind_some, D_isNumber, Option.bind_some]
    dsimp only
    by_cases h' : cN 4 a2 < 4
    · rw [decide_eq_true h', if_neg (show ¬ bI true = 0 by decide), if_pos h', bR_14 hW, Option.bind_some, bO_40 hW, Option.bind_some, D_isMissing hW hR, Option.bind_some]
      dsimp only
      by_cases h1 : bs (cN 4 a0) < 41
      · rw [decide_eq_true (show cN 4 a0 < 4 ∧ bs (cN 4 a0) < 41 from ⟨h, h1⟩), if_pos (show bI (!true) = 0 by decide), if_pos h1, bR_14 hW, Option.bind_some, bO_40 hW, Option.bind_some, D_isMissing hW hR, Option.bind_some]
        dsimp only
        by_cases h1' : bs (cN 4 a2) < 41
        · rw [decide_eq_true (show cN 4 a2 < 4 ∧ bs (cN 4 a2) < 41 from ⟨h', h1'⟩), if_pos (show bI (!true) = 0 by decide), if_pos h1', bR_14 hW, Option.bind_some, bO_40 hW, Option.bind_some, D_hasSpan hW hR, Option.bind_some]
          dsimp only
          by_cases s1 : spanB bs a0 a1 a4 = true
          · rw [s1, if_neg (show ¬ bI true = 0 by decide), bR_14 hW, Option.bind_some, bO_40 hW, Option.bind_some, D_hasSpan hW hR, Option.bind_some]
            dsimp only
            by_cases s2 : spanB bs a2 a3 a4 = true
            · have hg : gShift bs a0 a1 a2 a3 a4 = true := by unfold gShift; rw [s1, s2]; rfl
              obtain ⟨k, i, n, rfl, rfl, rfl, hk, hi, hn, -, -⟩ := span_v s1
              obtain ⟨k', i', n', rfl, rfl, en', hk', hi', -, -, -⟩ := span_v s2
              rw [s2, if_neg (show ¬ bI true = 0 by decide), bR_14 hW, Option.bind_some, bO_40 hW, Option.bind_some, D_move hW hR hk hk' s1 s2 hi hi' hn, Option.bind_some, if_pos hg, if_pos hg, cN_nI hk (by decide), cN_nI hk' (by decide), cN_nI hi (by decide), cN_nI hi' (by decide), cN_nI hn (by decide)]
            · rw [Bool.eq_false_iff.mpr s2, if_pos (show bI false = 0 by decide), hno _ (fun e => (g1 e).2) s2, if_neg (fun e => s2 (g1 e).2)]
          · rw [Bool.eq_false_iff.mpr s1, if_pos (show bI false = 0 by decide), hno _ (fun e => (g1 e).1) s1, if_neg (fun e => s1 (g1 e).1)]
        · rw [decide_eq_false (show ¬ (cN 4 a2 < 4 ∧ bs (cN 4 a2) < 41) from fun e => h1' e.2), if_neg (show ¬ bI (!false) = 0 by decide), if_neg h1', hno _ (fun e => (of_decide_eq_true (g1 e).2).2.1) h1']
      · rw [decide_eq_false (show ¬ (cN 4 a0 < 4 ∧ bs (cN 4 a0) < 41) from fun e => h1 e.2), if_neg (show ¬ bI (!false) = 0 by decide), if_neg h1, hno _ (fun e => (of_decide_eq_true (g1 e).1).2.1) h1]
    · rw [decide_eq_false h', if_pos (show bI false = 0 by decide), if_neg h', hno _ (fun e => (of_decide_eq_true (g1 e).2).1) h']
  · rw [decide_eq_false h, if_pos (show bI false = 0 by decide), if_neg h, hno _ (fun e => (of_decide_eq_true (g1 e).1).1) h]
