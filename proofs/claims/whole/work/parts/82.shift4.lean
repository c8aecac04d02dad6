theorem RBc.shift {bs bp : Nat → Nat} {k i k' i' n : Nat} {M : xMem} (h : RBc bs bp M) (hk : k < 4) (hk' : k' < 4) (h1 : i + n ≤ 40) (h2 : i' + n ≤ 40) : RBc bs (bpSh bp (40 * k + i) (40 * k' + i') n) (cSh k i k' i' n M) := by
  refine ⟨fun j hj => ?_, fun r x hr hx => ?_⟩
  · unfold cSh
    rw [xsri_1, if_neg (by simp)]; exact h.1 j hj
  · unfold cSh bpSh
    rw [xsri_1]
    by_cases hrk : r = k'
    · subst hrk
      rw [if_pos rfl]
      show (if i' ≤ x ∧ x < i' + n then M.1 (42, 0, k) (i + (x - i')) else M.1 (42, 0, r) x) = _
      by_cases hx2 : i' ≤ x ∧ x < i' + n
      · rw [if_pos hx2, if_pos (by omega), h.2 k _ hk (by omega), show 40 * k + (i + (x - i')) = 40 * k + i + (40 * r + x - (40 * r + i')) by omega]
      · rw [if_neg hx2, if_neg (by omega)]; exact h.2 r x hr hx
    · rw [if_neg (fun e => hrk (Prod.mk.inj (Prod.mk.inj e).2).2), if_neg (by omega)]; exact h.2 r x hr hx
