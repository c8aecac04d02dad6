/-! a state's memory, told by its cells -/
theorem mM_abs {d : Int32} {s : xS} {M : xMem} (h1 : ∀ κ q B t k, mL κ = some (q, B, t) → k < B → M.1 (κ, 0, 0) k = me t (s.1 q k)) (h2 : ∀ k, k < 1984 → M.1 (61, 0, 0) k = s.2.1 k) (h13 : M.1 (44, 0, 0) 13 = nI (s.1 19 0)) (h14 : M.1 (44, 0, 0) 14 = nI (s.1 19 1)) (h15 : M.1 (44, 0, 0) 15 = nI (s.1 19 2) + d) (h57 : ∀ k, k < 4 → M.2.1 (57, 0, 0) k = s.2.2 k) : mM d s M = M := by
  refine Prod.ext ?_ (Prod.ext ?_ rfl)
  · funext a k
    obtain ⟨κ, p1, p2⟩ := a
    show (if (p1, p2) = (0, 0) then if κ = 44 then (if k = 13 then _ else if k = 14 then _ else if k = 15 then _ else _) else if κ = 61 then (if k < 1984 then _ else _) else (match mL κ with | some (q, B, t) => if k < B then me t (s.1 q k) else M.1 (κ, p1, p2) k | none => M.1 (κ, p1, p2) k) else M.1 (κ, p1, p2) k) = M.1 (κ, p1, p2) k
    by_cases hp : (p1, p2) = (0, 0)
    · rw [if_pos hp]
      obtain ⟨rfl, rfl⟩ := Prod.mk.inj hp
      by_cases h44 : κ = 44
      · subst h44
        rw [if_pos rfl]
        by_cases a1 : k = 13
        · subst a1; rw [if_pos rfl]; exact h13.symm
        · rw [if_neg a1]
          by_cases a2 : k = 14
          · subst a2; rw [if_pos rfl]; exact h14.symm
          · rw [if_neg a2]
            by_cases a3 : k = 15
            · subst a3; rw [if_pos rfl]; exact h15.symm
            · rw [if_neg a3]
      · rw [if_neg h44]
        by_cases h61 : κ = 61
        · subst h61
          rw [if_pos rfl]
          by_cases a1 : k < 1984
          · rw [if_pos a1]; exact (h2 k a1).symm
          · rw [if_neg a1]
        · rw [if_neg h61]
          cases hm : mL κ with
          | none => rfl
          | some r =>
            obtain ⟨q, B, t⟩ := r
            show (if k < B then me t (s.1 q k) else M.1 (κ, 0, 0) k) = _
            by_cases a1 : k < B
            · rw [if_pos a1]; exact (h1 κ q B t k hm a1).symm
            · rw [if_neg a1]
    · rw [if_neg hp]
  · funext a k
    show (if a = (57, 0, 0) ∧ k < 4 then s.2.2 k else M.2.1 a k) = _
    by_cases h : a = (57, 0, 0) ∧ k < 4
    · rw [if_pos h, h.1, h57 k h.2]
    · rw [if_neg h]
theorem mL_LK : ∀ r ∈ mQ, (r.1, r.2.2.1) ∈ LK := by decide
/-- cells that two memories share are a state's in both -/
theorem mM_of {d d' : Int32} {s : xS} {X R : xMem} (h1 : ∀ r, r ∈ LK → ∀ x, x < r.2 → R.1 (r.1, 0, 0) x = (mM d s X).1 (r.1, 0, 0) x) (h13 : R.1 (44, 0, 0) 13 = (mM d s X).1 (44, 0, 0) 13) (h14 : R.1 (44, 0, 0) 14 = (mM d s X).1 (44, 0, 0) 14) (h15 : R.1 (44, 0, 0) 15 = nI (s.1 19 2) + d') (h57 : ∀ c, c < 4 → R.2.1 (57, 0, 0) c = (mM d s X).2.1 (57, 0, 0) c) : mM d' s R = R :=
  mM_abs (fun κ q B t k hm hk => by
      have := h1 _ (mL_LK _ (mL_mem hm)) k hk
      rw [this]; exact mM_rd hm hk) (fun k hk => by
      rw [h1 (61, 1984) (by decide) k hk]; exact mM_rW hk) (by rw [h13]; rfl) (by rw [h14]; rfl) h15 (fun k hk => by rw [h57 k hk]; exact mM_rT hk)
