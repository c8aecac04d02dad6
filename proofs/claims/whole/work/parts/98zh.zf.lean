/-! the first state's cells -/
theorem zM_k : ∀ r ∈ zM, (r = (58, 32) ∨ r = (62, 16) ∨ r = (63, 16)) ∨ (zk1 r.1 = false ∧ zk9 r.1 = false ∧ zvM r.1 = 0) := by decide
theorem zN_k {κ i : Nat} (h3 : κ ≠ 3) (hi : i < (zN κ).1) : zk1 κ = false ∧ zk9 κ = false := by
  have h1 : κ ≠ 38 := fun e => by subst e; exact absurd hi (Nat.not_lt_zero _)
  have h2 : κ ≠ 43 := fun e => by subst e; exact absurd hi (Nat.not_lt_zero _)
  have h4 : κ ≠ 58 := fun e => by subst e; exact absurd hi (Nat.not_lt_zero _)
  have h5 : κ ≠ 62 := fun e => by subst e; exact absurd hi (Nat.not_lt_zero _)
  have h6 : κ ≠ 63 := fun e => by subst e; exact absurd hi (Nat.not_lt_zero _)
  have h7 : κ ≠ 71 := fun e => by subst e; exact absurd hi (Nat.not_lt_zero _)
  have h8 : κ ≠ 80 := fun e => by subst e; exact absurd hi (Nat.not_lt_zero _)
  unfold zk1 zk9
  rw [beq_false_of_ne h1, beq_false_of_ne h2, beq_false_of_ne h3, beq_false_of_ne h4, beq_false_of_ne h5, beq_false_of_ne h6, beq_false_of_ne h7, beq_false_of_ne h8]
  exact ⟨rfl, rfl⟩
theorem zv_58 : zvM 58 = -9 := by decide
theorem zv_62 : zvM 62 = -9 := by decide
theorem zv_63 : zvM 63 = -9 := by decide
theorem ZF_ini : ZF xI3 := by
  refine ⟨fun b κ i k hb hi hk => ?_, fun b κ i k _ _ => z_l _ _, fun r hr k hk => ?_, fun k _ => z_0 rfl rfl, fun k _ => z_l _ _, fun k _ => z_0 rfl rfl, fun k hk => ⟨z_38 hk, z_71 hk⟩, fun k _ => (z_0 rfl rfl).trans (z_0 rfl rfl).symm, fun k hk => ⟨z_43 hk, z_80 hk⟩, fun i k _ _ => z_0 rfl rfl, fun k _ => z_0 rfl rfl⟩
  · by_cases h3 : κ = 3
    · subst h3
      have hi : i < 1 := hi
      have hk : k < 32 := hk
      obtain rfl : i = 0 := by omega
      rw [if_pos rfl]
      exact z_3 hb hk
    · rw [if_neg h3]
      have h := zN_k h3 hi
      exact z_0 h.1 h.2
  · rcases zM_k r hr with (e | e | e) | h
    · subst e; dsimp only at hk ⊢; rw [zv_58]; exact z_58 hk
    · subst e; dsimp only at hk ⊢; rw [zv_62]; exact z_62 hk
    · subst e; dsimp only at hk ⊢; rw [zv_63]; exact z_63 hk
    · rw [h.2.2]; exact z_0 h.1 h.2.1
