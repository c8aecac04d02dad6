/-! shift: the model's loops -/
theorem M_sh140 {d : Int32} {s : xS} {k' i' n : Nat} {g : Nat → Int32} (hk' : k' < 4) (h2 : i' + n ≤ 40) : ∀ e i m X, XW X → i + e = n → e < m → (∀ x, x < n → X.1 (81, 0, 0) x = g x) →
    ∃ X' : xMem, X'.2 = X.2 ∧ (∀ a x, ¬ (a = (79, 0, 0) ∧ 40 * k' + i' + i ≤ x ∧ x < 40 * k' + i' + n) → X'.1 a x = X.1 a x) ∧ (∀ x, i ≤ x → x < n → X'.1 (79, 0, 0) (40 * k' + i' + x) = g x) ∧ fM_shift_140 m (mM d s X) (some (44, 0, 0)) (nI k') (nI i') (nI n) (nI i) = some (nI n, mM d s X') := by
  intro e
  induction e with
  | zero =>
    intro i m X hW hie hm hg
    obtain ⟨m, rfl⟩ : ∃ q, m = q + 1 := ⟨m - 1, by omega⟩
    refine ⟨X, rfl, fun _ _ _ => rfl, fun x h1 h2 => by omega, ?_⟩
    have h5 : nI n ≤ nI i := by rw [nI_leI (by omega) (by omega)]; omega
    unfold fM_shift_140
    rw [if_pos h5]
  | succ e ih =>
    intro i m X hW hie hm hg
    obtain ⟨m, rfl⟩ : ∃ q, m = q + 1 := ⟨m - 1, by omega⟩
    have h5 : ¬ nI n ≤ nI i := by rw [nI_leI (by omega) (by omega)]; omega
    have e3 : (40 : Int32) * nI k' + nI i' + nI i = nI (40 * k' + i' + i) := by rw [kl_40, pk_mul, nI_add, nI_add]
    have hW3 : XW (xsi X (79, 0, 0) (40 * k' + i' + i) (g i)) := hW
    obtain ⟨X', y1, y2, y3, y4⟩ := ih (i + 1) m (xsi X (79, 0, 0) (40 * k' + i' + i) (g i)) hW3 (by omega) (by omega) (fun x hx => by rw [xsi_1, if_neg (by simp)]; exact hg x hx)
    refine ⟨X', y1, fun a x ha => ?_, fun x h3 h4 => ?_, ?_⟩
    · rw [y2 a x (fun e => ha ⟨e.1, by omega, e.2.2⟩), xsi_1, if_neg (fun e => ha ⟨e.1, by omega, by omega⟩)]
    · by_cases hx : x = i
      · rw [hx, y2 _ _ (fun e => by omega), xsi_1, if_pos ⟨rfl, rfl⟩]
      · exact y3 x (by omega) h4
    · unfold fM_shift_140
      rw [if_neg h5, gR_52 hW, Option.bind_some, gR_54 hW, Option.bind_some, aI_81 hW (by omega), Option.bind_some, hg i (by omega), e3, uI_79 hW (by omega), Option.bind_some, kl_1, nI_add]
      exact y4
theorem M_sh103 {d : Int32} {s : xS} {k i0 k' i' n : Nat} {g : Nat → Int32} (hk : k < 4) (h1 : i0 + n ≤ 40) : ∀ e i m X, XW X → i + e = n → e < m → (∀ x, x < n → X.1 (79, 0, 0) (40 * k + i0 + x) = g x) → (∀ x, x < i → X.1 (81, 0, 0) x = g x) →
    ∃ X' : xMem, X'.2 = X.2 ∧ (∀ a x, a ≠ (81, 0, 0) → X'.1 a x = X.1 a x) ∧ (∀ x, x < n → X'.1 (81, 0, 0) x = g x) ∧ fM_shift_103 m (mM d s X) (some (44, 0, 0)) (nI k) (nI i0) (nI k') (nI i') (nI n) (nI i) = fM_shift_140 xF (mM d s X') (some (44, 0, 0)) (nI k') (nI i') (nI n) (nI 0) := by
  intro e
  induction e with
  | zero =>
    intro i m X hW hie hm hg hd
    obtain ⟨m, rfl⟩ : ∃ q, m = q + 1 := ⟨m - 1, by omega⟩
    refine ⟨X, rfl, fun _ _ _ => rfl, fun x hx => hd x (by omega), ?_⟩
    have h5 : nI n ≤ nI i := by rw [nI_leI (by omega) (by omega)]; omega
    unfold fM_shift_103
    rw [if_pos h5, kl_0]
  | succ e ih =>
    intro i m X hW hie hm hg hd
    obtain ⟨m, rfl⟩ : ∃ q, m = q + 1 := ⟨m - 1, by omega⟩
    have h5 : ¬ nI n ≤ nI i := by rw [nI_leI (by omega) (by omega)]; omega
    have e3 : (40 : Int32) * nI k + nI i0 + nI i = nI (40 * k + i0 + i) := by rw [kl_40, pk_mul, nI_add, nI_add]
    have hW3 : XW (xsi X (81, 0, 0) i (g i)) := hW
    obtain ⟨X', y1, y2, y3, y4⟩ := ih (i + 1) m (xsi X (81, 0, 0) i (g i)) hW3 (by omega) (by omega) (fun x hx => by rw [xsi_1, if_neg (by simp)]; exact hg x hx) (fun x hx => by
      rw [xsi_1]
      by_cases hxi : x = i
      · rw [if_pos ⟨rfl, hxi⟩, hxi]
      · rw [if_neg (fun e => hxi e.2)]; exact hd x (by omega))
    refine ⟨X', y1, fun a x ha => ?_, y3, ?_⟩
    · rw [y2 a x ha, xsi_1, if_neg (fun e => ha e.1)]
    · unfold fM_shift_103
      rw [if_neg h5, gR_54 hW, Option.bind_some, gR_52 hW, Option.bind_some, e3, aI_79 hW (by omega), Option.bind_some, hg i (by omega), uI_81 hW (by omega), Option.bind_some, kl_1, nI_add]
      exact y4
