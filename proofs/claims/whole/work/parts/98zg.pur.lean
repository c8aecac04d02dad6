/-! the pure half, out of the first state's cells -/
theorem xpure_ZF (h : ZF xI3) (L : Nat) (xs : Nat → Int32) (hL : L ≤ 3072) : ∃ M' : xMem, fL_law_18 L xs xF xI3 (some (0, 0, 0)) (some (44, 0, 0)) 0 = some (1, M') ∧ M'.2.2.2.1 ≤ 600000 ∧ M'.2.2.2.2 ≤ 7302250 := by
  obtain ⟨M', h1, h2⟩ := LOOP (xs := xs) hL L 0 xF xI3 (by omega) (by unfold xF; omega) (LR2_ini h)
  have h340 : xI3.2.2.2.1 = 340 := xI3_W.1
  exact ⟨M', h1, by rw [h2, h340]; decide, by rw [h2]; exact xI3_R.1⟩
