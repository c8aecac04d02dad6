theorem xe_all (i : Nat) (hi : i < 273) : (xcode i).all (xokE i) = true := sorry
theorem xm_all : ∀ i, i < 272 → plainName (xY i).cls = true → xokM i = true := sorry
