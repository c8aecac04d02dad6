/-! the law's entries, in pieces; the methods' own words -/
theorem xl_0 : (((xcode 272).drop 0).take 80).all (xokE 272) = true := by decide +kernel
theorem xl_1 : (((xcode 272).drop 80).take 80).all (xokE 272) = true := by decide +kernel
theorem xl_2 : (((xcode 272).drop 160).take 80).all (xokE 272) = true := by decide +kernel
theorem xl_3 : (((xcode 272).drop 240).take 80).all (xokE 272) = true := by decide +kernel
theorem xl_4 : (((xcode 272).drop 320).take 80).all (xokE 272) = true := by decide +kernel
theorem xl_5 : (((xcode 272).drop 400).take 80).all (xokE 272) = true := by decide +kernel
theorem xl_6 : (((xcode 272).drop 480).take 80).all (xokE 272) = true := by decide +kernel
theorem xl_7 : (((xcode 272).drop 560).take 80).all (xokE 272) = true := by decide +kernel
theorem xl_8 : (((xcode 272).drop 640).take 80).all (xokE 272) = true := by decide +kernel
theorem xl_9 : (((xcode 272).drop 720).take 80).all (xokE 272) = true := by decide +kernel
theorem xl_10 : (((xcode 272).drop 800).take 80).all (xokE 272) = true := by decide +kernel
theorem xl_11 : (((xcode 272).drop 880).take 80).all (xokE 272) = true := by decide +kernel
theorem xl_all : (xcode 272).all (xokE 272) = true := by
  refine List.all_eq_true.mpr fun q hq => ?_
  obtain ⟨i, hi⟩ := List.getElem?_of_mem hq
  have hlt : i < (xcode 272).length := (List.getElem?_eq_some_iff.mp hi).1
  have h0 : (xcode 272).length = 935 := by decide +kernel
  have go : ∀ k, (((xcode 272).drop (80 * k)).take 80).all (xokE 272) = true → 80 * k ≤ i → i < 80 * k + 80 → xokE 272 q = true := by
    intro k hk h1 h2
    refine List.all_eq_true.mp hk q (List.mem_of_getElem? (i := i - 80 * k) ?_)
    rw [List.getElem?_take_of_lt (by omega), List.getElem?_drop]
    rw [show 80 * k + (i - 80 * k) = i by omega]
    exact hi
  by_cases c0 : i < 80
  · exact go 0 xl_0 (by omega) (by omega)
  by_cases c1 : i < 160
  · exact go 1 xl_1 (by omega) (by omega)
  by_cases c2 : i < 240
  · exact go 2 xl_2 (by omega) (by omega)
  by_cases c3 : i < 320
  · exact go 3 xl_3 (by omega) (by omega)
  by_cases c4 : i < 400
  · exact go 4 xl_4 (by omega) (by omega)
  by_cases c5 : i < 480
  · exact go 5 xl_5 (by omega) (by omega)
  by_cases c6 : i < 560
  · exact go 6 xl_6 (by omega) (by omega)
  by_cases c7 : i < 640
  · exact go 7 xl_7 (by omega) (by omega)
  by_cases c8 : i < 720
  · exact go 8 xl_8 (by omega) (by omega)
  by_cases c9 : i < 800
  · exact go 9 xl_9 (by omega) (by omega)
  by_cases c10 : i < 880
  · exact go 10 xl_10 (by omega) (by omega)
  by_cases c11 : i < 960
  · exact go 11 xl_11 (by omega) (by omega)
  omega
