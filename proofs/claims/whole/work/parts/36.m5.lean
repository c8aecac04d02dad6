/-! the model's unmakings and intervals -/
theorem WR0_c {s t : xS} (h : ∀ q, (q = 19 ∨ q = 0 ∨ q = 1 ∨ q = 2 ∨ q = 10 ∨ q = 14 ∨ q = 13 ∨ q = 21) → t.1 q = s.1 q) (h4 : ∀ c, c < s.1 19 0 → 1 ≤ t.1 4 c ∧ t.1 4 c ≤ 8) (h20 : ∀ m, m < 24 → t.1 20 m ≤ s.1 20 m)
    (hf : ∀ c, c < s.1 19 0 → t.1 22 c ≤ 24 ∧ t.1 24 c ≤ 24 ∧ ∀ k, (k < t.1 22 c → t.1 23 (24 * c + k) < 24) ∧ (k < t.1 24 c → t.1 25 (24 * c + k) < 24)) (hR : WR0 s) : WR0 t := by
  have e19 := h 19 (by simp)
  have eP : qPer t = qPer s := by funext c; unfold qPer; rw [h 1 (by simp)]
  refine ⟨by rw [e19]; exact hR.n, ?_, ?_, ?_, ?_⟩
  · intro c hc
    rw [e19] at hc
    have h1 := hR.c hc
    have h2 := h4 c hc
    have h3 := hf c hc
    rw [h 0 (by simp), h 1 (by simp), h 2 (by simp), h 10 (by simp), eP]
    exact ⟨h1.1, h1.2.1, h1.2.2.1, h1.2.2.2.1, h2.1, h2.2, h1.2.2.2.2.2.2.1, h3.1, h3.2.1⟩
  · intro p hp
    rw [h 13 (by simp), h 14 (by simp), h 1 (by simp), e19, eP]
    exact hR.p hp
  · intro m hm
    have h1 := hR.m hm
    have h2 := h20 m hm
    rw [h 13 (by simp), h 21 (by simp), e19]
    exact ⟨by omega, fun k hk => h1.2 k (by omega)⟩
  · intro c hc
    rw [e19] at hc
    exact (hf c hc).2.2
theorem WR0.fe {s : xS} (hR : WR0 s) : ∀ c, c < s.1 19 0 → s.1 22 c ≤ 24 ∧ s.1 24 c ≤ 24 ∧ ∀ k, (k < s.1 22 c → s.1 23 (24 * c + k) < 24) ∧ (k < s.1 24 c → s.1 25 (24 * c + k) < 24) := fun c hc => ⟨(hR.c hc).2.2.2.2.2.2.2.1, (hR.c hc).2.2.2.2.2.2.2.2, fun _ => ⟨hR.f hc, hR.e hc⟩⟩
theorem sEnd_1 {s : xS} {b q : Nat} (h1 : q ≠ 17) (h2 : q ≠ 12) : (sEnd s b).1 q = s.1 q := by
  funext i
  unfold sEnd
  rw [sA_1, if_neg (fun e => h2 e.1), sA_1, if_neg (fun e => h1 e.1), sT_1]
def sEmL (s : xS) (m : Nat) : Nat → Nat → xS
  | 0, _ => s
  | d + 1, k => sEmL (sEnd s (s.1 21 (8 * m + k))) m d (k + 1)
theorem sEmL_1 {m : Nat} : ∀ {d k : Nat} {s : xS} {q : Nat}, q ≠ 17 → q ≠ 12 → (sEmL s m d k).1 q = s.1 q := by
  intro d
  induction d with
  | zero => intro k s q _ _; rfl
  | succ d ih => intro k s q h1 h2; unfold sEmL; rw [ih h1 h2, sEnd_1 h1 h2]
def sEmp (s : xS) (m : Nat) : xS := if m < 24 then sA (sA (sEmL s m (s.1 20 m) 0) 20 m 0) 18 m 0 else s
theorem sEmp_1 {s : xS} {m q : Nat} (h1 : q ≠ 17) (h2 : q ≠ 12) (h3 : q ≠ 20) (h4 : q ≠ 18) : (sEmp s m).1 q = s.1 q := by
  unfold sEmp
  split
  · funext i; rw [sA_1, if_neg (fun e => h4 e.1), sA_1, if_neg (fun e => h3 e.1), sEmL_1 h1 h2]
  · rfl
theorem sEmp_20 {s : xS} {m i : Nat} : (sEmp s m).1 20 i = if i = m ∧ m < 24 then 0 else s.1 20 i := by
  unfold sEmp
  split
  next h =>
    rw [sA_1, if_neg (by simp), sA_1, sEmL_1 (by simp) (by simp)]
    by_cases h1 : i = m
    · rw [if_pos ⟨rfl, h1⟩, if_pos ⟨h1, h⟩]
    · rw [if_neg (fun e => h1 e.2), if_neg (fun e => h1 e.1)]
  next h => rw [if_neg (fun e => h e.2)]
theorem WR0.emp {s : xS} (hR : WR0 s) (m : Nat) : WR0 (sEmp s m) := by
  refine WR0_c (fun q hq => sEmp_1 (by omega) (by omega) (by omega) (by omega)) (fun c hc => ?_) (fun i hi => ?_) (fun c hc => ?_) hR
  · rw [sEmp_1 (by simp) (by simp) (by simp) (by simp)]; have := hR.c hc; omega
  · rw [sEmp_20]; split <;> omega
  · rw [sEmp_1 (q := 22) (by simp) (by simp) (by simp) (by simp), sEmp_1 (q := 23) (by simp) (by simp) (by simp) (by simp), sEmp_1 (q := 24) (by simp) (by simp) (by simp) (by simp), sEmp_1 (q := 25) (by simp) (by simp) (by simp) (by simp)]
    exact hR.fe c hc
def qLen (s : xS) (m : Nat) : Nat := if m < 24 then s.1 20 m else 0
theorem M_empties {d : Int32} {s : xS} {X : xMem} {m : Nat} (hW : XW X) (hR : WR0 s) : fM_empties (mM d s X) (44, 0, 0) (en 24 (-9) m) = some (nI (qLen s m), mM d (sEmp s m) X) := by
  unfold fM_empties qLen sEmp
  by_cases h : m < 24
  · have hl := hR.m h
    have hn := hR.n
    have key : ∀ e i n t, i + e = s.1 20 m → e < n → (∀ q, q ≠ 17 → q ≠ 12 → t.1 q = s.1 q) → fM_empties_15 n (mM d t X) (some (44, 0, 0)) (nI m) (nI (s.1 20 m)) (nI i) = some (nI (s.1 20 m), mM d (sA (sA (sEmL t m e i) 20 m 0) 18 m 0) X) := by
      intro e
      induction e with
      | zero =>
        intro i n t hi hn ht
        obtain ⟨n, rfl⟩ : ∃ m, n = m + 1 := ⟨n - 1, by omega⟩
        have h5 : s.1 20 m ≤ i := by omega
        simp (disch := first | assumption | omega | decide | with_unfolding_all exact hW) only [fM_empties_15, kl_0, kl_1, kl_2, kl_3, kl_4, kl_5, kl_6, kl_7, kl_8, kl_10, kl_13, kl_14, kl_15, kl_16, kl_24, kl_25, kl_26, kl_31, kl_32, kl_36, kl_40, kl_62, kl_99, kl_100, kl_255, kl_400, kl_992, kl_1023, kl_1024, kl_1984, kl_9200, kl_4600, kl_48, kl_57, kl_97, kl_122, kl_32767, nI_add, pk_mul, nI_leI, h5, if_true]
        simp (disch := first | assumption | omega | decide | with_unfolding_all exact hW) only [↓gR_0b, ↓gR_1b, ↓gR_2b, ↓gR_3b, ↓gR_4b, ↓gR_5b, ↓gR_6b, ↓gR_7b, ↓gR_8b, ↓gR_9b, ↓gR_10b, ↓gR_11b, ↓gR_12b, ↓gR_16b, ↓gR_17b, ↓gR_18b, ↓gR_19b, ↓gR_20b, ↓gR_21b, ↓gR_22b, ↓gR_23b, ↓gR_24b, ↓gR_25b, ↓gR_26b, ↓gR_27b, ↓gR_28b, ↓gR_29b, ↓gR_30b, ↓gR_31b, ↓gR_35b, ↓gR_38b, ↓gR_39b, ↓gR_40b, ↓gR_41b, ↓gR_52b, ↓gR_53b, ↓gR_54b, ↓aI_45b, ↓uI_45b, ↓aI_46b, ↓uI_46b, ↓aI_47b, ↓uI_47b, ↓aI_48b, ↓uI_48b, ↓aI_49b, ↓uI_49b, ↓aI_50b, ↓uI_50b, ↓aI_51b, ↓uI_51b, ↓aI_52b, ↓uI_52b, ↓aI_53b, ↓uI_53b, ↓aI_54b, ↓uI_54b, ↓aI_55b, ↓uI_55b, ↓aI_56b, ↓uI_56b, ↓aI_58b, ↓uI_58b, ↓uN_58b, ↓uM_58b, ↓aI_59b, ↓uI_59b, ↓aI_60b, ↓uI_60b, ↓aI_62b, ↓uI_62b, ↓uN_62b, ↓uM_62b, ↓aI_63b, ↓uI_63b, ↓uN_63b, ↓uM_63b, ↓aI_64b, ↓uI_64b, ↓aI_65b, ↓uI_65b, ↓aI_66b, ↓uI_66b, ↓aI_67b, ↓uI_67b, ↓aI_68b, ↓uI_68b, ↓aI_69b, ↓uI_69b, ↓aI_70b, ↓uI_70b, ↓aI_61b, ↓uI_61b, ↓aL_57b, ↓uL_57b, ↓aI_71b, ↓uI_71b, ↓aI_72b, ↓uI_72b, ↓aI_74b, ↓uI_74b, ↓aI_75b, ↓uI_75b, ↓aI_76b, ↓uI_76b, ↓aI_77b, ↓uI_77b, ↓aI_78b, ↓uI_78b, ↓aI_79b, ↓uI_79b, ↓aI_80b, ↓uI_80b, ↓aI_81b, ↓uI_81b, ↓gI_13b, ↓pI_13b, ↓gI_14b, ↓pI_14b, ↓gI_15b, ↓pI_15b, ↓gI_32b, ↓pI_32b, ↓gI_33b, ↓pI_33b, ↓gI_34b, ↓pI_34b, ↓gI_36b, ↓pI_36b, ↓gI_37b, ↓pI_37b, ↓gI_42b, ↓pI_42b, ↓gI_43b, ↓pI_43b, ↓gI_44b, ↓pI_44b, ↓gI_45b, ↓pI_45b, ↓gI_46b, ↓pI_46b, ↓gI_47b, ↓pI_47b, ↓gI_48b, ↓pI_48b, ↓gI_49b, ↓pI_49b, ↓gI_50b, ↓pI_50b, ↓gI_51b, ↓pI_51b, ↓pZ_32b, ↓pZ_33b, ↓pZ_46b, ↓xob_44b, ↓Option.bind_some, xob_44, gR_0, gR_1, gR_2, gR_3, gR_4, gR_5, gR_6, gR_7, gR_8, gR_9, gR_10, gR_11, gR_12, gR_16, gR_17, gR_18, gR_19, gR_20, gR_21, gR_22, gR_23, gR_24, gR_25, gR_26, gR_27, gR_28, gR_29, gR_30, gR_31, gR_35, gR_38, gR_39, gR_40, gR_41, gR_52, gR_53, gR_54, aI_45, aI_46, aI_47, aI_48, aI_49, aI_50, aI_51, aI_52, aI_53, aI_54, aI_55, aI_56, aI_58, aI_59, aI_60, aI_62, aI_63, aI_64, aI_65, aI_66, aI_67, aI_68, aI_69, aI_70, aI_61, aL_57, aI_71, aI_72, aI_74, aI_75, aI_76, aI_77, aI_78, aI_79, aI_80, aI_81, uI_45, uI_46, uI_47, uI_48, uI_49, uI_50, uI_51, uI_52, uI_53, uI_54, uI_55, uI_56, uI_58, uN_58, uM_58, uI_59, uI_60, uI_62, uN_62, uM_62, uI_63, uN_63, uM_63, uI_64, uI_65, uI_66, uI_67, uI_68, uI_69, uI_70, uI_61, uL_57, uI_71, uI_72, uI_74, uI_75, uI_76, uI_77, uI_78, uI_79, uI_80, uI_81, gI_13, gI_14, gI_15, gI_32, gI_33, gI_34, gI_36, gI_37, gI_42, gI_43, gI_44, gI_45, gI_46, gI_47, gI_48, gI_49, gI_50, gI_51, pI_13, pI_14, pI_15, pI_32, pI_33, pI_34, pI_36, pI_37, pI_42, pI_43, pI_44, pI_45, pI_46, pI_47, pI_48, pI_49, pI_50, pI_51, pZ_32, pZ_33, pZ_46, Option.bind_some, kl_0, kl_1, kl_2, kl_3, kl_4, kl_5, kl_6, kl_7, kl_8, kl_10, kl_13, kl_14, kl_15, kl_16, kl_24, kl_25, kl_26, kl_31, kl_32, kl_36, kl_40, kl_62, kl_99, kl_100, kl_255, kl_400, kl_992, kl_1023, kl_1024, kl_1984, kl_9200, kl_4600, kl_48, kl_57, kl_97, kl_122, kl_32767, nI_add, pk_mul, sEmL]
      | succ e ih =>
        intro i n t hi hn ht
        obtain ⟨n, rfl⟩ : ∃ m, n = m + 1 := ⟨n - 1, by omega⟩
        have h5 : ¬ s.1 20 m ≤ i := by omega
        have h6 := hl.2 i (by omega)
        have h7 := hR.c h6.2
        rw [← ht 21 (by simp) (by simp), ← ht 13 (by simp) (by simp)] at h6
        simp (disch := first | assumption | omega | decide | with_unfolding_all exact hW) only [fM_empties_15, kl_0, kl_1, kl_2, kl_3, kl_4, kl_5, kl_6, kl_7, kl_8, kl_10, kl_13, kl_14, kl_15, kl_16, kl_24, kl_25, kl_26, kl_31, kl_32, kl_36, kl_40, kl_62, kl_99, kl_100, kl_255, kl_400, kl_992, kl_1023, kl_1024, kl_1984, kl_9200, kl_4600, kl_48, kl_57, kl_97, kl_122, kl_32767, nI_add, pk_mul, nI_leI, h5, if_false]
        simp (disch := first | assumption | omega | decide | with_unfolding_all exact hW) only [↓gR_0b, ↓gR_1b, ↓gR_2b, ↓gR_3b, ↓gR_4b, ↓gR_5b, ↓gR_6b, ↓gR_7b, ↓gR_8b, ↓gR_9b, ↓gR_10b, ↓gR_11b, ↓gR_12b, ↓gR_16b, ↓gR_17b, ↓gR_18b, ↓gR_19b, ↓gR_20b, ↓gR_21b, ↓gR_22b, ↓gR_23b, ↓gR_24b, ↓gR_25b, ↓gR_26b, ↓gR_27b, ↓gR_28b, ↓gR_29b, ↓gR_30b, ↓gR_31b, ↓gR_35b, ↓gR_38b, ↓gR_39b, ↓gR_40b, ↓gR_41b, ↓gR_52b, ↓gR_53b, ↓gR_54b, ↓aI_45b, ↓uI_45b, ↓aI_46b, ↓uI_46b, ↓aI_47b, ↓uI_47b, ↓aI_48b, ↓uI_48b, ↓aI_49b, ↓uI_49b, ↓aI_50b, ↓uI_50b, ↓aI_51b, ↓uI_51b, ↓aI_52b, ↓uI_52b, ↓aI_53b, ↓uI_53b, ↓aI_54b, ↓uI_54b, ↓aI_55b, ↓uI_55b, ↓aI_56b, ↓uI_56b, ↓aI_58b, ↓uI_58b, ↓uN_58b, ↓uM_58b, ↓aI_59b, ↓uI_59b, ↓aI_60b, ↓uI_60b, ↓aI_62b, ↓uI_62b, ↓uN_62b, ↓uM_62b, ↓aI_63b, ↓uI_63b, ↓uN_63b, ↓uM_63b, ↓aI_64b, ↓uI_64b, ↓aI_65b, ↓uI_65b, ↓aI_66b, ↓uI_66b, ↓aI_67b, ↓uI_67b, ↓aI_68b, ↓uI_68b, ↓aI_69b, ↓uI_69b, ↓aI_70b, ↓uI_70b, ↓aI_61b, ↓uI_61b, ↓aL_57b, ↓uL_57b, ↓aI_71b, ↓uI_71b, ↓aI_72b, ↓uI_72b, ↓aI_74b, ↓uI_74b, ↓aI_75b, ↓uI_75b, ↓aI_76b, ↓uI_76b, ↓aI_77b, ↓uI_77b, ↓aI_78b, ↓uI_78b, ↓aI_79b, ↓uI_79b, ↓aI_80b, ↓uI_80b, ↓aI_81b, ↓uI_81b, ↓gI_13b, ↓pI_13b, ↓gI_14b, ↓pI_14b, ↓gI_15b, ↓pI_15b, ↓gI_32b, ↓pI_32b, ↓gI_33b, ↓pI_33b, ↓gI_34b, ↓pI_34b, ↓gI_36b, ↓pI_36b, ↓gI_37b, ↓pI_37b, ↓gI_42b, ↓pI_42b, ↓gI_43b, ↓pI_43b, ↓gI_44b, ↓pI_44b, ↓gI_45b, ↓pI_45b, ↓gI_46b, ↓pI_46b, ↓gI_47b, ↓pI_47b, ↓gI_48b, ↓pI_48b, ↓gI_49b, ↓pI_49b, ↓gI_50b, ↓pI_50b, ↓gI_51b, ↓pI_51b, ↓pZ_32b, ↓pZ_33b, ↓pZ_46b, ↓xob_44b, ↓Option.bind_some, xob_44, gR_0, gR_1, gR_2, gR_3, gR_4, gR_5, gR_6, gR_7, gR_8, gR_9, gR_10, gR_11, gR_12, gR_16, gR_17, gR_18, gR_19, gR_20, gR_21, gR_22, gR_23, gR_24, gR_25, gR_26, gR_27, gR_28, gR_29, gR_30, gR_31, gR_35, gR_38, gR_39, gR_40, gR_41, gR_52, gR_53, gR_54, aI_45, aI_46, aI_47, aI_48, aI_49, aI_50, aI_51, aI_52, aI_53, aI_54, aI_55, aI_56, aI_58, aI_59, aI_60, aI_62, aI_63, aI_64, aI_65, aI_66, aI_67, aI_68, aI_69, aI_70, aI_61, aL_57, aI_71, aI_72, aI_74, aI_75, aI_76, aI_77, aI_78, aI_79, aI_80, aI_81, uI_45, uI_46, uI_47, uI_48, uI_49, uI_50, uI_51, uI_52, uI_53, uI_54, uI_55, uI_56, uI_58, uN_58, uM_58, uI_59, uI_60, uI_62, uN_62, uM_62, uI_63, uN_63, uM_63, uI_64, uI_65, uI_66, uI_67, uI_68, uI_69, uI_70, uI_61, uL_57, uI_71, uI_72, uI_74, uI_75, uI_76, uI_77, uI_78, uI_79, uI_80, uI_81, gI_13, gI_14, gI_15, gI_32, gI_33, gI_34, gI_36, gI_37, gI_42, gI_43, gI_44, gI_45, gI_46, gI_47, gI_48, gI_49, gI_50, gI_51, pI_13, pI_14, pI_15, pI_32, pI_33, pI_34, pI_36, pI_37, pI_42, pI_43, pI_44, pI_45, pI_46, pI_47, pI_48, pI_49, pI_50, pI_51, pZ_32, pZ_33, pZ_46, Option.bind_some, kl_0, kl_1, kl_2, kl_3, kl_4, kl_5, kl_6, kl_7, kl_8, kl_10, kl_13, kl_14, kl_15, kl_16, kl_24, kl_25, kl_26, kl_31, kl_32, kl_36, kl_40, kl_62, kl_99, kl_100, kl_255, kl_400, kl_992, kl_1023, kl_1024, kl_1984, kl_9200, kl_4600, kl_48, kl_57, kl_97, kl_122, kl_32767, nI_add, pk_mul]
        rw [M_ends hW h6.1 (by omega) (by rw [ht 0 (by simp) (by simp)]; rw [← ht 21 (by simp) (by simp), ← ht 13 (by simp) (by simp)] at h7; omega), Option.bind_some, ih (i + 1) n _ (by omega) (by omega) (fun q h1 h2 => by rw [sEnd_1 h1 h2, ht q h1 h2])]
        rfl
    simp (disch := first | assumption | omega | decide | with_unfolding_all exact hW) only [en_lt h, ↓gR_0b, ↓gR_1b, ↓gR_2b, ↓gR_3b, ↓gR_4b, ↓gR_5b, ↓gR_6b, ↓gR_7b, ↓gR_8b, ↓gR_9b, ↓gR_10b, ↓gR_11b, ↓gR_12b, ↓gR_16b, ↓gR_17b, ↓gR_18b, ↓gR_19b, ↓gR_20b, ↓gR_21b, ↓gR_22b, ↓gR_23b, ↓gR_24b, ↓gR_25b, ↓gR_26b, ↓gR_27b, ↓gR_28b, ↓gR_29b, ↓gR_30b, ↓gR_31b, ↓gR_35b, ↓gR_38b, ↓gR_39b, ↓gR_40b, ↓gR_41b, ↓gR_52b, ↓gR_53b, ↓gR_54b, ↓aI_45b, ↓uI_45b, ↓aI_46b, ↓uI_46b, ↓aI_47b, ↓uI_47b, ↓aI_48b, ↓uI_48b, ↓aI_49b, ↓uI_49b, ↓aI_50b, ↓uI_50b, ↓aI_51b, ↓uI_51b, ↓aI_52b, ↓uI_52b, ↓aI_53b, ↓uI_53b, ↓aI_54b, ↓uI_54b, ↓aI_55b, ↓uI_55b, ↓aI_56b, ↓uI_56b, ↓aI_58b, ↓uI_58b, ↓uN_58b, ↓uM_58b, ↓aI_59b, ↓uI_59b, ↓aI_60b, ↓uI_60b, ↓aI_62b, ↓uI_62b, ↓uN_62b, ↓uM_62b, ↓aI_63b, ↓uI_63b, ↓uN_63b, ↓uM_63b, ↓aI_64b, ↓uI_64b, ↓aI_65b, ↓uI_65b, ↓aI_66b, ↓uI_66b, ↓aI_67b, ↓uI_67b, ↓aI_68b, ↓uI_68b, ↓aI_69b, ↓uI_69b, ↓aI_70b, ↓uI_70b, ↓aI_61b, ↓uI_61b, ↓aL_57b, ↓uL_57b, ↓aI_71b, ↓uI_71b, ↓aI_72b, ↓uI_72b, ↓aI_74b, ↓uI_74b, ↓aI_75b, ↓uI_75b, ↓aI_76b, ↓uI_76b, ↓aI_77b, ↓uI_77b, ↓aI_78b, ↓uI_78b, ↓aI_79b, ↓uI_79b, ↓aI_80b, ↓uI_80b, ↓aI_81b, ↓uI_81b, ↓gI_13b, ↓pI_13b, ↓gI_14b, ↓pI_14b, ↓gI_15b, ↓pI_15b, ↓gI_32b, ↓pI_32b, ↓gI_33b, ↓pI_33b, ↓gI_34b, ↓pI_34b, ↓gI_36b, ↓pI_36b, ↓gI_37b, ↓pI_37b, ↓gI_42b, ↓pI_42b, ↓gI_43b, ↓pI_43b, ↓gI_44b, ↓pI_44b, ↓gI_45b, ↓pI_45b, ↓gI_46b, ↓pI_46b, ↓gI_47b, ↓pI_47b, ↓gI_48b, ↓pI_48b, ↓gI_49b, ↓pI_49b, ↓gI_50b, ↓pI_50b, ↓gI_51b, ↓pI_51b, ↓pZ_32b, ↓pZ_33b, ↓pZ_46b, ↓xob_44b, ↓Option.bind_some, xob_44, gR_0, gR_1, gR_2, gR_3, gR_4, gR_5, gR_6, gR_7, gR_8, gR_9, gR_10, gR_11, gR_12, gR_16, gR_17, gR_18, gR_19, gR_20, gR_21, gR_22, gR_23, gR_24, gR_25, gR_26, gR_27, gR_28, gR_29, gR_30, gR_31, gR_35, gR_38, gR_39, gR_40, gR_41, gR_52, gR_53, gR_54, aI_45, aI_46, aI_47, aI_48, aI_49, aI_50, aI_51, aI_52, aI_53, aI_54, aI_55, aI_56, aI_58, aI_59, aI_60, aI_62, aI_63, aI_64, aI_65, aI_66, aI_67, aI_68, aI_69, aI_70, aI_61, aL_57, aI_71, aI_72, aI_74, aI_75, aI_76, aI_77, aI_78, aI_79, aI_80, aI_81, uI_45, uI_46, uI_47, uI_48, uI_49, uI_50, uI_51, uI_52, uI_53, uI_54, uI_55, uI_56, uI_58, uN_58, uM_58, uI_59, uI_60, uI_62, uN_62, uM_62, uI_63, uN_63, uM_63, uI_64, uI_65, uI_66, uI_67, uI_68, uI_69, uI_70, uI_61, uL_57, uI_71, uI_72, uI_74, uI_75, uI_76, uI_77, uI_78, uI_79, uI_80, uI_81, gI_13, gI_14, gI_15, gI_32, gI_33, gI_34, gI_36, gI_37, gI_42, gI_43, gI_44, gI_45, gI_46, gI_47, gI_48, gI_49, gI_50, gI_51, pI_13, pI_14, pI_15, pI_32, pI_33, pI_34, pI_36, pI_37, pI_42, pI_43, pI_44, pI_45, pI_46, pI_47, pI_48, pI_49, pI_50, pI_51, pZ_32, pZ_33, pZ_46, Option.bind_some, kl_0, kl_1, kl_2, kl_3, kl_4, kl_5, kl_6, kl_7, kl_8, kl_10, kl_13, kl_14, kl_15, kl_16, kl_24, kl_25, kl_26, kl_31, kl_32, kl_36, kl_40, kl_62, kl_99, kl_100, kl_255, kl_400, kl_992, kl_1023, kl_1024, kl_1984, kl_9200, kl_4600, kl_48, kl_57, kl_97, kl_122, kl_32767, nI_add, pk_mul, en_neg0, en_0le, nI_0le, nI_n0, m9_0le, m9_neg, Nat.not_lt_zero, if_true, if_false, not_true, not_false_iff, and_true, true_and, and_false, false_and, Bool.false_eq_true, reduceCtorEq, h]
    rw [key (s.1 20 m) 0 xF s (by omega) (by unfold xF; omega) (fun _ _ _ => rfl)]
  · simp (disch := first | assumption | omega | decide | with_unfolding_all exact hW) only [en_ge h, ↓gR_0b, ↓gR_1b, ↓gR_2b, ↓gR_3b, ↓gR_4b, ↓gR_5b, ↓gR_6b, ↓gR_7b, ↓gR_8b, ↓gR_9b, ↓gR_10b, ↓gR_11b, ↓gR_12b, ↓gR_16b, ↓gR_17b, ↓gR_18b, ↓gR_19b, ↓gR_20b, ↓gR_21b, ↓gR_22b, ↓gR_23b, ↓gR_24b, ↓gR_25b, ↓gR_26b, ↓gR_27b, ↓gR_28b, ↓gR_29b, ↓gR_30b, ↓gR_31b, ↓gR_35b, ↓gR_38b, ↓gR_39b, ↓gR_40b, ↓gR_41b, ↓gR_52b, ↓gR_53b, ↓gR_54b, ↓aI_45b, ↓uI_45b, ↓aI_46b, ↓uI_46b, ↓aI_47b, ↓uI_47b, ↓aI_48b, ↓uI_48b, ↓aI_49b, ↓uI_49b, ↓aI_50b, ↓uI_50b, ↓aI_51b, ↓uI_51b, ↓aI_52b, ↓uI_52b, ↓aI_53b, ↓uI_53b, ↓aI_54b, ↓uI_54b, ↓aI_55b, ↓uI_55b, ↓aI_56b, ↓uI_56b, ↓aI_58b, ↓uI_58b, ↓uN_58b, ↓uM_58b, ↓aI_59b, ↓uI_59b, ↓aI_60b, ↓uI_60b, ↓aI_62b, ↓uI_62b, ↓uN_62b, ↓uM_62b, ↓aI_63b, ↓uI_63b, ↓uN_63b, ↓uM_63b, ↓aI_64b, ↓uI_64b, ↓aI_65b, ↓uI_65b, ↓aI_66b, ↓uI_66b, ↓aI_67b, ↓uI_67b, ↓aI_68b, ↓uI_68b, ↓aI_69b, ↓uI_69b, ↓aI_70b, ↓uI_70b, ↓aI_61b, ↓uI_61b, ↓aL_57b, ↓uL_57b, ↓aI_71b, ↓uI_71b, ↓aI_72b, ↓uI_72b, ↓aI_74b, ↓uI_74b, ↓aI_75b, ↓uI_75b, ↓aI_76b, ↓uI_76b, ↓aI_77b, ↓uI_77b, ↓aI_78b, ↓uI_78b, ↓aI_79b, ↓uI_79b, ↓aI_80b, ↓uI_80b, ↓aI_81b, ↓uI_81b, ↓gI_13b, ↓pI_13b, ↓gI_14b, ↓pI_14b, ↓gI_15b, ↓pI_15b, ↓gI_32b, ↓pI_32b, ↓gI_33b, ↓pI_33b, ↓gI_34b, ↓pI_34b, ↓gI_36b, ↓pI_36b, ↓gI_37b, ↓pI_37b, ↓gI_42b, ↓pI_42b, ↓gI_43b, ↓pI_43b, ↓gI_44b, ↓pI_44b, ↓gI_45b, ↓pI_45b, ↓gI_46b, ↓pI_46b, ↓gI_47b, ↓pI_47b, ↓gI_48b, ↓pI_48b, ↓gI_49b, ↓pI_49b, ↓gI_50b, ↓pI_50b, ↓gI_51b, ↓pI_51b, ↓pZ_32b, ↓pZ_33b, ↓pZ_46b, ↓xob_44b, ↓Option.bind_some, xob_44, gR_0, gR_1, gR_2, gR_3, gR_4, gR_5, gR_6, gR_7, gR_8, gR_9, gR_10, gR_11, gR_12, gR_16, gR_17, gR_18, gR_19, gR_20, gR_21, gR_22, gR_23, gR_24, gR_25, gR_26, gR_27, gR_28, gR_29, gR_30, gR_31, gR_35, gR_38, gR_39, gR_40, gR_41, gR_52, gR_53, gR_54, aI_45, aI_46, aI_47, aI_48, aI_49, aI_50, aI_51, aI_52, aI_53, aI_54, aI_55, aI_56, aI_58, aI_59, aI_60, aI_62, aI_63, aI_64, aI_65, aI_66, aI_67, aI_68, aI_69, aI_70, aI_61, aL_57, aI_71, aI_72, aI_74, aI_75, aI_76, aI_77, aI_78, aI_79, aI_80, aI_81, uI_45, uI_46, uI_47, uI_48, uI_49, uI_50, uI_51, uI_52, uI_53, uI_54, uI_55, uI_56, uI_58, uN_58, uM_58, uI_59, uI_60, uI_62, uN_62, uM_62, uI_63, uN_63, uM_63, uI_64, uI_65, uI_66, uI_67, uI_68, uI_69, uI_70, uI_61, uL_57, uI_71, uI_72, uI_74, uI_75, uI_76, uI_77, uI_78, uI_79, uI_80, uI_81, gI_13, gI_14, gI_15, gI_32, gI_33, gI_34, gI_36, gI_37, gI_42, gI_43, gI_44, gI_45, gI_46, gI_47, gI_48, gI_49, gI_50, gI_51, pI_13, pI_14, pI_15, pI_32, pI_33, pI_34, pI_36, pI_37, pI_42, pI_43, pI_44, pI_45, pI_46, pI_47, pI_48, pI_49, pI_50, pI_51, pZ_32, pZ_33, pZ_46, Option.bind_some, kl_0, kl_1, kl_2, kl_3, kl_4, kl_5, kl_6, kl_7, kl_8, kl_10, kl_13, kl_14, kl_15, kl_16, kl_24, kl_25, kl_26, kl_31, kl_32, kl_36, kl_40, kl_62, kl_99, kl_100, kl_255, kl_400, kl_992, kl_1023, kl_1024, kl_1984, kl_9200, kl_4600, kl_48, kl_57, kl_97, kl_122, kl_32767, nI_add, pk_mul, en_neg0, en_0le, nI_0le, nI_n0, m9_0le, m9_neg, Nat.not_lt_zero, if_true, if_false, not_true, not_false_iff, and_true, true_and, and_false, false_and, Bool.false_eq_true, reduceCtorEq, h]
def sUnF (s : xS) (c : Nat) : Nat → Nat → xS
  | 0, _ => s
  | d + 1, k => sUnF (sEmp s (s.1 23 (24 * c + k))) c d (k + 1)
theorem sUnF_1 {c : Nat} : ∀ {d k : Nat} {s : xS} {q : Nat}, q ≠ 17 → q ≠ 12 → q ≠ 20 → q ≠ 18 → (sUnF s c d k).1 q = s.1 q := by
  intro d
  induction d with
  | zero => intro k s q _ _ _ _; rfl
  | succ d ih => intro k s q h1 h2 h3 h4; unfold sUnF; rw [ih h1 h2 h3 h4, sEmp_1 h1 h2 h3 h4]
theorem WR0.unF {c : Nat} : ∀ {d k : Nat} {s : xS}, WR0 s → WR0 (sUnF s c d k) := by
  intro d
  induction d with
  | zero => intro k s h; exact h
  | succ d ih => intro k s h; unfold sUnF; exact ih (h.emp _)
def sShF (s : xS) (c n : Nat) : Nat → Nat → xS
  | 0, _ => s
  | d + 1, k => sShF (sA s 23 (24 * c + k - n) (s.1 23 (24 * c + k))) c n d (k + 1)
theorem sShF_1 {c n : Nat} : ∀ {d k : Nat} {s : xS} {q i : Nat}, n ≤ k → (sShF s c n d k).1 q i = if q = 23 ∧ 24 * c + k - n ≤ i ∧ i < 24 * c + k - n + d then s.1 23 (i + n) else s.1 q i := by
  intro d
  induction d with
  | zero => intro k s q i _; rw [if_neg (by omega)]; rfl
  | succ d ih =>
    intro k s q i hk
    unfold sShF
    rw [ih (by omega), sA_1, sA_1]
    by_cases h1 : q = 23
    · by_cases h2 : i = 24 * c + k - n
      · rw [if_neg (by omega), if_pos ⟨h1, h2⟩, if_pos (by omega), show i + n = 24 * c + k from by omega]
      · by_cases h3 : 24 * c + (k + 1) - n ≤ i ∧ i < 24 * c + (k + 1) - n + d
        · rw [if_pos ⟨h1, h3⟩, if_neg (by omega), if_pos (by omega)]
        · rw [if_neg (by omega), if_neg (by omega), if_neg (by omega)]
    · rw [if_neg (by omega), if_neg (by omega), if_neg (by omega)]
theorem sShF_2 {c n : Nat} : ∀ {d k : Nat} {s : xS}, (sShF s c n d k).2 = s.2 := by
  intro d
  induction d with
  | zero => intro k s; rfl
  | succ d ih => intro k s; unfold sShF; rw [ih]; rfl
def sUFF (s : xS) (c n : Nat) : xS := sA (sShF (sUnF s c n 0) c n (s.1 22 c - n) n) 22 c (s.1 22 c - n)
theorem sUFF_1 {s : xS} {c n q : Nat} (h1 : q ≠ 17) (h2 : q ≠ 12) (h3 : q ≠ 20) (h4 : q ≠ 18) (h5 : q ≠ 22) (h6 : q ≠ 23) : (sUFF s c n).1 q = s.1 q := by
  funext i
  unfold sUFF
  rw [sA_1, if_neg (fun e => h5 e.1), sShF_1 (Nat.le_refl _), if_neg (fun e => h6 e.1), sUnF_1 h1 h2 h3 h4]
theorem sUFF_l {s : xS} {c n c' : Nat} : (sUFF s c n).1 22 c' = if c' = c then s.1 22 c - n else s.1 22 c' := by
  unfold sUFF
  rw [sA_1]
  by_cases h : c' = c
  · rw [if_pos ⟨rfl, h⟩, if_pos h]
  · rw [if_neg (fun e => h e.2), if_neg h, sShF_1 (Nat.le_refl _), if_neg (by simp), sUnF_1 (by simp) (by simp) (by simp) (by simp)]
theorem sUFF_e {s : xS} {c n i : Nat} : (sUFF s c n).1 23 i = if 24 * c ≤ i ∧ i < 24 * c + (s.1 22 c - n) then s.1 23 (i + n) else s.1 23 i := by
  unfold sUFF
  rw [sA_1, if_neg (by simp), sShF_1 (Nat.le_refl _), sUnF_1 (by simp) (by simp) (by simp) (by simp)]
  by_cases h : 24 * c ≤ i ∧ i < 24 * c + (s.1 22 c - n)
  · rw [if_pos h, if_pos (by omega)]
  · rw [if_neg h, if_neg (by omega)]
theorem sUnF_20 {c : Nat} : ∀ {d k : Nat} {s : xS} {i : Nat}, (sUnF s c d k).1 20 i ≤ s.1 20 i := by
  intro d
  induction d with
  | zero => intro k s i; exact Nat.le_refl _
  | succ d ih =>
    intro k s i
    unfold sUnF
    refine Nat.le_trans ih ?_
    rw [sEmp_20]; split <;> omega
theorem sUFF_20 {s : xS} {c n i : Nat} : (sUFF s c n).1 20 i ≤ s.1 20 i := by
  unfold sUFF
  rw [sA_1, if_neg (by simp), sShF_1 (Nat.le_refl _), if_neg (by simp)]
  exact sUnF_20
theorem WR0.ufF {s : xS} (hR : WR0 s) {c n : Nat} (hc : c < s.1 19 0) (hn : n ≤ s.1 22 c) : WR0 (sUFF s c n) := by
  have h1 : ∀ q, q ≠ 17 → q ≠ 12 → q ≠ 20 → q ≠ 18 → q ≠ 22 → q ≠ 23 → (sUFF s c n).1 q = s.1 q := fun q a1 a2 a3 a4 a5 a6 => sUFF_1 a1 a2 a3 a4 a5 a6
  refine WR0_c (fun q hq => h1 q (by omega) (by omega) (by omega) (by omega) (by omega) (by omega)) (fun c hc => ?_) (fun i hi => sUFF_20) (fun c' hc' => ?_) hR
  · rw [h1 4 (by simp) (by simp) (by simp) (by simp) (by simp) (by simp)]; have := hR.c hc; omega
  · have h0 := hR.fe c' hc'
    rw [h1 24 (by simp) (by simp) (by simp) (by simp) (by simp) (by simp), h1 25 (by simp) (by simp) (by simp) (by simp) (by simp) (by simp), sUFF_l]
    by_cases h : c' = c
    · subst h
      rw [if_pos rfl]
      refine ⟨by omega, by omega, fun k => ?_⟩
      rw [sUFF_e]
      have h7 := h0.2.2 k
      have h8 := h0.2.2 (k + n)
      rw [← Nat.add_assoc] at h8
      by_cases h6 : k < s.1 22 c' - n
      · rw [if_pos (by omega)]; omega
      · rw [if_neg (by omega)]; omega
    · rw [if_neg h]
      refine ⟨h0.1, h0.2.1, fun k => ?_⟩
      rw [sUFF_e]
      have h7 := h0.2.2 k
      by_cases h6 : 24 * c ≤ 24 * c' + k ∧ 24 * c' + k < 24 * c + (s.1 22 c - n)
      · have h9 := hR.c hc; omega
      · rw [if_neg h6]; exact h7
theorem M_unmakesFirstF {d : Int32} {s : xS} {X : xMem} {c N : Nat} (hW : XW X) (hR : WR0 s) (hc : c < s.1 19 0) (hN : N ≤ s.1 22 c) : fM_unmakesFirst (mM d s X) (44, 0, 0) (some (67, 0, 0)) (some (68, 0, 0)) (nI c) (nI N) = some (nI N, mM d (sUFF s c N) X) := by
  have hn := hR.n
  have hfe := hR.fe c hc
  have hc4 : c < 4 := by omega
  have key2 : ∀ e i n t, i + e = s.1 22 c → e < n → N ≤ i → t.1 22 c = s.1 22 c → fM_unmakesFirst_34 n (mM d t X) (some (67, 0, 0)) (some (68, 0, 0)) (nI c) (nI N) (nI i) = some (nI N, mM d (sA (sShF t c N e i) 22 c (s.1 22 c - N)) X) := by
    intro e
    induction e with
    | zero =>
      intro i n t hi hn h1 h2
      obtain ⟨n, rfl⟩ : ∃ m, n = m + 1 := ⟨n - 1, by omega⟩
      have h5 : s.1 22 c ≤ i := by omega
      simp (disch := first | assumption | omega | decide | with_unfolding_all exact hW) only [fM_unmakesFirst_34, kl_0, kl_1, kl_2, kl_3, kl_4, kl_5, kl_6, kl_7, kl_8, kl_10, kl_13, kl_14, kl_15, kl_16, kl_24, kl_25, kl_26, kl_31, kl_32, kl_36, kl_40, kl_62, kl_99, kl_100, kl_255, kl_400, kl_992, kl_1023, kl_1024, kl_1984, kl_9200, kl_4600, kl_48, kl_57, kl_97, kl_122, kl_32767, nI_add, pk_mul]
      simp (disch := first | assumption | omega | decide | with_unfolding_all exact hW) only [↓gR_0b, ↓gR_1b, ↓gR_2b, ↓gR_3b, ↓gR_4b, ↓gR_5b, ↓gR_6b, ↓gR_7b, ↓gR_8b, ↓gR_9b, ↓gR_10b, ↓gR_11b, ↓gR_12b, ↓gR_16b, ↓gR_17b, ↓gR_18b, ↓gR_19b, ↓gR_20b, ↓gR_21b, ↓gR_22b, ↓gR_23b, ↓gR_24b, ↓gR_25b, ↓gR_26b, ↓gR_27b, ↓gR_28b, ↓gR_29b, ↓gR_30b, ↓gR_31b, ↓gR_35b, ↓gR_38b, ↓gR_39b, ↓gR_40b, ↓gR_41b, ↓gR_52b, ↓gR_53b, ↓gR_54b, ↓aI_45b, ↓uI_45b, ↓aI_46b, ↓uI_46b, ↓aI_47b, ↓uI_47b, ↓aI_48b, ↓uI_48b, ↓aI_49b, ↓uI_49b, ↓aI_50b, ↓uI_50b, ↓aI_51b, ↓uI_51b, ↓aI_52b, ↓uI_52b, ↓aI_53b, ↓uI_53b, ↓aI_54b, ↓uI_54b, ↓aI_55b, ↓uI_55b, ↓aI_56b, ↓uI_56b, ↓aI_58b, ↓uI_58b, ↓uN_58b, ↓uM_58b, ↓aI_59b, ↓uI_59b, ↓aI_60b, ↓uI_60b, ↓aI_62b, ↓uI_62b, ↓uN_62b, ↓uM_62b, ↓aI_63b, ↓uI_63b, ↓uN_63b, ↓uM_63b, ↓aI_64b, ↓uI_64b, ↓aI_65b, ↓uI_65b, ↓aI_66b, ↓uI_66b, ↓aI_67b, ↓uI_67b, ↓aI_68b, ↓uI_68b, ↓aI_69b, ↓uI_69b, ↓aI_70b, ↓uI_70b, ↓aI_61b, ↓uI_61b, ↓aL_57b, ↓uL_57b, ↓aI_71b, ↓uI_71b, ↓aI_72b, ↓uI_72b, ↓aI_74b, ↓uI_74b, ↓aI_75b, ↓uI_75b, ↓aI_76b, ↓uI_76b, ↓aI_77b, ↓uI_77b, ↓aI_78b, ↓uI_78b, ↓aI_79b, ↓uI_79b, ↓aI_80b, ↓uI_80b, ↓aI_81b, ↓uI_81b, ↓gI_13b, ↓pI_13b, ↓gI_14b, ↓pI_14b, ↓gI_15b, ↓pI_15b, ↓gI_32b, ↓pI_32b, ↓gI_33b, ↓pI_33b, ↓gI_34b, ↓pI_34b, ↓gI_36b, ↓pI_36b, ↓gI_37b, ↓pI_37b, ↓gI_42b, ↓pI_42b, ↓gI_43b, ↓pI_43b, ↓gI_44b, ↓pI_44b, ↓gI_45b, ↓pI_45b, ↓gI_46b, ↓pI_46b, ↓gI_47b, ↓pI_47b, ↓gI_48b, ↓pI_48b, ↓gI_49b, ↓pI_49b, ↓gI_50b, ↓pI_50b, ↓gI_51b, ↓pI_51b, ↓pZ_32b, ↓pZ_33b, ↓pZ_46b, ↓xob_44b, ↓Option.bind_some, xob_44, gR_0, gR_1, gR_2, gR_3, gR_4, gR_5, gR_6, gR_7, gR_8, gR_9, gR_10, gR_11, gR_12, gR_16, gR_17, gR_18, gR_19, gR_20, gR_21, gR_22, gR_23, gR_24, gR_25, gR_26, gR_27, gR_28, gR_29, gR_30, gR_31, gR_35, gR_38, gR_39, gR_40, gR_41, gR_52, gR_53, gR_54, aI_45, aI_46, aI_47, aI_48, aI_49, aI_50, aI_51, aI_52, aI_53, aI_54, aI_55, aI_56, aI_58, aI_59, aI_60, aI_62, aI_63, aI_64, aI_65, aI_66, aI_67, aI_68, aI_69, aI_70, aI_61, aL_57, aI_71, aI_72, aI_74, aI_75, aI_76, aI_77, aI_78, aI_79, aI_80, aI_81, uI_45, uI_46, uI_47, uI_48, uI_49, uI_50, uI_51, uI_52, uI_53, uI_54, uI_55, uI_56, uI_58, uN_58, uM_58, uI_59, uI_60, uI_62, uN_62, uM_62, uI_63, uN_63, uM_63, uI_64, uI_65, uI_66, uI_67, uI_68, uI_69, uI_70, uI_61, uL_57, uI_71, uI_72, uI_74, uI_75, uI_76, uI_77, uI_78, uI_79, uI_80, uI_81, gI_13, gI_14, gI_15, gI_32, gI_33, gI_34, gI_36, gI_37, gI_42, gI_43, gI_44, gI_45, gI_46, gI_47, gI_48, gI_49, gI_50, gI_51, pI_13, pI_14, pI_15, pI_32, pI_33, pI_34, pI_36, pI_37, pI_42, pI_43, pI_44, pI_45, pI_46, pI_47, pI_48, pI_49, pI_50, pI_51, pZ_32, pZ_33, pZ_46, Option.bind_some, kl_0, kl_1, kl_2, kl_3, kl_4, kl_5, kl_6, kl_7, kl_8, kl_10, kl_13, kl_14, kl_15, kl_16, kl_24, kl_25, kl_26, kl_31, kl_32, kl_36, kl_40, kl_62, kl_99, kl_100, kl_255, kl_400, kl_992, kl_1023, kl_1024, kl_1984, kl_9200, kl_4600, kl_48, kl_57, kl_97, kl_122, kl_32767, nI_add, pk_mul, h2, nI_leI, h5, Nat.not_lt_zero, if_true, if_false, not_true, not_false_iff, and_true, true_and, and_false, false_and, Bool.false_eq_true, reduceCtorEq, pk_sub, sShF]
    | succ e ih =>
      intro i n t hi hn h1 h2
      obtain ⟨n, rfl⟩ : ∃ m, n = m + 1 := ⟨n - 1, by omega⟩
      have h5 : ¬ s.1 22 c ≤ i := by omega
      simp (disch := first | assumption | omega | decide | with_unfolding_all exact hW) only [fM_unmakesFirst_34, kl_0, kl_1, kl_2, kl_3, kl_4, kl_5, kl_6, kl_7, kl_8, kl_10, kl_13, kl_14, kl_15, kl_16, kl_24, kl_25, kl_26, kl_31, kl_32, kl_36, kl_40, kl_62, kl_99, kl_100, kl_255, kl_400, kl_992, kl_1023, kl_1024, kl_1984, kl_9200, kl_4600, kl_48, kl_57, kl_97, kl_122, kl_32767, nI_add, pk_mul, pk_sub]
      simp (disch := first | assumption | omega | decide | with_unfolding_all exact hW) only [↓gR_0b, ↓gR_1b, ↓gR_2b, ↓gR_3b, ↓gR_4b, ↓gR_5b, ↓gR_6b, ↓gR_7b, ↓gR_8b, ↓gR_9b, ↓gR_10b, ↓gR_11b, ↓gR_12b, ↓gR_16b, ↓gR_17b, ↓gR_18b, ↓gR_19b, ↓gR_20b, ↓gR_21b, ↓gR_22b, ↓gR_23b, ↓gR_24b, ↓gR_25b, ↓gR_26b, ↓gR_27b, ↓gR_28b, ↓gR_29b, ↓gR_30b, ↓gR_31b, ↓gR_35b, ↓gR_38b, ↓gR_39b, ↓gR_40b, ↓gR_41b, ↓gR_52b, ↓gR_53b, ↓gR_54b, ↓aI_45b, ↓uI_45b, ↓aI_46b, ↓uI_46b, ↓aI_47b, ↓uI_47b, ↓aI_48b, ↓uI_48b, ↓aI_49b, ↓uI_49b, ↓aI_50b, ↓uI_50b, ↓aI_51b, ↓uI_51b, ↓aI_52b, ↓uI_52b, ↓aI_53b, ↓uI_53b, ↓aI_54b, ↓uI_54b, ↓aI_55b, ↓uI_55b, ↓aI_56b, ↓uI_56b, ↓aI_58b, ↓uI_58b, ↓uN_58b, ↓uM_58b, ↓aI_59b, ↓uI_59b, ↓aI_60b, ↓uI_60b, ↓aI_62b, ↓uI_62b, ↓uN_62b, ↓uM_62b, ↓aI_63b, ↓uI_63b, ↓uN_63b, ↓uM_63b, ↓aI_64b, ↓uI_64b, ↓aI_65b, ↓uI_65b, ↓aI_66b, ↓uI_66b, ↓aI_67b, ↓uI_67b, ↓aI_68b, ↓uI_68b, ↓aI_69b, ↓uI_69b, ↓aI_70b, ↓uI_70b, ↓aI_61b, ↓uI_61b, ↓aL_57b, ↓uL_57b, ↓aI_71b, ↓uI_71b, ↓aI_72b, ↓uI_72b, ↓aI_74b, ↓uI_74b, ↓aI_75b, ↓uI_75b, ↓aI_76b, ↓uI_76b, ↓aI_77b, ↓uI_77b, ↓aI_78b, ↓uI_78b, ↓aI_79b, ↓uI_79b, ↓aI_80b, ↓uI_80b, ↓aI_81b, ↓uI_81b, ↓gI_13b, ↓pI_13b, ↓gI_14b, ↓pI_14b, ↓gI_15b, ↓pI_15b, ↓gI_32b, ↓pI_32b, ↓gI_33b, ↓pI_33b, ↓gI_34b, ↓pI_34b, ↓gI_36b, ↓pI_36b, ↓gI_37b, ↓pI_37b, ↓gI_42b, ↓pI_42b, ↓gI_43b, ↓pI_43b, ↓gI_44b, ↓pI_44b, ↓gI_45b, ↓pI_45b, ↓gI_46b, ↓pI_46b, ↓gI_47b, ↓pI_47b, ↓gI_48b, ↓pI_48b, ↓gI_49b, ↓pI_49b, ↓gI_50b, ↓pI_50b, ↓gI_51b, ↓pI_51b, ↓pZ_32b, ↓pZ_33b, ↓pZ_46b, ↓xob_44b, ↓Option.bind_some, xob_44, gR_0, gR_1, gR_2, gR_3, gR_4, gR_5, gR_6, gR_7, gR_8, gR_9, gR_10, gR_11, gR_12, gR_16, gR_17, gR_18, gR_19, gR_20, gR_21, gR_22, gR_23, gR_24, gR_25, gR_26, gR_27, gR_28, gR_29, gR_30, gR_31, gR_35, gR_38, gR_39, gR_40, gR_41, gR_52, gR_53, gR_54, aI_45, aI_46, aI_47, aI_48, aI_49, aI_50, aI_51, aI_52, aI_53, aI_54, aI_55, aI_56, aI_58, aI_59, aI_60, aI_62, aI_63, aI_64, aI_65, aI_66, aI_67, aI_68, aI_69, aI_70, aI_61, aL_57, aI_71, aI_72, aI_74, aI_75, aI_76, aI_77, aI_78, aI_79, aI_80, aI_81, uI_45, uI_46, uI_47, uI_48, uI_49, uI_50, uI_51, uI_52, uI_53, uI_54, uI_55, uI_56, uI_58, uN_58, uM_58, uI_59, uI_60, uI_62, uN_62, uM_62, uI_63, uN_63, uM_63, uI_64, uI_65, uI_66, uI_67, uI_68, uI_69, uI_70, uI_61, uL_57, uI_71, uI_72, uI_74, uI_75, uI_76, uI_77, uI_78, uI_79, uI_80, uI_81, gI_13, gI_14, gI_15, gI_32, gI_33, gI_34, gI_36, gI_37, gI_42, gI_43, gI_44, gI_45, gI_46, gI_47, gI_48, gI_49, gI_50, gI_51, pI_13, pI_14, pI_15, pI_32, pI_33, pI_34, pI_36, pI_37, pI_42, pI_43, pI_44, pI_45, pI_46, pI_47, pI_48, pI_49, pI_50, pI_51, pZ_32, pZ_33, pZ_46, Option.bind_some, kl_0, kl_1, kl_2, kl_3, kl_4, kl_5, kl_6, kl_7, kl_8, kl_10, kl_13, kl_14, kl_15, kl_16, kl_24, kl_25, kl_26, kl_31, kl_32, kl_36, kl_40, kl_62, kl_99, kl_100, kl_255, kl_400, kl_992, kl_1023, kl_1024, kl_1984, kl_9200, kl_4600, kl_48, kl_57, kl_97, kl_122, kl_32767, nI_add, pk_mul, h2, nI_leI, h5, Nat.not_lt_zero, if_true, if_false, not_true, not_false_iff, and_true, true_and, and_false, false_and, Bool.false_eq_true, reduceCtorEq, pk_sub]
      rw [ih (i + 1) n _ (by omega) (by omega) (by omega) (by rw [sA_1, if_neg (by simp)]; exact h2)]
      rfl
  have key : ∀ e i n t, i + e = N → e < n → WR0 t → (∀ q, q ≠ 17 → q ≠ 12 → q ≠ 20 → q ≠ 18 → t.1 q = s.1 q) → fM_unmakesFirst_3 n (mM d t X) (some (44, 0, 0)) (some (67, 0, 0)) (some (68, 0, 0)) (nI c) (nI N) (nI i) = some (nI N, mM d (sA (sShF (sUnF t c e i) c N (s.1 22 c - N) N) 22 c (s.1 22 c - N)) X) := by
    intro e
    induction e with
    | zero =>
      intro i n t hi hn hRt ht
      obtain ⟨n, rfl⟩ : ∃ m, n = m + 1 := ⟨n - 1, by omega⟩
      have h5 : N ≤ i := by omega
      simp (disch := first | assumption | omega | decide | with_unfolding_all exact hW) only [fM_unmakesFirst_3, kl_0, kl_1, kl_2, kl_3, kl_4, kl_5, kl_6, kl_7, kl_8, kl_10, kl_13, kl_14, kl_15, kl_16, kl_24, kl_25, kl_26, kl_31, kl_32, kl_36, kl_40, kl_62, kl_99, kl_100, kl_255, kl_400, kl_992, kl_1023, kl_1024, kl_1984, kl_9200, kl_4600, kl_48, kl_57, kl_97, kl_122, kl_32767, nI_add, pk_mul, nI_leI, h5, if_true]
      exact key2 (s.1 22 c - N) N xF t (by omega) (by unfold xF; omega) (Nat.le_refl _) (by rw [ht 22 (by simp) (by simp) (by simp) (by simp)])
    | succ e ih =>
      intro i n t hi hn hRt ht
      obtain ⟨n, rfl⟩ : ∃ m, n = m + 1 := ⟨n - 1, by omega⟩
      have h5 : ¬ N ≤ i := by omega
      have h6 := (hfe.2.2 i).1 (by omega)
      rw [← ht 23 (by simp) (by simp) (by simp) (by simp)] at h6
      simp (disch := first | assumption | omega | decide | with_unfolding_all exact hW) only [fM_unmakesFirst_3, kl_0, kl_1, kl_2, kl_3, kl_4, kl_5, kl_6, kl_7, kl_8, kl_10, kl_13, kl_14, kl_15, kl_16, kl_24, kl_25, kl_26, kl_31, kl_32, kl_36, kl_40, kl_62, kl_99, kl_100, kl_255, kl_400, kl_992, kl_1023, kl_1024, kl_1984, kl_9200, kl_4600, kl_48, kl_57, kl_97, kl_122, kl_32767, nI_add, pk_mul, nI_leI, h5, if_false]
      simp (disch := first | assumption | omega | decide | with_unfolding_all exact hW) only [↓gR_0b, ↓gR_1b, ↓gR_2b, ↓gR_3b, ↓gR_4b, ↓gR_5b, ↓gR_6b, ↓gR_7b, ↓gR_8b, ↓gR_9b, ↓gR_10b, ↓gR_11b, ↓gR_12b, ↓gR_16b, ↓gR_17b, ↓gR_18b, ↓gR_19b, ↓gR_20b, ↓gR_21b, ↓gR_22b, ↓gR_23b, ↓gR_24b, ↓gR_25b, ↓gR_26b, ↓gR_27b, ↓gR_28b, ↓gR_29b, ↓gR_30b, ↓gR_31b, ↓gR_35b, ↓gR_38b, ↓gR_39b, ↓gR_40b, ↓gR_41b, ↓gR_52b, ↓gR_53b, ↓gR_54b, ↓aI_45b, ↓uI_45b, ↓aI_46b, ↓uI_46b, ↓aI_47b, ↓uI_47b, ↓aI_48b, ↓uI_48b, ↓aI_49b, ↓uI_49b, ↓aI_50b, ↓uI_50b, ↓aI_51b, ↓uI_51b, ↓aI_52b, ↓uI_52b, ↓aI_53b, ↓uI_53b, ↓aI_54b, ↓uI_54b, ↓aI_55b, ↓uI_55b, ↓aI_56b, ↓uI_56b, ↓aI_58b, ↓uI_58b, ↓uN_58b, ↓uM_58b, ↓aI_59b, ↓uI_59b, ↓aI_60b, ↓uI_60b, ↓aI_62b, ↓uI_62b, ↓uN_62b, ↓uM_62b, ↓aI_63b, ↓uI_63b, ↓uN_63b, ↓uM_63b, ↓aI_64b, ↓uI_64b, ↓aI_65b, ↓uI_65b, ↓aI_66b, ↓uI_66b, ↓aI_67b, ↓uI_67b, ↓aI_68b, ↓uI_68b, ↓aI_69b, ↓uI_69b, ↓aI_70b, ↓uI_70b, ↓aI_61b, ↓uI_61b, ↓aL_57b, ↓uL_57b, ↓aI_71b, ↓uI_71b, ↓aI_72b, ↓uI_72b, ↓aI_74b, ↓uI_74b, ↓aI_75b, ↓uI_75b, ↓aI_76b, ↓uI_76b, ↓aI_77b, ↓uI_77b, ↓aI_78b, ↓uI_78b, ↓aI_79b, ↓uI_79b, ↓aI_80b, ↓uI_80b, ↓aI_81b, ↓uI_81b, ↓gI_13b, ↓pI_13b, ↓gI_14b, ↓pI_14b, ↓gI_15b, ↓pI_15b, ↓gI_32b, ↓pI_32b, ↓gI_33b, ↓pI_33b, ↓gI_34b, ↓pI_34b, ↓gI_36b, ↓pI_36b, ↓gI_37b, ↓pI_37b, ↓gI_42b, ↓pI_42b, ↓gI_43b, ↓pI_43b, ↓gI_44b, ↓pI_44b, ↓gI_45b, ↓pI_45b, ↓gI_46b, ↓pI_46b, ↓gI_47b, ↓pI_47b, ↓gI_48b, ↓pI_48b, ↓gI_49b, ↓pI_49b, ↓gI_50b, ↓pI_50b, ↓gI_51b, ↓pI_51b, ↓pZ_32b, ↓pZ_33b, ↓pZ_46b, ↓xob_44b, ↓Option.bind_some, xob_44, gR_0, gR_1, gR_2, gR_3, gR_4, gR_5, gR_6, gR_7, gR_8, gR_9, gR_10, gR_11, gR_12, gR_16, gR_17, gR_18, gR_19, gR_20, gR_21, gR_22, gR_23, gR_24, gR_25, gR_26, gR_27, gR_28, gR_29, gR_30, gR_31, gR_35, gR_38, gR_39, gR_40, gR_41, gR_52, gR_53, gR_54, aI_45, aI_46, aI_47, aI_48, aI_49, aI_50, aI_51, aI_52, aI_53, aI_54, aI_55, aI_56, aI_58, aI_59, aI_60, aI_62, aI_63, aI_64, aI_65, aI_66, aI_67, aI_68, aI_69, aI_70, aI_61, aL_57, aI_71, aI_72, aI_74, aI_75, aI_76, aI_77, aI_78, aI_79, aI_80, aI_81, uI_45, uI_46, uI_47, uI_48, uI_49, uI_50, uI_51, uI_52, uI_53, uI_54, uI_55, uI_56, uI_58, uN_58, uM_58, uI_59, uI_60, uI_62, uN_62, uM_62, uI_63, uN_63, uM_63, uI_64, uI_65, uI_66, uI_67, uI_68, uI_69, uI_70, uI_61, uL_57, uI_71, uI_72, uI_74, uI_75, uI_76, uI_77, uI_78, uI_79, uI_80, uI_81, gI_13, gI_14, gI_15, gI_32, gI_33, gI_34, gI_36, gI_37, gI_42, gI_43, gI_44, gI_45, gI_46, gI_47, gI_48, gI_49, gI_50, gI_51, pI_13, pI_14, pI_15, pI_32, pI_33, pI_34, pI_36, pI_37, pI_42, pI_43, pI_44, pI_45, pI_46, pI_47, pI_48, pI_49, pI_50, pI_51, pZ_32, pZ_33, pZ_46, Option.bind_some, kl_0, kl_1, kl_2, kl_3, kl_4, kl_5, kl_6, kl_7, kl_8, kl_10, kl_13, kl_14, kl_15, kl_16, kl_24, kl_25, kl_26, kl_31, kl_32, kl_36, kl_40, kl_62, kl_99, kl_100, kl_255, kl_400, kl_992, kl_1023, kl_1024, kl_1984, kl_9200, kl_4600, kl_48, kl_57, kl_97, kl_122, kl_32767, nI_add, pk_mul]
      have h7 := M_empties (d := d) (X := X) (m := t.1 23 (24 * c + i)) hW hRt
      rw [en_lt h6] at h7
      rw [h7, Option.bind_some, ih (i + 1) n _ (by omega) (by omega) (hRt.emp _) (fun q a1 a2 a3 a4 => by rw [sEmp_1 a1 a2 a3 a4, ht q a1 a2 a3 a4])]
      rfl
  unfold fM_unmakesFirst
  rw [kl_0, key N 0 xF s (by omega) (by unfold xF; omega) hR (fun _ _ _ _ _ => rfl)]
  rfl
def sUnE (s : xS) (c : Nat) : Nat → Nat → xS
  | 0, _ => s
  | d + 1, k => sUnE (sEmp s (s.1 25 (24 * c + k))) c d (k + 1)
theorem sUnE_1 {c : Nat} : ∀ {d k : Nat} {s : xS} {q : Nat}, q ≠ 17 → q ≠ 12 → q ≠ 20 → q ≠ 18 → (sUnE s c d k).1 q = s.1 q := by
  intro d
  induction d with
  | zero => intro k s q _ _ _ _; rfl
  | succ d ih => intro k s q h1 h2 h3 h4; unfold sUnE; rw [ih h1 h2 h3 h4, sEmp_1 h1 h2 h3 h4]
theorem WR0.unE {c : Nat} : ∀ {d k : Nat} {s : xS}, WR0 s → WR0 (sUnE s c d k) := by
  intro d
  induction d with
  | zero => intro k s h; exact h
  | succ d ih => intro k s h; unfold sUnE; exact ih (h.emp _)
def sShE (s : xS) (c n : Nat) : Nat → Nat → xS
  | 0, _ => s
  | d + 1, k => sShE (sA s 25 (24 * c + k - n) (s.1 25 (24 * c + k))) c n d (k + 1)
theorem sShE_1 {c n : Nat} : ∀ {d k : Nat} {s : xS} {q i : Nat}, n ≤ k → (sShE s c n d k).1 q i = if q = 25 ∧ 24 * c + k - n ≤ i ∧ i < 24 * c + k - n + d then s.1 25 (i + n) else s.1 q i := by
  intro d
  induction d with
  | zero => intro k s q i _; rw [if_neg (by omega)]; rfl
  | succ d ih =>
    intro k s q i hk
    unfold sShE
    rw [ih (by omega), sA_1, sA_1]
    by_cases h1 : q = 25
    · by_cases h2 : i = 24 * c + k - n
      · rw [if_neg (by omega), if_pos ⟨h1, h2⟩, if_pos (by omega), show i + n = 24 * c + k from by omega]
      · by_cases h3 : 24 * c + (k + 1) - n ≤ i ∧ i < 24 * c + (k + 1) - n + d
        · rw [if_pos ⟨h1, h3⟩, if_neg (by omega), if_pos (by omega)]
        · rw [if_neg (by omega), if_neg (by omega), if_neg (by omega)]
    · rw [if_neg (by omega), if_neg (by omega), if_neg (by omega)]
theorem sShE_2 {c n : Nat} : ∀ {d k : Nat} {s : xS}, (sShE s c n d k).2 = s.2 := by
  intro d
  induction d with
  | zero => intro k s; rfl
  | succ d ih => intro k s; unfold sShE; rw [ih]; rfl
def sUFE (s : xS) (c n : Nat) : xS := sA (sShE (sUnE s c n 0) c n (s.1 24 c - n) n) 24 c (s.1 24 c - n)
theorem sUFE_1 {s : xS} {c n q : Nat} (h1 : q ≠ 17) (h2 : q ≠ 12) (h3 : q ≠ 20) (h4 : q ≠ 18) (h5 : q ≠ 24) (h6 : q ≠ 25) : (sUFE s c n).1 q = s.1 q := by
  funext i
  unfold sUFE
  rw [sA_1, if_neg (fun e => h5 e.1), sShE_1 (Nat.le_refl _), if_neg (fun e => h6 e.1), sUnE_1 h1 h2 h3 h4]
theorem sUFE_l {s : xS} {c n c' : Nat} : (sUFE s c n).1 24 c' = if c' = c then s.1 24 c - n else s.1 24 c' := by
  unfold sUFE
  rw [sA_1]
  by_cases h : c' = c
  · rw [if_pos ⟨rfl, h⟩, if_pos h]
  · rw [if_neg (fun e => h e.2), if_neg h, sShE_1 (Nat.le_refl _), if_neg (by simp), sUnE_1 (by simp) (by simp) (by simp) (by simp)]
theorem sUFE_e {s : xS} {c n i : Nat} : (sUFE s c n).1 25 i = if 24 * c ≤ i ∧ i < 24 * c + (s.1 24 c - n) then s.1 25 (i + n) else s.1 25 i := by
  unfold sUFE
  rw [sA_1, if_neg (by simp), sShE_1 (Nat.le_refl _), sUnE_1 (by simp) (by simp) (by simp) (by simp)]
  by_cases h : 24 * c ≤ i ∧ i < 24 * c + (s.1 24 c - n)
  · rw [if_pos h, if_pos (by omega)]
  · rw [if_neg h, if_neg (by omega)]
theorem sUnE_20 {c : Nat} : ∀ {d k : Nat} {s : xS} {i : Nat}, (sUnE s c d k).1 20 i ≤ s.1 20 i := by
  intro d
  induction d with
  | zero => intro k s i; exact Nat.le_refl _
  | succ d ih =>
    intro k s i
    unfold sUnE
    refine Nat.le_trans ih ?_
    rw [sEmp_20]; split <;> omega
theorem sUFE_20 {s : xS} {c n i : Nat} : (sUFE s c n).1 20 i ≤ s.1 20 i := by
  unfold sUFE
  rw [sA_1, if_neg (by simp), sShE_1 (Nat.le_refl _), if_neg (by simp)]
  exact sUnE_20
theorem WR0.ufE {s : xS} (hR : WR0 s) {c n : Nat} (hc : c < s.1 19 0) (hn : n ≤ s.1 24 c) : WR0 (sUFE s c n) := by
  have h1 : ∀ q, q ≠ 17 → q ≠ 12 → q ≠ 20 → q ≠ 18 → q ≠ 24 → q ≠ 25 → (sUFE s c n).1 q = s.1 q := fun q a1 a2 a3 a4 a5 a6 => sUFE_1 a1 a2 a3 a4 a5 a6
  refine WR0_c (fun q hq => h1 q (by omega) (by omega) (by omega) (by omega) (by omega) (by omega)) (fun c hc => ?_) (fun i hi => sUFE_20) (fun c' hc' => ?_) hR
  · rw [h1 4 (by simp) (by simp) (by simp) (by simp) (by simp) (by simp)]; have := hR.c hc; omega
  · have h0 := hR.fe c' hc'
    rw [h1 22 (by simp) (by simp) (by simp) (by simp) (by simp) (by simp), h1 23 (by simp) (by simp) (by simp) (by simp) (by simp) (by simp), sUFE_l]
    by_cases h : c' = c
    · subst h
      rw [if_pos rfl]
      refine ⟨by omega, by omega, fun k => ?_⟩
      rw [sUFE_e]
      have h7 := h0.2.2 k
      have h8 := h0.2.2 (k + n)
      rw [← Nat.add_assoc] at h8
      by_cases h6 : k < s.1 24 c' - n
      · rw [if_pos (by omega)]; omega
      · rw [if_neg (by omega)]; omega
    · rw [if_neg h]
      refine ⟨h0.1, h0.2.1, fun k => ?_⟩
      rw [sUFE_e]
      have h7 := h0.2.2 k
      by_cases h6 : 24 * c ≤ 24 * c' + k ∧ 24 * c' + k < 24 * c + (s.1 24 c - n)
      · have h9 := hR.c hc; omega
      · rw [if_neg h6]; exact h7
theorem M_unmakesFirstE {d : Int32} {s : xS} {X : xMem} {c N : Nat} (hW : XW X) (hR : WR0 s) (hc : c < s.1 19 0) (hN : N ≤ s.1 24 c) : fM_unmakesFirst (mM d s X) (44, 0, 0) (some (69, 0, 0)) (some (70, 0, 0)) (nI c) (nI N) = some (nI N, mM d (sUFE s c N) X) := by
  have hn := hR.n
  have hfe := hR.fe c hc
  have hc4 : c < 4 := by omega
  have key2 : ∀ e i n t, i + e = s.1 24 c → e < n → N ≤ i → t.1 24 c = s.1 24 c → fM_unmakesFirst_34 n (mM d t X) (some (69, 0, 0)) (some (70, 0, 0)) (nI c) (nI N) (nI i) = some (nI N, mM d (sA (sShE t c N e i) 24 c (s.1 24 c - N)) X) := by
    intro e
    induction e with
    | zero =>
      intro i n t hi hn h1 h2
      obtain ⟨n, rfl⟩ : ∃ m, n = m + 1 := ⟨n - 1, by omega⟩
      have h5 : s.1 24 c ≤ i := by omega
      simp (disch := first | assumption | omega | decide | with_unfolding_all exact hW) only [fM_unmakesFirst_34, kl_0, kl_1, kl_2, kl_3, kl_4, kl_5, kl_6, kl_7, kl_8, kl_10, kl_13, kl_14, kl_15, kl_16, kl_24, kl_25, kl_26, kl_31, kl_32, kl_36, kl_40, kl_62, kl_99, kl_100, kl_255, kl_400, kl_992, kl_1023, kl_1024, kl_1984, kl_9200, kl_4600, kl_48, kl_57, kl_97, kl_122, kl_32767, nI_add, pk_mul]
      simp (disch := first | assumption | omega | decide | with_unfolding_all exact hW) only [↓gR_0b, ↓gR_1b, ↓gR_2b, ↓gR_3b, ↓gR_4b, ↓gR_5b, ↓gR_6b, ↓gR_7b, ↓gR_8b, ↓gR_9b, ↓gR_10b, ↓gR_11b, ↓gR_12b, ↓gR_16b, ↓gR_17b, ↓gR_18b, ↓gR_19b, ↓gR_20b, ↓gR_21b, ↓gR_22b, ↓gR_23b, ↓gR_24b, ↓gR_25b, ↓gR_26b, ↓gR_27b, ↓gR_28b, ↓gR_29b, ↓gR_30b, ↓gR_31b, ↓gR_35b, ↓gR_38b, ↓gR_39b, ↓gR_40b, ↓gR_41b, ↓gR_52b, ↓gR_53b, ↓gR_54b, ↓aI_45b, ↓uI_45b, ↓aI_46b, ↓uI_46b, ↓aI_47b, ↓uI_47b, ↓aI_48b, ↓uI_48b, ↓aI_49b, ↓uI_49b, ↓aI_50b, ↓uI_50b, ↓aI_51b, ↓uI_51b, ↓aI_52b, ↓uI_52b, ↓aI_53b, ↓uI_53b, ↓aI_54b, ↓uI_54b, ↓aI_55b, ↓uI_55b, ↓aI_56b, ↓uI_56b, ↓aI_58b, ↓uI_58b, ↓uN_58b, ↓uM_58b, ↓aI_59b, ↓uI_59b, ↓aI_60b, ↓uI_60b, ↓aI_62b, ↓uI_62b, ↓uN_62b, ↓uM_62b, ↓aI_63b, ↓uI_63b, ↓uN_63b, ↓uM_63b, ↓aI_64b, ↓uI_64b, ↓aI_65b, ↓uI_65b, ↓aI_66b, ↓uI_66b, ↓aI_67b, ↓uI_67b, ↓aI_68b, ↓uI_68b, ↓aI_69b, ↓uI_69b, ↓aI_70b, ↓uI_70b, ↓aI_61b, ↓uI_61b, ↓aL_57b, ↓uL_57b, ↓aI_71b, ↓uI_71b, ↓aI_72b, ↓uI_72b, ↓aI_74b, ↓uI_74b, ↓aI_75b, ↓uI_75b, ↓aI_76b, ↓uI_76b, ↓aI_77b, ↓uI_77b, ↓aI_78b, ↓uI_78b, ↓aI_79b, ↓uI_79b, ↓aI_80b, ↓uI_80b, ↓aI_81b, ↓uI_81b, ↓gI_13b, ↓pI_13b, ↓gI_14b, ↓pI_14b, ↓gI_15b, ↓pI_15b, ↓gI_32b, ↓pI_32b, ↓gI_33b, ↓pI_33b, ↓gI_34b, ↓pI_34b, ↓gI_36b, ↓pI_36b, ↓gI_37b, ↓pI_37b, ↓gI_42b, ↓pI_42b, ↓gI_43b, ↓pI_43b, ↓gI_44b, ↓pI_44b, ↓gI_45b, ↓pI_45b, ↓gI_46b, ↓pI_46b, ↓gI_47b, ↓pI_47b, ↓gI_48b, ↓pI_48b, ↓gI_49b, ↓pI_49b, ↓gI_50b, ↓pI_50b, ↓gI_51b, ↓pI_51b, ↓pZ_32b, ↓pZ_33b, ↓pZ_46b, ↓xob_44b, ↓Option.bind_some, xob_44, gR_0, gR_1, gR_2, gR_3, gR_4, gR_5, gR_6, gR_7, gR_8, gR_9, gR_10, gR_11, gR_12, gR_16, gR_17, gR_18, gR_19, gR_20, gR_21, gR_22, gR_23, gR_24, gR_25, gR_26, gR_27, gR_28, gR_29, gR_30, gR_31, gR_35, gR_38, gR_39, gR_40, gR_41, gR_52, gR_53, gR_54, aI_45, aI_46, aI_47, aI_48, aI_49, aI_50, aI_51, aI_52, aI_53, aI_54, aI_55, aI_56, aI_58, aI_59, aI_60, aI_62, aI_63, aI_64, aI_65, aI_66, aI_67, aI_68, aI_69, aI_70, aI_61, aL_57, aI_71, aI_72, aI_74, aI_75, aI_76, aI_77, aI_78, aI_79, aI_80, aI_81, uI_45, uI_46, uI_47, uI_48, uI_49, uI_50, uI_51, uI_52, uI_53, uI_54, uI_55, uI_56, uI_58, uN_58, uM_58, uI_59, uI_60, uI_62, uN_62, uM_62, uI_63, uN_63, uM_63, uI_64, uI_65, uI_66, uI_67, uI_68, uI_69, uI_70, uI_61, uL_57, uI_71, uI_72, uI_74, uI_75, uI_76, uI_77, uI_78, uI_79, uI_80, uI_81, gI_13, gI_14, gI_15, gI_32, gI_33, gI_34, gI_36, gI_37, gI_42, gI_43, gI_44, gI_45, gI_46, gI_47, gI_48, gI_49, gI_50, gI_51, pI_13, pI_14, pI_15, pI_32, pI_33, pI_34, pI_36, pI_37, pI_42, pI_43, pI_44, pI_45, pI_46, pI_47, pI_48, pI_49, pI_50, pI_51, pZ_32, pZ_33, pZ_46, Option.bind_some, kl_0, kl_1, kl_2, kl_3, kl_4, kl_5, kl_6, kl_7, kl_8, kl_10, kl_13, kl_14, kl_15, kl_16, kl_24, kl_25, kl_26, kl_31, kl_32, kl_36, kl_40, kl_62, kl_99, kl_100, kl_255, kl_400, kl_992, kl_1023, kl_1024, kl_1984, kl_9200, kl_4600, kl_48, kl_57, kl_97, kl_122, kl_32767, nI_add, pk_mul, h2, nI_leI, h5, Nat.not_lt_zero, if_true, if_false, not_true, not_false_iff, and_true, true_and, and_false, false_and, Bool.false_eq_true, reduceCtorEq, pk_sub, sShE]
    | succ e ih =>
      intro i n t hi hn h1 h2
      obtain ⟨n, rfl⟩ : ∃ m, n = m + 1 := ⟨n - 1, by omega⟩
      have h5 : ¬ s.1 24 c ≤ i := by omega
      simp (disch := first | assumption | omega | decide | with_unfolding_all exact hW) only [fM_unmakesFirst_34, kl_0, kl_1, kl_2, kl_3, kl_4, kl_5, kl_6, kl_7, kl_8, kl_10, kl_13, kl_14, kl_15, kl_16, kl_24, kl_25, kl_26, kl_31, kl_32, kl_36, kl_40, kl_62, kl_99, kl_100, kl_255, kl_400, kl_992, kl_1023, kl_1024, kl_1984, kl_9200, kl_4600, kl_48, kl_57, kl_97, kl_122, kl_32767, nI_add, pk_mul, pk_sub]
      simp (disch := first | assumption | omega | decide | with_unfolding_all exact hW) only [↓gR_0b, ↓gR_1b, ↓gR_2b, ↓gR_3b, ↓gR_4b, ↓gR_5b, ↓gR_6b, ↓gR_7b, ↓gR_8b, ↓gR_9b, ↓gR_10b, ↓gR_11b, ↓gR_12b, ↓gR_16b, ↓gR_17b, ↓gR_18b, ↓gR_19b, ↓gR_20b, ↓gR_21b, ↓gR_22b, ↓gR_23b, ↓gR_24b, ↓gR_25b, ↓gR_26b, ↓gR_27b, ↓gR_28b, ↓gR_29b, ↓gR_30b, ↓gR_31b, ↓gR_35b, ↓gR_38b, ↓gR_39b, ↓gR_40b, ↓gR_41b, ↓gR_52b, ↓gR_53b, ↓gR_54b, ↓aI_45b, ↓uI_45b, ↓aI_46b, ↓uI_46b, ↓aI_47b, ↓uI_47b, ↓aI_48b, ↓uI_48b, ↓aI_49b, ↓uI_49b, ↓aI_50b, ↓uI_50b, ↓aI_51b, ↓uI_51b, ↓aI_52b, ↓uI_52b, ↓aI_53b, ↓uI_53b, ↓aI_54b, ↓uI_54b, ↓aI_55b, ↓uI_55b, ↓aI_56b, ↓uI_56b, ↓aI_58b, ↓uI_58b, ↓uN_58b, ↓uM_58b, ↓aI_59b, ↓uI_59b, ↓aI_60b, ↓uI_60b, ↓aI_62b, ↓uI_62b, ↓uN_62b, ↓uM_62b, ↓aI_63b, ↓uI_63b, ↓uN_63b, ↓uM_63b, ↓aI_64b, ↓uI_64b, ↓aI_65b, ↓uI_65b, ↓aI_66b, ↓uI_66b, ↓aI_67b, ↓uI_67b, ↓aI_68b, ↓uI_68b, ↓aI_69b, ↓uI_69b, ↓aI_70b, ↓uI_70b, ↓aI_61b, ↓uI_61b, ↓aL_57b, ↓uL_57b, ↓aI_71b, ↓uI_71b, ↓aI_72b, ↓uI_72b, ↓aI_74b, ↓uI_74b, ↓aI_75b, ↓uI_75b, ↓aI_76b, ↓uI_76b, ↓aI_77b, ↓uI_77b, ↓aI_78b, ↓uI_78b, ↓aI_79b, ↓uI_79b, ↓aI_80b, ↓uI_80b, ↓aI_81b, ↓uI_81b, ↓gI_13b, ↓pI_13b, ↓gI_14b, ↓pI_14b, ↓gI_15b, ↓pI_15b, ↓gI_32b, ↓pI_32b, ↓gI_33b, ↓pI_33b, ↓gI_34b, ↓pI_34b, ↓gI_36b, ↓pI_36b, ↓gI_37b, ↓pI_37b, ↓gI_42b, ↓pI_42b, ↓gI_43b, ↓pI_43b, ↓gI_44b, ↓pI_44b, ↓gI_45b, ↓pI_45b, ↓gI_46b, ↓pI_46b, ↓gI_47b, ↓pI_47b, ↓gI_48b, ↓pI_48b, ↓gI_49b, ↓pI_49b, ↓gI_50b, ↓pI_50b, ↓gI_51b, ↓pI_51b, ↓pZ_32b, ↓pZ_33b, ↓pZ_46b, ↓xob_44b, ↓Option.bind_some, xob_44, gR_0, gR_1, gR_2, gR_3, gR_4, gR_5, gR_6, gR_7, gR_8, gR_9, gR_10, gR_11, gR_12, gR_16, gR_17, gR_18, gR_19, gR_20, gR_21, gR_22, gR_23, gR_24, gR_25, gR_26, gR_27, gR_28, gR_29, gR_30, gR_31, gR_35, gR_38, gR_39, gR_40, gR_41, gR_52, gR_53, gR_54, aI_45, aI_46, aI_47, aI_48, aI_49, aI_50, aI_51, aI_52, aI_53, aI_54, aI_55, aI_56, aI_58, aI_59, aI_60, aI_62, aI_63, aI_64, aI_65, aI_66, aI_67, aI_68, aI_69, aI_70, aI_61, aL_57, aI_71, aI_72, aI_74, aI_75, aI_76, aI_77, aI_78, aI_79, aI_80, aI_81, uI_45, uI_46, uI_47, uI_48, uI_49, uI_50, uI_51, uI_52, uI_53, uI_54, uI_55, uI_56, uI_58, uN_58, uM_58, uI_59, uI_60, uI_62, uN_62, uM_62, uI_63, uN_63, uM_63, uI_64, uI_65, uI_66, uI_67, uI_68, uI_69, uI_70, uI_61, uL_57, uI_71, uI_72, uI_74, uI_75, uI_76, uI_77, uI_78, uI_79, uI_80, uI_81, gI_13, gI_14, gI_15, gI_32, gI_33, gI_34, gI_36, gI_37, gI_42, gI_43, gI_44, gI_45, gI_46, gI_47, gI_48, gI_49, gI_50, gI_51, pI_13, pI_14, pI_15, pI_32, pI_33, pI_34, pI_36, pI_37, pI_42, pI_43, pI_44, pI_45, pI_46, pI_47, pI_48, pI_49, pI_50, pI_51, pZ_32, pZ_33, pZ_46, Option.bind_some, kl_0, kl_1, kl_2, kl_3, kl_4, kl_5, kl_6, kl_7, kl_8, kl_10, kl_13, kl_14, kl_15, kl_16, kl_24, kl_25, kl_26, kl_31, kl_32, kl_36, kl_40, kl_62, kl_99, kl_100, kl_255, kl_400, kl_992, kl_1023, kl_1024, kl_1984, kl_9200, kl_4600, kl_48, kl_57, kl_97, kl_122, kl_32767, nI_add, pk_mul, h2, nI_leI, h5, Nat.not_lt_zero, if_true, if_false, not_true, not_false_iff, and_true, true_and, and_false, false_and, Bool.false_eq_true, reduceCtorEq, pk_sub]
      rw [ih (i + 1) n _ (by omega) (by omega) (by omega) (by rw [sA_1, if_neg (by simp)]; exact h2)]
      rfl
  have key : ∀ e i n t, i + e = N → e < n → WR0 t → (∀ q, q ≠ 17 → q ≠ 12 → q ≠ 20 → q ≠ 18 → t.1 q = s.1 q) → fM_unmakesFirst_3 n (mM d t X) (some (44, 0, 0)) (some (69, 0, 0)) (some (70, 0, 0)) (nI c) (nI N) (nI i) = some (nI N, mM d (sA (sShE (sUnE t c e i) c N (s.1 24 c - N) N) 24 c (s.1 24 c - N)) X) := by
    intro e
    induction e with
    | zero =>
      intro i n t hi hn hRt ht
      obtain ⟨n, rfl⟩ : ∃ m, n = m + 1 := ⟨n - 1, by omega⟩
      have h5 : N ≤ i := by omega
      simp (disch := first | assumption | omega | decide | with_unfolding_all exact hW) only [fM_unmakesFirst_3, kl_0, kl_1, kl_2, kl_3, kl_4, kl_5, kl_6, kl_7, kl_8, kl_10, kl_13, kl_14, kl_15, kl_16, kl_24, kl_25, kl_26, kl_31, kl_32, kl_36, kl_40, kl_62, kl_99, kl_100, kl_255, kl_400, kl_992, kl_1023, kl_1024, kl_1984, kl_9200, kl_4600, kl_48, kl_57, kl_97, kl_122, kl_32767, nI_add, pk_mul, nI_leI, h5, if_true]
      exact key2 (s.1 24 c - N) N xF t (by omega) (by unfold xF; omega) (Nat.le_refl _) (by rw [ht 24 (by simp) (by simp) (by simp) (by simp)])
    | succ e ih =>
      intro i n t hi hn hRt ht
      obtain ⟨n, rfl⟩ : ∃ m, n = m + 1 := ⟨n - 1, by omega⟩
      have h5 : ¬ N ≤ i := by omega
      have h6 := (hfe.2.2 i).2 (by omega)
      rw [← ht 25 (by simp) (by simp) (by simp) (by simp)] at h6
      simp (disch := first | assumption | omega | decide | with_unfolding_all exact hW) only [fM_unmakesFirst_3, kl_0, kl_1, kl_2, kl_3, kl_4, kl_5, kl_6, kl_7, kl_8, kl_10, kl_13, kl_14, kl_15, kl_16, kl_24, kl_25, kl_26, kl_31, kl_32, kl_36, kl_40, kl_62, kl_99, kl_100, kl_255, kl_400, kl_992, kl_1023, kl_1024, kl_1984, kl_9200, kl_4600, kl_48, kl_57, kl_97, kl_122, kl_32767, nI_add, pk_mul, nI_leI, h5, if_false]
      simp (disch := first | assumption | omega | decide | with_unfolding_all exact hW) only [↓gR_0b, ↓gR_1b, ↓gR_2b, ↓gR_3b, ↓gR_4b, ↓gR_5b, ↓gR_6b, ↓gR_7b, ↓gR_8b, ↓gR_9b, ↓gR_10b, ↓gR_11b, ↓gR_12b, ↓gR_16b, ↓gR_17b, ↓gR_18b, ↓gR_19b, ↓gR_20b, ↓gR_21b, ↓gR_22b, ↓gR_23b, ↓gR_24b, ↓gR_25b, ↓gR_26b, ↓gR_27b, ↓gR_28b, ↓gR_29b, ↓gR_30b, ↓gR_31b, ↓gR_35b, ↓gR_38b, ↓gR_39b, ↓gR_40b, ↓gR_41b, ↓gR_52b, ↓gR_53b, ↓gR_54b, ↓aI_45b, ↓uI_45b, ↓aI_46b, ↓uI_46b, ↓aI_47b, ↓uI_47b, ↓aI_48b, ↓uI_48b, ↓aI_49b, ↓uI_49b, ↓aI_50b, ↓uI_50b, ↓aI_51b, ↓uI_51b, ↓aI_52b, ↓uI_52b, ↓aI_53b, ↓uI_53b, ↓aI_54b, ↓uI_54b, ↓aI_55b, ↓uI_55b, ↓aI_56b, ↓uI_56b, ↓aI_58b, ↓uI_58b, ↓uN_58b, ↓uM_58b, ↓aI_59b, ↓uI_59b, ↓aI_60b, ↓uI_60b, ↓aI_62b, ↓uI_62b, ↓uN_62b, ↓uM_62b, ↓aI_63b, ↓uI_63b, ↓uN_63b, ↓uM_63b, ↓aI_64b, ↓uI_64b, ↓aI_65b, ↓uI_65b, ↓aI_66b, ↓uI_66b, ↓aI_67b, ↓uI_67b, ↓aI_68b, ↓uI_68b, ↓aI_69b, ↓uI_69b, ↓aI_70b, ↓uI_70b, ↓aI_61b, ↓uI_61b, ↓aL_57b, ↓uL_57b, ↓aI_71b, ↓uI_71b, ↓aI_72b, ↓uI_72b, ↓aI_74b, ↓uI_74b, ↓aI_75b, ↓uI_75b, ↓aI_76b, ↓uI_76b, ↓aI_77b, ↓uI_77b, ↓aI_78b, ↓uI_78b, ↓aI_79b, ↓uI_79b, ↓aI_80b, ↓uI_80b, ↓aI_81b, ↓uI_81b, ↓gI_13b, ↓pI_13b, ↓gI_14b, ↓pI_14b, ↓gI_15b, ↓pI_15b, ↓gI_32b, ↓pI_32b, ↓gI_33b, ↓pI_33b, ↓gI_34b, ↓pI_34b, ↓gI_36b, ↓pI_36b, ↓gI_37b, ↓pI_37b, ↓gI_42b, ↓pI_42b, ↓gI_43b, ↓pI_43b, ↓gI_44b, ↓pI_44b, ↓gI_45b, ↓pI_45b, ↓gI_46b, ↓pI_46b, ↓gI_47b, ↓pI_47b, ↓gI_48b, ↓pI_48b, ↓gI_49b, ↓pI_49b, ↓gI_50b, ↓pI_50b, ↓gI_51b, ↓pI_51b, ↓pZ_32b, ↓pZ_33b, ↓pZ_46b, ↓xob_44b, ↓Option.bind_some, xob_44, gR_0, gR_1, gR_2, gR_3, gR_4, gR_5, gR_6, gR_7, gR_8, gR_9, gR_10, gR_11, gR_12, gR_16, gR_17, gR_18, gR_19, gR_20, gR_21, gR_22, gR_23, gR_24, gR_25, gR_26, gR_27, gR_28, gR_29, gR_30, gR_31, gR_35, gR_38, gR_39, gR_40, gR_41, gR_52, gR_53, gR_54, aI_45, aI_46, aI_47, aI_48, aI_49, aI_50, aI_51, aI_52, aI_53, aI_54, aI_55, aI_56, aI_58, aI_59, aI_60, aI_62, aI_63, aI_64, aI_65, aI_66, aI_67, aI_68, aI_69, aI_70, aI_61, aL_57, aI_71, aI_72, aI_74, aI_75, aI_76, aI_77, aI_78, aI_79, aI_80, aI_81, uI_45, uI_46, uI_47, uI_48, uI_49, uI_50, uI_51, uI_52, uI_53, uI_54, uI_55, uI_56, uI_58, uN_58, uM_58, uI_59, uI_60, uI_62, uN_62, uM_62, uI_63, uN_63, uM_63, uI_64, uI_65, uI_66, uI_67, uI_68, uI_69, uI_70, uI_61, uL_57, uI_71, uI_72, uI_74, uI_75, uI_76, uI_77, uI_78, uI_79, uI_80, uI_81, gI_13, gI_14, gI_15, gI_32, gI_33, gI_34, gI_36, gI_37, gI_42, gI_43, gI_44, gI_45, gI_46, gI_47, gI_48, gI_49, gI_50, gI_51, pI_13, pI_14, pI_15, pI_32, pI_33, pI_34, pI_36, pI_37, pI_42, pI_43, pI_44, pI_45, pI_46, pI_47, pI_48, pI_49, pI_50, pI_51, pZ_32, pZ_33, pZ_46, Option.bind_some, kl_0, kl_1, kl_2, kl_3, kl_4, kl_5, kl_6, kl_7, kl_8, kl_10, kl_13, kl_14, kl_15, kl_16, kl_24, kl_25, kl_26, kl_31, kl_32, kl_36, kl_40, kl_62, kl_99, kl_100, kl_255, kl_400, kl_992, kl_1023, kl_1024, kl_1984, kl_9200, kl_4600, kl_48, kl_57, kl_97, kl_122, kl_32767, nI_add, pk_mul]
      have h7 := M_empties (d := d) (X := X) (m := t.1 25 (24 * c + i)) hW hRt
      rw [en_lt h6] at h7
      rw [h7, Option.bind_some, ih (i + 1) n _ (by omega) (by omega) (hRt.emp _) (fun q a1 a2 a3 a4 => by rw [sEmp_1 a1 a2 a3 a4, ht q a1 a2 a3 a4])]
      rfl
  unfold fM_unmakesFirst
  rw [kl_0, key N 0 xF s (by omega) (by unfold xF; omega) hR (fun _ _ _ _ _ => rfl)]
  rfl
