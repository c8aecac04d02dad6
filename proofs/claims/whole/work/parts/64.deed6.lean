/-! the calls in deed: of, reap, cache -/
theorem cl_3 {b : Nat} {t : xS} {Y : xMem} (hW : XW Y) (hb : b < 3) : xal (cM b t Y) (some (3, b, 0)) = some (nI 32) := xal_w (M := cM b t Y) hW (sh_3 hb) (by decide) (by decide)
theorem D_slabs14 {b : Nat} {t : xS} {Y : xMem} {w : Int32} {S : Nat → Bool} (hW : XW Y) (hb : b < 3) (hw : ∀ x, (en 4 m1 x = w) = (S x = true)) : ∀ e i n a, i + e = 32 → e < n → fA_slabsOf_14 n (cM b t Y) w (nI a) (some (3, b, 0)) (nI 32) (nI i) = some (nI (a + qC (fun p => S (t.1 13 p)) e i), cM b t Y) := by
  intro e
  induction e with
  | zero =>
    intro i n a hie hn
    obtain ⟨n, rfl⟩ : ∃ m, n = m + 1 := ⟨n - 1, by omega⟩
    have h5 : 32 ≤ i := by omega
    simp (disch := first | assumption | omega | decide | with_unfolding_all exact hW) only [fA_slabsOf_14, nI_leI, h5, Nat.not_lt_zero, if_true, if_false, not_true, not_false_iff, and_true, true_and, and_false, false_and, Bool.false_eq_true, reduceCtorEq]
    rfl
  | succ e ih =>
    intro i n a hie hn
    obtain ⟨n, rfl⟩ : ∃ m, n = m + 1 := ⟨n - 1, by omega⟩
    have h5 : ¬ 32 ≤ i := by omega
    have es : qC (fun p => S (t.1 13 p)) (e + 1) i = (if S (t.1 13 i) = true then 1 else 0) + qC (fun p => S (t.1 13 p)) e (i + 1) := rfl
    rw [es]
    simp (disch := first | assumption | omega | decide | with_unfolding_all exact hW) only [fA_slabsOf_14, fA_slabsOf_39, ↓km1, ↓cO_1b, ↓cO_2b, ↓cO_14b, ↓cO_17b, ↓cO_19b, ↓cO_21b, ↓cR_1_0b, ↓cR_1_1b, ↓cR_1_2b, ↓cR_1_3b, ↓cR_2_0b, ↓cR_2_1b, ↓cR_2_2b, ↓cR_2_3b, ↓cR_2_4b, ↓cR_2_5b, ↓cR_2_6b, ↓cR_2_7b, ↓cR_14_14b, ↓cR_14_15b, ↓cR_14_16b, ↓cR_14_17b, ↓cR_17_0b, ↓cR_19_0b, ↓cR_21_0b, ↓cA_11b, ↓cA_12b, ↓cg_1_4b, ↓cg_1_5b, ↓cg_1_6b, ↓cg_1_7b, ↓cg_14_0b, ↓cg_14_1b, ↓cg_14_2b, ↓cg_14_3b, ↓cg_14_4b, ↓cg_14_5b, ↓cg_14_6b, ↓cg_14_7b, ↓cg_14_8b, ↓cg_14_9b, ↓cg_14_10b, ↓cg_14_11b, ↓cg_14_12b, ↓cg_14_13b, ↓cg_17_1b, ↓cg_19_1b, ↓cg_21_1b, ↓ca_3b, ↓ca_4b, ↓ca_5b, ↓ca_6b, ↓ca_9b, ↓ca_15b, ↓ca_16b, ↓ca_18b, ↓ca_20b, ↓ca_22b, ↓ca_13b, ↓ca_7b, ↓ca_8b, ↓cp_1_4b, ↓cp_1_6b, ↓cp_1_7b, ↓cp_14_0b, ↓cp_14_2b, ↓cp_14_4b, ↓cp_14_5b, ↓cp_14_6b, ↓cp_14_7b, ↓cp_14_8b, ↓cp_14_9b, ↓cp_14_10b, ↓cp_14_11b, ↓cp_14_12b, ↓cp_14_13b, ↓cp_17_1b, ↓cp_19_1b, ↓cp_21_1b, ↓cu_4b, ↓cu_15b, ↓cn_15b, ↓cm_15b, ↓cu_16b, ↓cn_16b, ↓cm_16b, ↓cu_18b, ↓cu_20b, ↓cu_22b, ↓cu_9b, ↓cl_15b, ↓cl_16b, ↓cl_18b, ↓cl_20b, ↓cl_22b, ↓Option.bind_some, cO_1, cO_2, cO_14, cO_17, cO_19, cO_21, cR_1_0, cR_1_1, cR_1_2, cR_1_3, cR_2_0, cR_2_1, cR_2_2, cR_2_3, cR_2_4, cR_2_5, cR_2_6, cR_2_7, cR_14_14, cR_14_15, cR_14_16, cR_14_17, cR_17_0, cR_19_0, cR_21_0, cA_11, cA_12, cg_1_4, cg_1_5, cg_1_6, cg_1_7, cg_14_0, cg_14_1, cg_14_2, cg_14_3, cg_14_4, cg_14_5, cg_14_6, cg_14_7, cg_14_8, cg_14_9, cg_14_10, cg_14_11, cg_14_12, cg_14_13, cg_17_1, cg_19_1, cg_21_1, ca_3, ca_4, ca_5, ca_6, ca_9, ca_15, ca_16, ca_18, ca_20, ca_22, ca_13, ca_7, ca_8, cp_1_4, cp_1_6, cp_1_7, cp_14_0, cp_14_2, cp_14_4, cp_14_5, cp_14_6, cp_14_7, cp_14_8, cp_14_9, cp_14_10, cp_14_11, cp_14_12, cp_14_13, cp_17_1, cp_19_1, cp_21_1, cu_4, cu_15, cn_15, cm_15, cu_16, cn_16, cm_16, cu_18, cu_20, cu_22, cu_9, cl_15, cl_16, cl_18, cl_20, cl_22, Option.bind_some, kl_0, kl_1, kl_2, kl_3, kl_4, kl_5, kl_6, kl_7, kl_8, kl_10, kl_13, kl_14, kl_15, kl_16, kl_24, kl_25, kl_26, kl_31, kl_32, kl_36, kl_40, kl_62, kl_99, kl_100, kl_255, kl_400, kl_992, kl_1023, kl_1024, kl_1984, kl_9200, kl_4600, kl_48, kl_57, kl_97, kl_122, kl_32767, nI_add, pk_mul, nI_leI, h5, if_false, hw]
    by_cases h : S (t.1 13 i) = true
    · rw [if_pos h, if_pos h, ih (i + 1) n _ (by omega) (by omega), Nat.add_assoc]
    · rw [if_neg h, if_neg h, ih (i + 1) n _ (by omega) (by omega), Nat.zero_add, Nat.add_zero]
theorem D_slabsOf {b : Nat} {t : xS} {Y : xMem} {w : Int32} {S : Nat → Bool} (hW : XW Y) (hb : b < 3) (hw : ∀ x, (en 4 m1 x = w) = (S x = true)) : fA_slabsOf (cM b t Y) (2, b, 0) w = some (nI (qC (fun p => S (t.1 13 p)) 32 0), cM b t Y) := by
  unfold fA_slabsOf
  simp (disch := first | assumption | omega | decide | with_unfolding_all exact hW) only [↓km1, ↓cO_1b, ↓cO_2b, ↓cO_14b, ↓cO_17b, ↓cO_19b, ↓cO_21b, ↓cR_1_0b, ↓cR_1_1b, ↓cR_1_2b, ↓cR_1_3b, ↓cR_2_0b, ↓cR_2_1b, ↓cR_2_2b, ↓cR_2_3b, ↓cR_2_4b, ↓cR_2_5b, ↓cR_2_6b, ↓cR_2_7b, ↓cR_14_14b, ↓cR_14_15b, ↓cR_14_16b, ↓cR_14_17b, ↓cR_17_0b, ↓cR_19_0b, ↓cR_21_0b, ↓cA_11b, ↓cA_12b, ↓cg_1_4b, ↓cg_1_5b, ↓cg_1_6b, ↓cg_1_7b, ↓cg_14_0b, ↓cg_14_1b, ↓cg_14_2b, ↓cg_14_3b, ↓cg_14_4b, ↓cg_14_5b, ↓cg_14_6b, ↓cg_14_7b, ↓cg_14_8b, ↓cg_14_9b, ↓cg_14_10b, ↓cg_14_11b, ↓cg_14_12b, ↓cg_14_13b, ↓cg_17_1b, ↓cg_19_1b, ↓cg_21_1b, ↓ca_3b, ↓ca_4b, ↓ca_5b, ↓ca_6b, ↓ca_9b, ↓ca_15b, ↓ca_16b, ↓ca_18b, ↓ca_20b, ↓ca_22b, ↓ca_13b, ↓ca_7b, ↓ca_8b, ↓cp_1_4b, ↓cp_1_6b, ↓cp_1_7b, ↓cp_14_0b, ↓cp_14_2b, ↓cp_14_4b, ↓cp_14_5b, ↓cp_14_6b, ↓cp_14_7b, ↓cp_14_8b, ↓cp_14_9b, ↓cp_14_10b, ↓cp_14_11b, ↓cp_14_12b, ↓cp_14_13b, ↓cp_17_1b, ↓cp_19_1b, ↓cp_21_1b, ↓cu_4b, ↓cu_15b, ↓cn_15b, ↓cm_15b, ↓cu_16b, ↓cn_16b, ↓cm_16b, ↓cu_18b, ↓cu_20b, ↓cu_22b, ↓cu_9b, ↓cl_15b, ↓cl_16b, ↓cl_18b, ↓cl_20b, ↓cl_22b, ↓Option.bind_some, cO_1, cO_2, cO_14, cO_17, cO_19, cO_21, cR_1_0, cR_1_1, cR_1_2, cR_1_3, cR_2_0, cR_2_1, cR_2_2, cR_2_3, cR_2_4, cR_2_5, cR_2_6, cR_2_7, cR_14_14, cR_14_15, cR_14_16, cR_14_17, cR_17_0, cR_19_0, cR_21_0, cA_11, cA_12, cg_1_4, cg_1_5, cg_1_6, cg_1_7, cg_14_0, cg_14_1, cg_14_2, cg_14_3, cg_14_4, cg_14_5, cg_14_6, cg_14_7, cg_14_8, cg_14_9, cg_14_10, cg_14_11, cg_14_12, cg_14_13, cg_17_1, cg_19_1, cg_21_1, ca_3, ca_4, ca_5, ca_6, ca_9, ca_15, ca_16, ca_18, ca_20, ca_22, ca_13, ca_7, ca_8, cp_1_4, cp_1_6, cp_1_7, cp_14_0, cp_14_2, cp_14_4, cp_14_5, cp_14_6, cp_14_7, cp_14_8, cp_14_9, cp_14_10, cp_14_11, cp_14_12, cp_14_13, cp_17_1, cp_19_1, cp_21_1, cu_4, cu_15, cn_15, cm_15, cu_16, cn_16, cm_16, cu_18, cu_20, cu_22, cu_9, cl_15, cl_16, cl_18, cl_20, cl_22, Option.bind_some, kl_0, kl_1, kl_2, kl_3, kl_4, kl_5, kl_6, kl_7, kl_8, kl_10, kl_13, kl_14, kl_15, kl_16, kl_24, kl_25, kl_26, kl_31, kl_32, kl_36, kl_40, kl_62, kl_99, kl_100, kl_255, kl_400, kl_992, kl_1023, kl_1024, kl_1984, kl_9200, kl_4600, kl_48, kl_57, kl_97, kl_122, kl_32767, nI_add, pk_mul]
  rw [cl_3 hW hb, Option.bind_some, D_slabs14 hW hb hw 32 0 xF 0 (by omega) (by unfold xF; omega), Nat.zero_add]
theorem M_slabsOf {d : Int32} {s : xS} {X : xMem} {c : Nat} (hW : XW X) (hc : c < 4) : fM_slabsOf (mM d s X) (44, 0, 0) (nI c) = some (nI (qC (fun p => (fun x => x == c) (s.1 13 p)) 32 0), mM d s X) := by
  have key : ∀ e i n a, i + e = 32 → e < n → fM_slabsOf_4 n (mM d s X) (some (44, 0, 0)) (nI c) (nI a) (nI i) = some (nI (a + qC (fun p => (fun x => x == c) (s.1 13 p)) e i), mM d s X) := by
    intro e
    induction e with
    | zero =>
      intro i n a hie hn
      obtain ⟨n, rfl⟩ : ∃ m, n = m + 1 := ⟨n - 1, by omega⟩
      have h5 : 32 ≤ i := by omega
      simp (disch := first | assumption | omega | decide | with_unfolding_all exact hW) only [fM_slabsOf_4, ↓gR_0b, ↓gR_1b, ↓gR_2b, ↓gR_3b, ↓gR_4b, ↓gR_5b, ↓gR_6b, ↓gR_7b, ↓gR_8b, ↓gR_9b, ↓gR_10b, ↓gR_11b, ↓gR_12b, ↓gR_16b, ↓gR_17b, ↓gR_18b, ↓gR_19b, ↓gR_20b, ↓gR_21b, ↓gR_22b, ↓gR_23b, ↓gR_24b, ↓gR_25b, ↓gR_26b, ↓gR_27b, ↓gR_28b, ↓gR_29b, ↓gR_30b, ↓gR_31b, ↓gR_35b, ↓gR_38b, ↓gR_39b, ↓gR_40b, ↓gR_41b, ↓gR_52b, ↓gR_53b, ↓gR_54b, ↓aI_45b, ↓uI_45b, ↓aI_46b, ↓uI_46b, ↓aI_47b, ↓uI_47b, ↓aI_48b, ↓uI_48b, ↓aI_49b, ↓uI_49b, ↓aI_50b, ↓uI_50b, ↓aI_51b, ↓uI_51b, ↓aI_52b, ↓uI_52b, ↓aI_53b, ↓uI_53b, ↓aI_54b, ↓uI_54b, ↓aI_55b, ↓uI_55b, ↓aI_56b, ↓uI_56b, ↓aI_58b, ↓uI_58b, ↓uN_58b, ↓uM_58b, ↓aI_59b, ↓uI_59b, ↓aI_60b, ↓uI_60b, ↓aI_62b, ↓uI_62b, ↓uN_62b, ↓uM_62b, ↓aI_63b, ↓uI_63b, ↓uN_63b, ↓uM_63b, ↓aI_64b, ↓uI_64b, ↓aI_65b, ↓uI_65b, ↓aI_66b, ↓uI_66b, ↓aI_67b, ↓uI_67b, ↓aI_68b, ↓uI_68b, ↓aI_69b, ↓uI_69b, ↓aI_70b, ↓uI_70b, ↓aI_61b, ↓uI_61b, ↓aL_57b, ↓uL_57b, ↓aI_71b, ↓uI_71b, ↓aI_72b, ↓uI_72b, ↓aI_74b, ↓uI_74b, ↓aI_75b, ↓uI_75b, ↓aI_76b, ↓uI_76b, ↓aI_77b, ↓uI_77b, ↓aI_78b, ↓uI_78b, ↓aI_79b, ↓uI_79b, ↓aI_80b, ↓uI_80b, ↓aI_81b, ↓uI_81b, ↓gI_13b, ↓pI_13b, ↓gI_14b, ↓pI_14b, ↓gI_15b, ↓pI_15b, ↓gI_32b, ↓pI_32b, ↓gI_33b, ↓pI_33b, ↓gI_34b, ↓pI_34b, ↓gI_36b, ↓pI_36b, ↓gI_37b, ↓pI_37b, ↓gI_42b, ↓pI_42b, ↓gI_43b, ↓pI_43b, ↓gI_44b, ↓pI_44b, ↓gI_45b, ↓pI_45b, ↓gI_46b, ↓pI_46b, ↓gI_47b, ↓pI_47b, ↓gI_48b, ↓pI_48b, ↓gI_49b, ↓pI_49b, ↓gI_50b, ↓pI_50b, ↓gI_51b, ↓pI_51b, ↓pZ_32b, ↓pZ_33b, ↓pZ_46b, ↓xob_44b, ↓Option.bind_some, xob_44, gR_0, gR_1, gR_2, gR_3, gR_4, gR_5, gR_6, gR_7, gR_8, gR_9, gR_10, gR_11, gR_12, gR_16, gR_17, gR_18, gR_19, gR_20, gR_21, gR_22, gR_23, gR_24, gR_25, gR_26, gR_27, gR_28, gR_29, gR_30, gR_31, gR_35, gR_38, gR_39, gR_40, gR_41, gR_52, gR_53, gR_54, aI_45, aI_46, aI_47, aI_48, aI_49, aI_50, aI_51, aI_52, aI_53, aI_54, aI_55, aI_56, aI_58, aI_59, aI_60, aI_62, aI_63, aI_64, aI_65, aI_66, aI_67, aI_68, aI_69, aI_70, aI_61, aL_57, aI_71, aI_72, aI_74, aI_75, aI_76, aI_77, aI_78, aI_79, aI_80, aI_81, uI_45, uI_46, uI_47, uI_48, uI_49, uI_50, uI_51, uI_52, uI_53, uI_54, uI_55, uI_56, uI_58, uN_58, uM_58, uI_59, uI_60, uI_62, uN_62, uM_62, uI_63, uN_63, uM_63, uI_64, uI_65, uI_66, uI_67, uI_68, uI_69, uI_70, uI_61, uL_57, uI_71, uI_72, uI_74, uI_75, uI_76, uI_77, uI_78, uI_79, uI_80, uI_81, gI_13, gI_14, gI_15, gI_32, gI_33, gI_34, gI_36, gI_37, gI_42, gI_43, gI_44, gI_45, gI_46, gI_47, gI_48, gI_49, gI_50, gI_51, pI_13, pI_14, pI_15, pI_32, pI_33, pI_34, pI_36, pI_37, pI_42, pI_43, pI_44, pI_45, pI_46, pI_47, pI_48, pI_49, pI_50, pI_51, pZ_32, pZ_33, pZ_46, Option.bind_some, kl_0, kl_1, kl_2, kl_3, kl_4, kl_5, kl_6, kl_7, kl_8, kl_10, kl_13, kl_14, kl_15, kl_16, kl_24, kl_25, kl_26, kl_31, kl_32, kl_36, kl_40, kl_62, kl_99, kl_100, kl_255, kl_400, kl_992, kl_1023, kl_1024, kl_1984, kl_9200, kl_4600, kl_48, kl_57, kl_97, kl_122, kl_32767, nI_add, pk_mul, nI_leI, h5, Nat.not_lt_zero, if_true, if_false, not_true, not_false_iff, and_true, true_and, and_false, false_and, Bool.false_eq_true, reduceCtorEq]
      rfl
    | succ e ih =>
      intro i n a hie hn
      obtain ⟨n, rfl⟩ : ∃ m, n = m + 1 := ⟨n - 1, by omega⟩
      have h5 : ¬ 32 ≤ i := by omega
      have es : qC (fun p => (fun x => x == c) (s.1 13 p)) (e + 1) i = (if (s.1 13 i == c) = true then 1 else 0) + qC (fun p => (fun x => x == c) (s.1 13 p)) e (i + 1) := rfl
      rw [es]
      simp (disch := first | assumption | omega | decide | with_unfolding_all exact hW) only [fM_slabsOf_4, fM_slabsOf_26, ↓gR_0b, ↓gR_1b, ↓gR_2b, ↓gR_3b, ↓gR_4b, ↓gR_5b, ↓gR_6b, ↓gR_7b, ↓gR_8b, ↓gR_9b, ↓gR_10b, ↓gR_11b, ↓gR_12b, ↓gR_16b, ↓gR_17b, ↓gR_18b, ↓gR_19b, ↓gR_20b, ↓gR_21b, ↓gR_22b, ↓gR_23b, ↓gR_24b, ↓gR_25b, ↓gR_26b, ↓gR_27b, ↓gR_28b, ↓gR_29b, ↓gR_30b, ↓gR_31b, ↓gR_35b, ↓gR_38b, ↓gR_39b, ↓gR_40b, ↓gR_41b, ↓gR_52b, ↓gR_53b, ↓gR_54b, ↓aI_45b, ↓uI_45b, ↓aI_46b, ↓uI_46b, ↓aI_47b, ↓uI_47b, ↓aI_48b, ↓uI_48b, ↓aI_49b, ↓uI_49b, ↓aI_50b, ↓uI_50b, ↓aI_51b, ↓uI_51b, ↓aI_52b, ↓uI_52b, ↓aI_53b, ↓uI_53b, ↓aI_54b, ↓uI_54b, ↓aI_55b, ↓uI_55b, ↓aI_56b, ↓uI_56b, ↓aI_58b, ↓uI_58b, ↓uN_58b, ↓uM_58b, ↓aI_59b, ↓uI_59b, ↓aI_60b, ↓uI_60b, ↓aI_62b, ↓uI_62b, ↓uN_62b, ↓uM_62b, ↓aI_63b, ↓uI_63b, ↓uN_63b, ↓uM_63b, ↓aI_64b, ↓uI_64b, ↓aI_65b, ↓uI_65b, ↓aI_66b, ↓uI_66b, ↓aI_67b, ↓uI_67b, ↓aI_68b, ↓uI_68b, ↓aI_69b, ↓uI_69b, ↓aI_70b, ↓uI_70b, ↓aI_61b, ↓uI_61b, ↓aL_57b, ↓uL_57b, ↓aI_71b, ↓uI_71b, ↓aI_72b, ↓uI_72b, ↓aI_74b, ↓uI_74b, ↓aI_75b, ↓uI_75b, ↓aI_76b, ↓uI_76b, ↓aI_77b, ↓uI_77b, ↓aI_78b, ↓uI_78b, ↓aI_79b, ↓uI_79b, ↓aI_80b, ↓uI_80b, ↓aI_81b, ↓uI_81b, ↓gI_13b, ↓pI_13b, ↓gI_14b, ↓pI_14b, ↓gI_15b, ↓pI_15b, ↓gI_32b, ↓pI_32b, ↓gI_33b, ↓pI_33b, ↓gI_34b, ↓pI_34b, ↓gI_36b, ↓pI_36b, ↓gI_37b, ↓pI_37b, ↓gI_42b, ↓pI_42b, ↓gI_43b, ↓pI_43b, ↓gI_44b, ↓pI_44b, ↓gI_45b, ↓pI_45b, ↓gI_46b, ↓pI_46b, ↓gI_47b, ↓pI_47b, ↓gI_48b, ↓pI_48b, ↓gI_49b, ↓pI_49b, ↓gI_50b, ↓pI_50b, ↓gI_51b, ↓pI_51b, ↓pZ_32b, ↓pZ_33b, ↓pZ_46b, ↓xob_44b, ↓Option.bind_some, xob_44, gR_0, gR_1, gR_2, gR_3, gR_4, gR_5, gR_6, gR_7, gR_8, gR_9, gR_10, gR_11, gR_12, gR_16, gR_17, gR_18, gR_19, gR_20, gR_21, gR_22, gR_23, gR_24, gR_25, gR_26, gR_27, gR_28, gR_29, gR_30, gR_31, gR_35, gR_38, gR_39, gR_40, gR_41, gR_52, gR_53, gR_54, aI_45, aI_46, aI_47, aI_48, aI_49, aI_50, aI_51, aI_52, aI_53, aI_54, aI_55, aI_56, aI_58, aI_59, aI_60, aI_62, aI_63, aI_64, aI_65, aI_66, aI_67, aI_68, aI_69, aI_70, aI_61, aL_57, aI_71, aI_72, aI_74, aI_75, aI_76, aI_77, aI_78, aI_79, aI_80, aI_81, uI_45, uI_46, uI_47, uI_48, uI_49, uI_50, uI_51, uI_52, uI_53, uI_54, uI_55, uI_56, uI_58, uN_58, uM_58, uI_59, uI_60, uI_62, uN_62, uM_62, uI_63, uN_63, uM_63, uI_64, uI_65, uI_66, uI_67, uI_68, uI_69, uI_70, uI_61, uL_57, uI_71, uI_72, uI_74, uI_75, uI_76, uI_77, uI_78, uI_79, uI_80, uI_81, gI_13, gI_14, gI_15, gI_32, gI_33, gI_34, gI_36, gI_37, gI_42, gI_43, gI_44, gI_45, gI_46, gI_47, gI_48, gI_49, gI_50, gI_51, pI_13, pI_14, pI_15, pI_32, pI_33, pI_34, pI_36, pI_37, pI_42, pI_43, pI_44, pI_45, pI_46, pI_47, pI_48, pI_49, pI_50, pI_51, pZ_32, pZ_33, pZ_46, Option.bind_some, kl_0, kl_1, kl_2, kl_3, kl_4, kl_5, kl_6, kl_7, kl_8, kl_10, kl_13, kl_14, kl_15, kl_16, kl_24, kl_25, kl_26, kl_31, kl_32, kl_36, kl_40, kl_62, kl_99, kl_100, kl_255, kl_400, kl_992, kl_1023, kl_1024, kl_1984, kl_9200, kl_4600, kl_48, kl_57, kl_97, kl_122, kl_32767, nI_add, pk_mul, en_eq, nI_leI, h5, if_false]
      by_cases h : s.1 13 i = c
      · rw [if_pos h, if_pos (by rw [h]; simp), ih (i + 1) n _ (by omega) (by omega), Nat.add_assoc]
      · rw [if_neg h, if_neg (by simpa using h), ih (i + 1) n _ (by omega) (by omega), Nat.zero_add]; rfl
  unfold fM_slabsOf
  rw [kl_0, key 32 0 xF 0 (by omega) (by unfold xF; omega), Nat.zero_add]
def rOf1 (s : xS) (c w : Nat) : Nat := if w = 3 then qPer s c else if w = 8 then s.1 22 c else if w = 9 then s.1 24 c else if w = 10 then s.1 8 c else if w = 11 then s.1 9 c else if w = 12 then qC (fun p => (fun x => x == c) (s.1 13 p)) 32 0 else if w = 13 then s.1 10 c else if w = 14 then s.1 11 c else if w = 15 then s.1 12 c else s.1 w c
def rOf (s : xS) (a0 a1 : Int32) : Int32 := if cN (s.1 19 0) a0 < s.1 19 0 ∧ cN 16 a1 < 16 then nI (rOf1 s (cN (s.1 19 0) a0) (cN 16 a1)) else m1
theorem rOf_no {s : xS} {a0 a1 : Int32} (h : ¬ (cN (s.1 19 0) a0 < s.1 19 0 ∧ cN 16 a1 < 16)) : rOf s a0 a1 = m1 := if_neg h
theorem rOf_yes {s : xS} {c w : Nat} (hn : s.1 19 0 ≤ 4) (hc : c < s.1 19 0) (hw : w < 16) : rOf s (nI c) (nI w) = nI (rOf1 s c w) := by
  unfold rOf
  rw [cN_nI hc (by omega), cN_nI hw (by decide), if_pos ⟨hc, hw⟩]
theorem kl_9 : (9 : Int32) = nI 9 := of_decide_eq_true rfl
theorem kl_11 : (11 : Int32) = nI 11 := of_decide_eq_true rfl
theorem kl_12 : (12 : Int32) = nI 12 := of_decide_eq_true rfl
theorem C_tells {b : Nat} {t : xS} {Y : xMem} {c w : Nat} (hW : XW Y) (hb : b < 3) (hi : c < 4) (hw : w ≤ 15) (hn : w ≠ 12) : fC_tells (cM b t Y) (14, b, c) (nI w) = some (nI (rOf1 t c w), cM b t Y) := by
  unfold fC_tells
  rcases (by omega : w = 0 ∨ w = 1 ∨ w = 2 ∨ w = 3 ∨ w = 4 ∨ w = 5 ∨ w = 6 ∨ w = 7 ∨ w = 8 ∨ w = 9 ∨ w = 10 ∨ w = 11 ∨ w = 12 ∨ w = 13 ∨ w = 14 ∨ w = 15) with rfl | rfl | rfl | rfl | rfl | rfl | rfl | rfl | rfl | rfl | rfl | rfl | rfl | rfl | rfl | rfl <;> first | exact absurd rfl hn | (simp (disch := first | assumption | omega | decide | with_unfolding_all exact hW) only [↓reduceIte, kl_0, kl_1, kl_2, kl_3, kl_4, kl_5, kl_6, kl_7, kl_8, kl_10, kl_13, kl_14, kl_15, kl_16, kl_24, kl_25, kl_26, kl_31, kl_32, kl_36, kl_40, kl_62, kl_99, kl_100, kl_255, kl_400, kl_992, kl_1023, kl_1024, kl_1984, kl_9200, kl_4600, kl_48, kl_57, kl_97, kl_122, kl_32767, kl_9, kl_11, kl_12, nI_eq, Nat.reduceEqDiff, ↓km1, ↓cO_1b, ↓cO_2b, ↓cO_14b, ↓cO_17b, ↓cO_19b, ↓cO_21b, ↓cR_1_0b, ↓cR_1_1b, ↓cR_1_2b, ↓cR_1_3b, ↓cR_2_0b, ↓cR_2_1b, ↓cR_2_2b, ↓cR_2_3b, ↓cR_2_4b, ↓cR_2_5b, ↓cR_2_6b, ↓cR_2_7b, ↓cR_14_14b, ↓cR_14_15b, ↓cR_14_16b, ↓cR_14_17b, ↓cR_17_0b, ↓cR_19_0b, ↓cR_21_0b, ↓cA_11b, ↓cA_12b, ↓cg_1_4b, ↓cg_1_5b, ↓cg_1_6b, ↓cg_1_7b, ↓cg_14_0b, ↓cg_14_1b, ↓cg_14_2b, ↓cg_14_3b, ↓cg_14_4b, ↓cg_14_5b, ↓cg_14_6b, ↓cg_14_7b, ↓cg_14_8b, ↓cg_14_9b, ↓cg_14_10b, ↓cg_14_11b, ↓cg_14_12b, ↓cg_14_13b, ↓cg_17_1b, ↓cg_19_1b, ↓cg_21_1b, ↓ca_3b, ↓ca_4b, ↓ca_5b, ↓ca_6b, ↓ca_9b, ↓ca_15b, ↓ca_16b, ↓ca_18b, ↓ca_20b, ↓ca_22b, ↓ca_13b, ↓ca_7b, ↓ca_8b, ↓cp_1_4b, ↓cp_1_6b, ↓cp_1_7b, ↓cp_14_0b, ↓cp_14_2b, ↓cp_14_4b, ↓cp_14_5b, ↓cp_14_6b, ↓cp_14_7b, ↓cp_14_8b, ↓cp_14_9b, ↓cp_14_10b, ↓cp_14_11b, ↓cp_14_12b, ↓cp_14_13b, ↓cp_17_1b, ↓cp_19_1b, ↓cp_21_1b, ↓cu_4b, ↓cu_15b, ↓cn_15b, ↓cm_15b, ↓cu_16b, ↓cn_16b, ↓cm_16b, ↓cu_18b, ↓cu_20b, ↓cu_22b, ↓cu_9b, ↓cl_15b, ↓cl_16b, ↓cl_18b, ↓cl_20b, ↓cl_22b, ↓Option.bind_some, cO_1, cO_2, cO_14, cO_17, cO_19, cO_21, cR_1_0, cR_1_1, cR_1_2, cR_1_3, cR_2_0, cR_2_1, cR_2_2, cR_2_3, cR_2_4, cR_2_5, cR_2_6, cR_2_7, cR_14_14, cR_14_15, cR_14_16, cR_14_17, cR_17_0, cR_19_0, cR_21_0, cA_11, cA_12, cg_1_4, cg_1_5, cg_1_6, cg_1_7, cg_14_0, cg_14_1, cg_14_2, cg_14_3, cg_14_4, cg_14_5, cg_14_6, cg_14_7, cg_14_8, cg_14_9, cg_14_10, cg_14_11, cg_14_12, cg_14_13, cg_17_1, cg_19_1, cg_21_1, ca_3, ca_4, ca_5, ca_6, ca_9, ca_15, ca_16, ca_18, ca_20, ca_22, ca_13, ca_7, ca_8, cp_1_4, cp_1_6, cp_1_7, cp_14_0, cp_14_2, cp_14_4, cp_14_5, cp_14_6, cp_14_7, cp_14_8, cp_14_9, cp_14_10, cp_14_11, cp_14_12, cp_14_13, cp_17_1, cp_19_1, cp_21_1, cu_4, cu_15, cn_15, cm_15, cu_16, cn_16, cm_16, cu_18, cu_20, cu_22, cu_9, cl_15, cl_16, cl_18, cl_20, cl_22, Option.bind_some, kl_0, kl_1, kl_2, kl_3, kl_4, kl_5, kl_6, kl_7, kl_8, kl_10, kl_13, kl_14, kl_15, kl_16, kl_24, kl_25, kl_26, kl_31, kl_32, kl_36, kl_40, kl_62, kl_99, kl_100, kl_255, kl_400, kl_992, kl_1023, kl_1024, kl_1984, kl_9200, kl_4600, kl_48, kl_57, kl_97, kl_122, kl_32767, nI_add, pk_mul]; rfl)
theorem C_of {t : xS} {Y : xMem} {a0 a1 : Int32} (hW : XW Y) (hI : INV t) : fX_of (cM 0 t Y) (0, 0, 0) a0 a1 = some (rOf t a0 a1, cM 0 t Y) := by
  have hn := hI.R.n
  have hb : 0 < 3 := by decide
  unfold fX_of
  simp (disch := first | assumption | omega | decide | with_unfolding_all exact hW) only [↓km1, ↓kn2, ↓kn3, ↓kn5, ↓kn11, ↓kn13, ↓kn14, ↓cX_0b, ↓cX_1b, ↓cX_2b, ↓cX_4b, ↓cX_5b, ↓cX_10b, ↓cX_11b, ↓cX_12b, ↓cX_14b, ↓cXob, cX_0, cX_1, cX_2, cX_4, cX_5, cX_10, cX_11, cX_12, cX_14, cXo, ↓km1, ↓cO_1b, ↓cO_2b, ↓cO_14b, ↓cO_17b, ↓cO_19b, ↓cO_21b, ↓cR_1_0b, ↓cR_1_1b, ↓cR_1_2b, ↓cR_1_3b, ↓cR_2_0b, ↓cR_2_1b, ↓cR_2_2b, ↓cR_2_3b, ↓cR_2_4b, ↓cR_2_5b, ↓cR_2_6b, ↓cR_2_7b, ↓cR_14_14b, ↓cR_14_15b, ↓cR_14_16b, ↓cR_14_17b, ↓cR_17_0b, ↓cR_19_0b, ↓cR_21_0b, ↓cA_11b, ↓cA_12b, ↓cg_1_4b, ↓cg_1_5b, ↓cg_1_6b, ↓cg_1_7b, ↓cg_14_0b, ↓cg_14_1b, ↓cg_14_2b, ↓cg_14_3b, ↓cg_14_4b, ↓cg_14_5b, ↓cg_14_6b, ↓cg_14_7b, ↓cg_14_8b, ↓cg_14_9b, ↓cg_14_10b, ↓cg_14_11b, ↓cg_14_12b, ↓cg_14_13b, ↓cg_17_1b, ↓cg_19_1b, ↓cg_21_1b, ↓ca_3b, ↓ca_4b, ↓ca_5b, ↓ca_6b, ↓ca_9b, ↓ca_15b, ↓ca_16b, ↓ca_18b, ↓ca_20b, ↓ca_22b, ↓ca_13b, ↓ca_7b, ↓ca_8b, ↓cp_1_4b, ↓cp_1_6b, ↓cp_1_7b, ↓cp_14_0b, ↓cp_14_2b, ↓cp_14_4b, ↓cp_14_5b, ↓cp_14_6b, ↓cp_14_7b, ↓cp_14_8b, ↓cp_14_9b, ↓cp_14_10b, ↓cp_14_11b, ↓cp_14_12b, ↓cp_14_13b, ↓cp_17_1b, ↓cp_19_1b, ↓cp_21_1b, ↓cu_4b, ↓cu_15b, ↓cn_15b, ↓cm_15b, ↓cu_16b, ↓cn_16b, ↓cm_16b, ↓cu_18b, ↓cu_20b, ↓cu_22b, ↓cu_9b, ↓cl_15b, ↓cl_16b, ↓cl_18b, ↓cl_20b, ↓cl_22b, ↓Option.bind_some, cO_1, cO_2, cO_14, cO_17, cO_19, cO_21, cR_1_0, cR_1_1, cR_1_2, cR_1_3, cR_2_0, cR_2_1, cR_2_2, cR_2_3, cR_2_4, cR_2_5, cR_2_6, cR_2_7, cR_14_14, cR_14_15, cR_14_16, cR_14_17, cR_17_0, cR_19_0, cR_21_0, cA_11, cA_12, cg_1_4, cg_1_5, cg_1_6, cg_1_7, cg_14_0, cg_14_1, cg_14_2, cg_14_3, cg_14_4, cg_14_5, cg_14_6, cg_14_7, cg_14_8, cg_14_9, cg_14_10, cg_14_11, cg_14_12, cg_14_13, cg_17_1, cg_19_1, cg_21_1, ca_3, ca_4, ca_5, ca_6, ca_9, ca_15, ca_16, ca_18, ca_20, ca_22, ca_13, ca_7, ca_8, cp_1_4, cp_1_6, cp_1_7, cp_14_0, cp_14_2, cp_14_4, cp_14_5, cp_14_6, cp_14_7, cp_14_8, cp_14_9, cp_14_10, cp_14_11, cp_14_12, cp_14_13, cp_17_1, cp_19_1, cp_21_1, cu_4, cu_15, cn_15, cm_15, cu_16, cn_16, cm_16, cu_18, cu_20, cu_22, cu_9, cl_15, cl_16, cl_18, cl_20, cl_22, Option.bind_some, kl_0, kl_1, kl_2, kl_3, kl_4, kl_5, kl_6, kl_7, kl_8, kl_10, kl_13, kl_14, kl_15, kl_16, kl_24, kl_25, kl_26, kl_31, kl_32, kl_36, kl_40, kl_62, kl_99, kl_100, kl_255, kl_400, kl_992, kl_1023, kl_1024, kl_1984, kl_9200, kl_4600, kl_48, kl_57, kl_97, kl_122, kl_32767, nI_add, pk_mul]
  rw [D_cacheAt hW hb hn, Option.bind_some]
  rcases ca_cases (t.1 19 0) a0 hn with h | ⟨c, hc, rfl, e⟩
  · rw [rOf_no (fun e => h e.1)]
    simp only [h, if_false, eq_self, if_true]
  · have hi : c < 4 := by omega
    simp only [e, hc, if_true, reduceCtorEq, if_false]
    rcases rg_cases 15 a1 (by decide) with ⟨h, h2⟩ | ⟨w, hw, rfl, e3⟩
    · rw [rOf_no (fun e => h e.2)]
      rcases h2 with h2 | ⟨h2, h3⟩
      · simp only [h2, if_true]
      · simp only [h2, h3, if_false]
    · rw [rOf_yes hn hc (by omega)]
      have hsl := D_slabsOf (b := 0) (Y := Y) (t := t) (w := nI c) (S := fun x => x == c) hW hb (fun x => by
        rw [en_eq (by decide) (by decide) hi]; simp)
      have ht := C_tells (b := 0) (Y := Y) (t := t) hW hb hi hw
      simp (disch := first | assumption | omega | decide | with_unfolding_all exact hW) only [↓km1, nI_m1, en_m1, m1_lt0, m1_eq, m1_0, nI_00, nI_10, nI_0le, nI_n0, kl_0, kl_1, kl_2, kl_3, kl_4, kl_5, kl_6, kl_7, kl_8, kl_10, kl_13, kl_14, kl_15, kl_16, kl_24, kl_25, kl_26, kl_31, kl_32, kl_36, kl_40, kl_62, kl_99, kl_100, kl_255, kl_400, kl_992, kl_1023, kl_1024, kl_1984, kl_9200, kl_4600, kl_48, kl_57, kl_97, kl_122, kl_32767, nI_leI, hw, if_true, if_false]
      by_cases h12 : w = 12
      · subst h12
        rw [if_pos kl_12.symm]
        simp (disch := first | assumption | omega | decide | with_unfolding_all exact hW) only [↓cX_0b, ↓cX_1b, ↓cX_2b, ↓cX_4b, ↓cX_5b, ↓cX_10b, ↓cX_11b, ↓cX_12b, ↓cX_14b, ↓cXob, cX_0, cX_1, cX_2, cX_4, cX_5, cX_10, cX_11, cX_12, cX_14, cXo, ↓km1, ↓cO_1b, ↓cO_2b, ↓cO_14b, ↓cO_17b, ↓cO_19b, ↓cO_21b, ↓cR_1_0b, ↓cR_1_1b, ↓cR_1_2b, ↓cR_1_3b, ↓cR_2_0b, ↓cR_2_1b, ↓cR_2_2b, ↓cR_2_3b, ↓cR_2_4b, ↓cR_2_5b, ↓cR_2_6b, ↓cR_2_7b, ↓cR_14_14b, ↓cR_14_15b, ↓cR_14_16b, ↓cR_14_17b, ↓cR_17_0b, ↓cR_19_0b, ↓cR_21_0b, ↓cA_11b, ↓cA_12b, ↓cg_1_4b, ↓cg_1_5b, ↓cg_1_6b, ↓cg_1_7b, ↓cg_14_0b, ↓cg_14_1b, ↓cg_14_2b, ↓cg_14_3b, ↓cg_14_4b, ↓cg_14_5b, ↓cg_14_6b, ↓cg_14_7b, ↓cg_14_8b, ↓cg_14_9b, ↓cg_14_10b, ↓cg_14_11b, ↓cg_14_12b, ↓cg_14_13b, ↓cg_17_1b, ↓cg_19_1b, ↓cg_21_1b, ↓ca_3b, ↓ca_4b, ↓ca_5b, ↓ca_6b, ↓ca_9b, ↓ca_15b, ↓ca_16b, ↓ca_18b, ↓ca_20b, ↓ca_22b, ↓ca_13b, ↓ca_7b, ↓ca_8b, ↓cp_1_4b, ↓cp_1_6b, ↓cp_1_7b, ↓cp_14_0b, ↓cp_14_2b, ↓cp_14_4b, ↓cp_14_5b, ↓cp_14_6b, ↓cp_14_7b, ↓cp_14_8b, ↓cp_14_9b, ↓cp_14_10b, ↓cp_14_11b, ↓cp_14_12b, ↓cp_14_13b, ↓cp_17_1b, ↓cp_19_1b, ↓cp_21_1b, ↓cu_4b, ↓cu_15b, ↓cn_15b, ↓cm_15b, ↓cu_16b, ↓cn_16b, ↓cm_16b, ↓cu_18b, ↓cu_20b, ↓cu_22b, ↓cu_9b, ↓cl_15b, ↓cl_16b, ↓cl_18b, ↓cl_20b, ↓cl_22b, ↓Option.bind_some, cO_1, cO_2, cO_14, cO_17, cO_19, cO_21, cR_1_0, cR_1_1, cR_1_2, cR_1_3, cR_2_0, cR_2_1, cR_2_2, cR_2_3, cR_2_4, cR_2_5, cR_2_6, cR_2_7, cR_14_14, cR_14_15, cR_14_16, cR_14_17, cR_17_0, cR_19_0, cR_21_0, cA_11, cA_12, cg_1_4, cg_1_5, cg_1_6, cg_1_7, cg_14_0, cg_14_1, cg_14_2, cg_14_3, cg_14_4, cg_14_5, cg_14_6, cg_14_7, cg_14_8, cg_14_9, cg_14_10, cg_14_11, cg_14_12, cg_14_13, cg_17_1, cg_19_1, cg_21_1, ca_3, ca_4, ca_5, ca_6, ca_9, ca_15, ca_16, ca_18, ca_20, ca_22, ca_13, ca_7, ca_8, cp_1_4, cp_1_6, cp_1_7, cp_14_0, cp_14_2, cp_14_4, cp_14_5, cp_14_6, cp_14_7, cp_14_8, cp_14_9, cp_14_10, cp_14_11, cp_14_12, cp_14_13, cp_17_1, cp_19_1, cp_21_1, cu_4, cu_15, cn_15, cm_15, cu_16, cn_16, cm_16, cu_18, cu_20, cu_22, cu_9, cl_15, cl_16, cl_18, cl_20, cl_22, Option.bind_some, kl_0, kl_1, kl_2, kl_3, kl_4, kl_5, kl_6, kl_7, kl_8, kl_10, kl_13, kl_14, kl_15, kl_16, kl_24, kl_25, kl_26, kl_31, kl_32, kl_36, kl_40, kl_62, kl_99, kl_100, kl_255, kl_400, kl_992, kl_1023, kl_1024, kl_1984, kl_9200, kl_4600, kl_48, kl_57, kl_97, kl_122, kl_32767, nI_add, pk_mul, hsl]
        rfl
      · rw [if_neg (fun e => h12 ((nI_eq (by omega) (by decide)).mp (e.trans kl_12)))]
        simp (disch := first | assumption | omega | decide | with_unfolding_all exact hW) only [↓cX_0b, ↓cX_1b, ↓cX_2b, ↓cX_4b, ↓cX_5b, ↓cX_10b, ↓cX_11b, ↓cX_12b, ↓cX_14b, ↓cXob, cX_0, cX_1, cX_2, cX_4, cX_5, cX_10, cX_11, cX_12, cX_14, cXo, ↓km1, ↓cO_1b, ↓cO_2b, ↓cO_14b, ↓cO_17b, ↓cO_19b, ↓cO_21b, ↓cR_1_0b, ↓cR_1_1b, ↓cR_1_2b, ↓cR_1_3b, ↓cR_2_0b, ↓cR_2_1b, ↓cR_2_2b, ↓cR_2_3b, ↓cR_2_4b, ↓cR_2_5b, ↓cR_2_6b, ↓cR_2_7b, ↓cR_14_14b, ↓cR_14_15b, ↓cR_14_16b, ↓cR_14_17b, ↓cR_17_0b, ↓cR_19_0b, ↓cR_21_0b, ↓cA_11b, ↓cA_12b, ↓cg_1_4b, ↓cg_1_5b, ↓cg_1_6b, ↓cg_1_7b, ↓cg_14_0b, ↓cg_14_1b, ↓cg_14_2b, ↓cg_14_3b, ↓cg_14_4b, ↓cg_14_5b, ↓cg_14_6b, ↓cg_14_7b, ↓cg_14_8b, ↓cg_14_9b, ↓cg_14_10b, ↓cg_14_11b, ↓cg_14_12b, ↓cg_14_13b, ↓cg_17_1b, ↓cg_19_1b, ↓cg_21_1b, ↓ca_3b, ↓ca_4b, ↓ca_5b, ↓ca_6b, ↓ca_9b, ↓ca_15b, ↓ca_16b, ↓ca_18b, ↓ca_20b, ↓ca_22b, ↓ca_13b, ↓ca_7b, ↓ca_8b, ↓cp_1_4b, ↓cp_1_6b, ↓cp_1_7b, ↓cp_14_0b, ↓cp_14_2b, ↓cp_14_4b, ↓cp_14_5b, ↓cp_14_6b, ↓cp_14_7b, ↓cp_14_8b, ↓cp_14_9b, ↓cp_14_10b, ↓cp_14_11b, ↓cp_14_12b, ↓cp_14_13b, ↓cp_17_1b, ↓cp_19_1b, ↓cp_21_1b, ↓cu_4b, ↓cu_15b, ↓cn_15b, ↓cm_15b, ↓cu_16b, ↓cn_16b, ↓cm_16b, ↓cu_18b, ↓cu_20b, ↓cu_22b, ↓cu_9b, ↓cl_15b, ↓cl_16b, ↓cl_18b, ↓cl_20b, ↓cl_22b, ↓Option.bind_some, cO_1, cO_2, cO_14, cO_17, cO_19, cO_21, cR_1_0, cR_1_1, cR_1_2, cR_1_3, cR_2_0, cR_2_1, cR_2_2, cR_2_3, cR_2_4, cR_2_5, cR_2_6, cR_2_7, cR_14_14, cR_14_15, cR_14_16, cR_14_17, cR_17_0, cR_19_0, cR_21_0, cA_11, cA_12, cg_1_4, cg_1_5, cg_1_6, cg_1_7, cg_14_0, cg_14_1, cg_14_2, cg_14_3, cg_14_4, cg_14_5, cg_14_6, cg_14_7, cg_14_8, cg_14_9, cg_14_10, cg_14_11, cg_14_12, cg_14_13, cg_17_1, cg_19_1, cg_21_1, ca_3, ca_4, ca_5, ca_6, ca_9, ca_15, ca_16, ca_18, ca_20, ca_22, ca_13, ca_7, ca_8, cp_1_4, cp_1_6, cp_1_7, cp_14_0, cp_14_2, cp_14_4, cp_14_5, cp_14_6, cp_14_7, cp_14_8, cp_14_9, cp_14_10, cp_14_11, cp_14_12, cp_14_13, cp_17_1, cp_19_1, cp_21_1, cu_4, cu_15, cn_15, cm_15, cu_16, cn_16, cm_16, cu_18, cu_20, cu_22, cu_9, cl_15, cl_16, cl_18, cl_20, cl_22, Option.bind_some, kl_0, kl_1, kl_2, kl_3, kl_4, kl_5, kl_6, kl_7, kl_8, kl_10, kl_13, kl_14, kl_15, kl_16, kl_24, kl_25, kl_26, kl_31, kl_32, kl_36, kl_40, kl_62, kl_99, kl_100, kl_255, kl_400, kl_992, kl_1023, kl_1024, kl_1984, kl_9200, kl_4600, kl_48, kl_57, kl_97, kl_122, kl_32767, nI_add, pk_mul]
        rw [ht h12, Option.bind_some]
theorem M_of {d : Int32} {s : xS} {X : xMem} {a0 a1 : Int32} (hW : XW X) (hI : INV s) : fM_of (mM d s X) (44, 0, 0) a0 a1 = some (rOf s a0 a1, mM d s X) := by
  have hn := hI.R.n
  unfold fM_of
  rw [xob_44 hW, Option.bind_some, M_isCache hW hn, Option.bind_some]
  simp only [bI_0', dec_f]
  rcases ca_cases (s.1 19 0) a0 hn with h | ⟨c, hc, rfl, e⟩
  · rw [rOf_no (fun e => h e.1)]
    rw [if_pos h]; rfl
  · have hi : c < 4 := by omega
    have hq := hI.R.c hc
    rw [if_neg (by rw [e]; exact fun x => x hc)]
    rcases rg_cases 15 a1 (by decide) with ⟨h, -⟩ | ⟨w, hw, rfl, e3⟩
    · rw [rOf_no (fun e => h e.2)]
      have hne : ∀ k, k < 16 → ∀ z, z = nI k → ¬ a1 = z := fun k hk z hz e => h (by rw [e, hz, cN_nI hk (by decide)]; exact hk)
      rw [if_neg (hne 0 (by decide) _ kl_0), if_neg (hne 1 (by decide) _ kl_1), if_neg (hne 2 (by decide) _ kl_2), if_neg (hne 3 (by decide) _ kl_3), if_neg (hne 4 (by decide) _ kl_4), if_neg (hne 5 (by decide) _ kl_5), if_neg (hne 6 (by decide) _ kl_6), if_neg (hne 7 (by decide) _ kl_7), if_neg (hne 8 (by decide) _ kl_8), if_neg (hne 9 (by decide) _ kl_9), if_neg (hne 10 (by decide) _ kl_10), if_neg (hne 11 (by decide) _ kl_11), if_neg (hne 12 (by decide) _ kl_12), if_neg (hne 13 (by decide) _ kl_13), if_neg (hne 14 (by decide) _ kl_14), if_neg (hne 15 (by decide) _ kl_15)]
      rfl
    · rw [rOf_yes hn hc (by omega)]
      have hper := M_per (d := d) (X := X) (s := s) (c := c) hW hi hq.2.1 hq.2.2.1
      have hsl := M_slabsOf (d := d) (X := X) (s := s) (c := c) hW hi
      rcases (by omega : w = 0 ∨ w = 1 ∨ w = 2 ∨ w = 3 ∨ w = 4 ∨ w = 5 ∨ w = 6 ∨ w = 7 ∨ w = 8 ∨ w = 9 ∨ w = 10 ∨ w = 11 ∨ w = 12 ∨ w = 13 ∨ w = 14 ∨ w = 15) with rfl | rfl | rfl | rfl | rfl | rfl | rfl | rfl | rfl | rfl | rfl | rfl | rfl | rfl | rfl | rfl <;> (simp (disch := first | assumption | omega | decide | with_unfolding_all exact hW) only [↓reduceIte, ↓km1, ↓kn2, ↓kn3, ↓kn5, ↓kn11, ↓kn13, ↓kn14, kl_9, kl_11, kl_12, nI_eq, Nat.reduceEqDiff, ↓gR_0b, ↓gR_1b, ↓gR_2b, ↓gR_3b, ↓gR_4b, ↓gR_5b, ↓gR_6b, ↓gR_7b, ↓gR_8b, ↓gR_9b, ↓gR_10b, ↓gR_11b, ↓gR_12b, ↓gR_16b, ↓gR_17b, ↓gR_18b, ↓gR_19b, ↓gR_20b, ↓gR_21b, ↓gR_22b, ↓gR_23b, ↓gR_24b, ↓gR_25b, ↓gR_26b, ↓gR_27b, ↓gR_28b, ↓gR_29b, ↓gR_30b, ↓gR_31b, ↓gR_35b, ↓gR_38b, ↓gR_39b, ↓gR_40b, ↓gR_41b, ↓gR_52b, ↓gR_53b, ↓gR_54b, ↓aI_45b, ↓uI_45b, ↓aI_46b, ↓uI_46b, ↓aI_47b, ↓uI_47b, ↓aI_48b, ↓uI_48b, ↓aI_49b, ↓uI_49b, ↓aI_50b, ↓uI_50b, ↓aI_51b, ↓uI_51b, ↓aI_52b, ↓uI_52b, ↓aI_53b, ↓uI_53b, ↓aI_54b, ↓uI_54b, ↓aI_55b, ↓uI_55b, ↓aI_56b, ↓uI_56b, ↓aI_58b, ↓uI_58b, ↓uN_58b, ↓uM_58b, ↓aI_59b, ↓uI_59b, ↓aI_60b, ↓uI_60b, ↓aI_62b, ↓uI_62b, ↓uN_62b, ↓uM_62b, ↓aI_63b, ↓uI_63b, ↓uN_63b, ↓uM_63b, ↓aI_64b, ↓uI_64b, ↓aI_65b, ↓uI_65b, ↓aI_66b, ↓uI_66b, ↓aI_67b, ↓uI_67b, ↓aI_68b, ↓uI_68b, ↓aI_69b, ↓uI_69b, ↓aI_70b, ↓uI_70b, ↓aI_61b, ↓uI_61b, ↓aL_57b, ↓uL_57b, ↓aI_71b, ↓uI_71b, ↓aI_72b, ↓uI_72b, ↓aI_74b, ↓uI_74b, ↓aI_75b, ↓uI_75b, ↓aI_76b, ↓uI_76b, ↓aI_77b, ↓uI_77b, ↓aI_78b, ↓uI_78b, ↓aI_79b, ↓uI_79b, ↓aI_80b, ↓uI_80b, ↓aI_81b, ↓uI_81b, ↓gI_13b, ↓pI_13b, ↓gI_14b, ↓pI_14b, ↓gI_15b, ↓pI_15b, ↓gI_32b, ↓pI_32b, ↓gI_33b, ↓pI_33b, ↓gI_34b, ↓pI_34b, ↓gI_36b, ↓pI_36b, ↓gI_37b, ↓pI_37b, ↓gI_42b, ↓pI_42b, ↓gI_43b, ↓pI_43b, ↓gI_44b, ↓pI_44b, ↓gI_45b, ↓pI_45b, ↓gI_46b, ↓pI_46b, ↓gI_47b, ↓pI_47b, ↓gI_48b, ↓pI_48b, ↓gI_49b, ↓pI_49b, ↓gI_50b, ↓pI_50b, ↓gI_51b, ↓pI_51b, ↓pZ_32b, ↓pZ_33b, ↓pZ_46b, ↓xob_44b, ↓Option.bind_some, xob_44, gR_0, gR_1, gR_2, gR_3, gR_4, gR_5, gR_6, gR_7, gR_8, gR_9, gR_10, gR_11, gR_12, gR_16, gR_17, gR_18, gR_19, gR_20, gR_21, gR_22, gR_23, gR_24, gR_25, gR_26, gR_27, gR_28, gR_29, gR_30, gR_31, gR_35, gR_38, gR_39, gR_40, gR_41, gR_52, gR_53, gR_54, aI_45, aI_46, aI_47, aI_48, aI_49, aI_50, aI_51, aI_52, aI_53, aI_54, aI_55, aI_56, aI_58, aI_59, aI_60, aI_62, aI_63, aI_64, aI_65, aI_66, aI_67, aI_68, aI_69, aI_70, aI_61, aL_57, aI_71, aI_72, aI_74, aI_75, aI_76, aI_77, aI_78, aI_79, aI_80, aI_81, uI_45, uI_46, uI_47, uI_48, uI_49, uI_50, uI_51, uI_52, uI_53, uI_54, uI_55, uI_56, uI_58, uN_58, uM_58, uI_59, uI_60, uI_62, uN_62, uM_62, uI_63, uN_63, uM_63, uI_64, uI_65, uI_66, uI_67, uI_68, uI_69, uI_70, uI_61, uL_57, uI_71, uI_72, uI_74, uI_75, uI_76, uI_77, uI_78, uI_79, uI_80, uI_81, gI_13, gI_14, gI_15, gI_32, gI_33, gI_34, gI_36, gI_37, gI_42, gI_43, gI_44, gI_45, gI_46, gI_47, gI_48, gI_49, gI_50, gI_51, pI_13, pI_14, pI_15, pI_32, pI_33, pI_34, pI_36, pI_37, pI_42, pI_43, pI_44, pI_45, pI_46, pI_47, pI_48, pI_49, pI_50, pI_51, pZ_32, pZ_33, pZ_46, Option.bind_some, kl_0, kl_1, kl_2, kl_3, kl_4, kl_5, kl_6, kl_7, kl_8, kl_10, kl_13, kl_14, kl_15, kl_16, kl_24, kl_25, kl_26, kl_31, kl_32, kl_36, kl_40, kl_62, kl_99, kl_100, kl_255, kl_400, kl_992, kl_1023, kl_1024, kl_1984, kl_9200, kl_4600, kl_48, kl_57, kl_97, kl_122, kl_32767, nI_add, pk_mul, hper, hsl]; rfl)
theorem rOf_ok {s t : xS} (h : EQs s t) {a0 a1 : Int32} : rOf t a0 a1 = rOf s a0 a1 := by
  unfold rOf
  rw [h.n (j := 0) (by decide)]
  by_cases h1 : cN (s.1 19 0) a0 < s.1 19 0 ∧ cN 16 a1 < 16
  · rw [if_pos h1, if_pos h1]
    refine congrArg nI ?_
    have hc := h1.1
    have hw := h1.2
    generalize cN (s.1 19 0) a0 = c at hc
    generalize cN 16 a1 = w at hw
    unfold rOf1
    rw [h.per hc, h.d (q := 22) (by simp) hc, h.d (q := 24) (by simp) hc, h.c (q := 8) (by decide) (by decide) hc, h.c (q := 9) (by decide) (by decide) hc, h.c (q := 10) (by decide) (by decide) hc, h.c (q := 11) (by decide) (by decide) hc, h.c (q := 12) (by decide) (by decide) hc, qC_cong (P := fun p => (fun x => x == c) (t.1 13 p)) (Q := fun p => (fun x => x == c) (s.1 13 p)) (fun p _ hp => by show (t.1 13 p == c) = (s.1 13 p == c); rw [h.p (Or.inl rfl) (by omega)])]
    by_cases h3 : w = 3
    · rw [if_pos h3, if_pos h3]
    · by_cases h12 : w ≤ 12
      · rw [h.c h12 h3 hc]
      · rw [if_neg (by omega), if_neg (by omega), if_neg (by omega), if_neg (by omega), if_neg (by omega), if_neg (by omega)]
        rcases (by omega : w = 13 ∨ w = 14 ∨ w = 15) with rfl | rfl | rfl <;> simp
  · rw [if_neg h1, if_neg h1]
/-! reap -/
theorem mM_26 {d : Int32} {s : xS} {X : xMem} {j v : Nat} : mM d (sA s 26 j v) X = mM d s X := by
  have hq : ∀ κ q B t, mL κ = some (q, B, t) → q ≠ 26 := fun κ q B t h => by
    have h1 : ∀ r ∈ mQ, r.2.1 ≠ 26 := by decide
    exact h1 _ (mL_mem h)
  refine Prod.ext ?_ rfl
  funext a k
  unfold mM
  simp only [sA_n (show (19 : Nat) ≠ 26 by decide), sA_2]
  cases hm : mL a.1 with
  | none => rfl
  | some r =>
    obtain ⟨q, B, t⟩ := r
    simp only [sA_n (hq _ _ _ _ hm)]
def sRp (s : xS) (p : Nat) : xS := sA (sA s 26 p (s.1 1 (s.1 13 p))) 13 p 4
theorem sRp_q {s : xS} {p q : Nat} (h1 : q ≠ 13) (h2 : q ≠ 26) : (sRp s p).1 q = s.1 q := by unfold sRp; rw [sA_n h1, sA_n h2]
theorem sRp_13 {s : xS} {p k : Nat} : (sRp s p).1 13 k = if k = p then 4 else s.1 13 k := by unfold sRp; simp [sA_1]
theorem INV.reap1 {s : xS} (h : INV s) {p : Nat} (hp : p < 32) (h4 : s.1 13 p < 4) (hf : qIn s p 0 = qPers s p) : INV (sRp s p) := by
  obtain ⟨pl, hpl⟩ := h.2.2
  have e := fun q (a : q ≠ 13 ∧ q ≠ 26) => @sRp_q s p q a.1 a.2
  have e13 := fun k => @sRp_13 s p k
  have h62 := qPers_62 h.R hp
  have eP := qPer_d (e 1 (by decide))
  -- all of that page are free
  have hall : ∀ k, k < qPers s p → s.1 17 (62 * p + k) = 0 := fun k hk => by
    unfold qIn at hf
    rw [qC_ct, fb_ct_all] at hf
    exact eq_of_beq (hf k hk)
  have hz : ∀ x, x < 1984 → x / 62 = p → s.1 17 x = 0 := fun x hx e => by
    rcases Nat.eq_zero_or_pos (s.1 17 x) with h0 | h0
    · exact h0
    · have hV := h.V' hx (by omega)
      rw [e] at hV
      have := hall (x % 62) hV
      rw [show 62 * p + x % 62 = x from by omega] at this; omega
  have hpg : ∀ m k, m < 24 → k < s.1 20 m → s.1 21 (8 * m + k) / 62 ≠ p := fun m k hm hk e => by
    have h1 := hz _ ((h.R.m hm).2 k hk).1 e
    have h2 := h.H hm hk
    omega
  generalize sRp s p = t at e e13 eP
  refine ⟨⟨⟨by rw [e 19 (by decide)]; exact h.R.n, ?_, ?_, ?_, ?_⟩, ?_, ?_, ?_⟩, ?_, pl, ?_⟩
  · intro c hc
    rw [e 19 (by decide)] at hc
    rw [eP, e 0 (by decide), e 1 (by decide), e 2 (by decide), e 4 (by decide), e 10 (by decide), e 22 (by decide), e 24 (by decide)]
    exact h.R.c hc
  · intro k hk
    rw [e 14 (by decide), e13, e 19 (by decide), eP, e 1 (by decide)]
    have h1 := h.R.p hk
    refine ⟨h1.1, fun h5 => ?_⟩
    by_cases h6 : k = p
    · rw [if_pos h6] at h5; omega
    · rw [if_neg h6] at h5 ⊢; exact h1.2 h5
  · intro m hm
    rw [e 20 (by decide), e 21 (by decide), e 19 (by decide)]
    have h1 := h.R.m hm
    refine ⟨h1.1, fun k hk => ⟨(h1.2 k hk).1, ?_⟩⟩
    rw [e13, if_neg (hpg m k hm hk)]; exact (h1.2 k hk).2
  · intro c hc k
    rw [e 19 (by decide)] at hc
    rw [e 22 (by decide), e 23 (by decide), e 24 (by decide), e 25 (by decide)]
    exact (h.1.fe c hc).2.2 k
  · intro x hx
    rw [e 17 (by decide), e13, eP]
    have h1 := h.1.2.1 x hx
    refine ⟨h1.1, fun h0 => ?_⟩
    rw [if_neg (fun e => h0 (hz x hx e))]; exact h1.2 h0
  · intro m hm
    rw [e 18 (by decide), e 20 (by decide), e 21 (by decide), e 17 (by decide)]
    exact h.1.2.2.1 m hm
  · rw [e 20 (by decide), e 21 (by decide)]; exact h.1.2.2.2
  · intro c hc
    rw [e 19 (by decide)] at hc
    rw [e 5 (by decide), e 7 (by decide), e 8 (by decide), e 9 (by decide), e 22 (by decide), e 24 (by decide)]
    exact h.C hc
  · intro P _ hP
    rw [ref_c (fun q hq => e q (by omega))] at hP ⊢
    have h1 := hpl P id hP
    refine ⟨h1.1, by rw [e 18 (by decide)]; exact h1.2.1, fun k hk => ?_, by rw [e 20 (by decide)]; exact h1.2.2.2.1, by rw [e 20 (by decide)]; exact h1.2.2.2.2⟩
    rw [e 20 (by decide)] at hk
    rw [e 21 (by decide), e13, if_neg (hpg _ k hP hk)]; exact h1.2.2.1 k hk
def sReap (s : xS) (c : Nat) : Nat → Nat → Nat × xS
  | 0, _ => (0, s)
  | d + 1, p => if s.1 13 p = c ∧ qIn s p 0 = qPers s p then ((sReap (sRp s p) c d (p + 1)).1 + 1, (sReap (sRp s p) c d (p + 1)).2) else sReap s c d (p + 1)
theorem reap_ok {c : Nat} : ∀ {d p : Nat} {s t : xS}, EQs s t → INV s → c < 4 → p + d ≤ 32 → (sReap t c d p).1 = (sReap s c d p).1 ∧ EQs (sReap s c d p).2 (sReap t c d p).2 ∧ INV (sReap s c d p).2 := by
  intro d
  induction d with
  | zero => intro p s t h hI _ _; exact ⟨rfl, h, hI⟩
  | succ d ih =>
    intro p s t h hI hc hp
    have hp' : p < 32 := by omega
    unfold sReap
    rw [h.p (q := 13) (Or.inl rfl) hp', h.inn hI.R hp', h.pers hI.R hp']
    by_cases h1 : s.1 13 p = c ∧ qIn s p 0 = qPers s p
    · rw [if_pos h1, if_pos h1]
      have hE : EQs (sRp s p) (sRp t p) := by
        unfold sRp
        rw [h.p (q := 13) (Or.inl rfl) hp', h.c (q := 1) (by decide) (by decide) (hI.R.pg hp' (by omega)).1]
        exact (h.set (by simp) (by decide) (by decide) (by decide)).set (by simp) (by decide) (by decide) (by decide)
      obtain ⟨a1, a2, a3⟩ := ih (p := p + 1) hE (hI.reap1 hp' (by omega) h1.2) hc (by omega)
      exact ⟨by show _ + 1 = _ + 1; rw [a1], a2, a3⟩
    · rw [if_neg h1, if_neg h1]; exact ih h hI hc (by omega)
