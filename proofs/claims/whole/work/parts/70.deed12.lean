/-! count -/
def qNm (nm : Nat → Nat) (e i : Nat) : Nat := qC (fun k => decide (nm k < 32768)) e i
theorem D_named13 {t : xS} {Y X : xMem} {nm : Nat → Nat} (hW : XW Y) (hR : RN nm Y X) : ∀ e i n a, i + e = 26 → e < n → fX_namedCount_13 n (cM 0 t Y) (nI a) (some (38, 0, 0)) (nI 26) (nI i) = some (nI (a + qNm nm e i), cM 0 t Y) := by
  intro e
  induction e with
  | zero =>
    intro i n a hie hn
    obtain ⟨n, rfl⟩ : ∃ m, n = m + 1 := ⟨n - 1, by omega⟩
    have h5 : 26 ≤ i := by omega
    unfold fX_namedCount_13
    simp (disch := first | assumption | omega | decide | with_unfolding_all exact hW) only [nI_leI, h5, if_true]
    rfl
  | succ e ih =>
    intro i n a hie hn
    obtain ⟨n, rfl⟩ : ∃ m, n = m + 1 := ⟨n - 1, by omega⟩
    have h5 : ¬ 26 ≤ i := by omega
    have hk : i < 26 := by omega
    have es : qNm nm (e + 1) i = (if decide (nm i < 32768) = true then 1 else 0) + qNm nm e (i + 1) := rfl
    have hr : xaI (cM 0 t Y) (some (38, 0, 0)) (nI i) = some (en 32768 m1 (nm i)) := by
      rw [xaI_w (M := cM 0 t Y) hW sh_38 hk (by decide), cO_r (by decide), (hR i hk).1]
    rw [es, ← Nat.add_assoc]
    unfold fX_namedCount_13
    simp (disch := first | assumption | omega | decide | with_unfolding_all exact hW) only [nI_leI, h5, if_false, hr, ↓km1, en_m1, fX_namedCount_37, Option.bind_some, kl_0, kl_1, kl_2, kl_3, kl_4, kl_5, kl_6, kl_7, kl_8, kl_10, kl_13, kl_14, kl_15, kl_16, kl_24, kl_25, kl_26, kl_31, kl_32, kl_36, kl_40, kl_62, kl_99, kl_100, kl_255, kl_400, kl_992, kl_1023, kl_1024, kl_1984, kl_9200, kl_4600, kl_48, kl_57, kl_97, kl_122, kl_32767, nI_add, pk_mul]
    by_cases h1 : nm i < 32768
    · rw [if_neg (fun e => e h1), decide_eq_true h1, if_pos rfl]
      exact ih (i + 1) n _ (by omega) (by omega)
    · rw [if_pos h1, decide_eq_false h1, if_neg (by decide)]
      exact ih (i + 1) n _ (by omega) (by omega)
theorem D_named {t : xS} {Y X : xMem} {nm : Nat → Nat} (hW : XW Y) (hR : RN nm Y X) : fX_namedCount (cM 0 t Y) (0, 0, 0) = some (nI (qNm nm 26 0), cM 0 t Y) := by
  have h := D_named13 (t := t) hW hR 26 0 xF 0 (by omega) (by unfold xF; omega)
  unfold fX_namedCount
  rw [cX_11 hW, Option.bind_some, xal_w (M := cM 0 t Y) hW sh_38 (by decide) (by decide), Option.bind_some, kl_0, h, Nat.zero_add]
theorem M_named4 {d : Int32} {s : xS} {X : xMem} {Y : xMem} {nm : Nat → Nat} (hW : XW X) (hR : RN nm Y X) : ∀ e i n a, i + e = 26 → e < n → fM_manyNamed_4 n (mM d s X) (some (44, 0, 0)) (nI a) (nI i) = some (nI (a + qNm nm e i), mM d s X) := by
  intro e
  induction e with
  | zero =>
    intro i n a hie hn
    obtain ⟨n, rfl⟩ : ∃ m, n = m + 1 := ⟨n - 1, by omega⟩
    have h5 : 26 ≤ i := by omega
    unfold fM_manyNamed_4
    simp (disch := first | assumption | omega | decide | with_unfolding_all exact hW) only [kl_26', nI_leI, h5, if_true]
    rfl
  | succ e ih =>
    intro i n a hie hn
    obtain ⟨n, rfl⟩ : ∃ m, n = m + 1 := ⟨n - 1, by omega⟩
    have h5 : ¬ 26 ≤ i := by omega
    have hk : i < 26 := by omega
    have es : qNm nm (e + 1) i = (if decide (nm i < 32768) = true then 1 else 0) + qNm nm e (i + 1) := rfl
    have hr : xaI (mM d s X) (some (71, 0, 0)) (nI i) = some (en 32768 (-9) (nm i)) := by
      rw [aI_71 hW hk, (hR i hk).2]
    rw [es, ← Nat.add_assoc]
    unfold fM_manyNamed_4
    simp (disch := first | assumption | omega | decide | with_unfolding_all exact hW) only [kl_26', nI_leI, h5, if_false, gR_29, hr, fM_manyNamed_25, Option.bind_some, kl_0, kl_1, kl_2, kl_3, kl_4, kl_5, kl_6, kl_7, kl_8, kl_10, kl_13, kl_14, kl_15, kl_16, kl_24, kl_25, kl_26, kl_31, kl_32, kl_36, kl_40, kl_62, kl_99, kl_100, kl_255, kl_400, kl_992, kl_1023, kl_1024, kl_1984, kl_9200, kl_4600, kl_48, kl_57, kl_97, kl_122, kl_32767, nI_add, pk_mul, en_neg0]
    by_cases h1 : nm i < 32768
    · rw [if_neg (fun e => e h1), decide_eq_true h1, if_pos rfl]
      exact ih (i + 1) n _ (by omega) (by omega)
    · rw [if_pos h1, decide_eq_false h1, if_neg (by decide)]
      exact ih (i + 1) n _ (by omega) (by omega)
def qFP (s : xS) (e i : Nat) : Nat := qC (fun p => (fun x => !decide (x < 4)) (s.1 13 p)) e i
theorem M_freeP4 {d : Int32} {s : xS} {X : xMem} (hW : XW X) : ∀ e i n a, i + e = 32 → e < n → fM_freePages_4 n (mM d s X) (some (44, 0, 0)) (nI a) (nI i) = some (nI (a + qFP s e i), mM d s X) := by
  intro e
  induction e with
  | zero =>
    intro i n a hie hn
    obtain ⟨n, rfl⟩ : ∃ m, n = m + 1 := ⟨n - 1, by omega⟩
    have h5 : 32 ≤ i := by omega
    unfold fM_freePages_4
    simp (disch := first | assumption | omega | decide | with_unfolding_all exact hW) only [kl_0, kl_1, kl_2, kl_3, kl_4, kl_5, kl_6, kl_7, kl_8, kl_10, kl_13, kl_14, kl_15, kl_16, kl_24, kl_25, kl_26, kl_31, kl_32, kl_36, kl_40, kl_62, kl_99, kl_100, kl_255, kl_400, kl_992, kl_1023, kl_1024, kl_1984, kl_9200, kl_4600, kl_48, kl_57, kl_97, kl_122, kl_32767, nI_leI, h5, if_true]
    rfl
  | succ e ih =>
    intro i n a hie hn
    obtain ⟨n, rfl⟩ : ∃ m, n = m + 1 := ⟨n - 1, by omega⟩
    have h5 : ¬ 32 ≤ i := by omega
    have hk : i < 32 := by omega
    have es : qFP s (e + 1) i = (if (!decide (s.1 13 i < 4)) = true then 1 else 0) + qFP s e (i + 1) := rfl
    rw [es, ← Nat.add_assoc]
    unfold fM_freePages_4
    simp (disch := first | assumption | omega | decide | with_unfolding_all exact hW) only [↓gR_0b, ↓gR_1b, ↓gR_2b, ↓gR_3b, ↓gR_4b, ↓gR_5b, ↓gR_6b, ↓gR_7b, ↓gR_8b, ↓gR_9b, ↓gR_10b, ↓gR_11b, ↓gR_12b, ↓gR_16b, ↓gR_17b, ↓gR_18b, ↓gR_19b, ↓gR_20b, ↓gR_21b, ↓gR_22b, ↓gR_23b, ↓gR_24b, ↓gR_25b, ↓gR_26b, ↓gR_27b, ↓gR_28b, ↓gR_29b, ↓gR_30b, ↓gR_31b, ↓gR_35b, ↓gR_38b, ↓gR_39b, ↓gR_40b, ↓gR_41b, ↓gR_52b, ↓gR_53b, ↓gR_54b, ↓aI_45b, ↓uI_45b, ↓aI_46b, ↓uI_46b, ↓aI_47b, ↓uI_47b, ↓aI_48b, ↓uI_48b, ↓aI_49b, ↓uI_49b, ↓aI_50b, ↓uI_50b, ↓aI_51b, ↓uI_51b, ↓aI_52b, ↓uI_52b, ↓aI_53b, ↓uI_53b, ↓aI_54b, ↓uI_54b, ↓aI_55b, ↓uI_55b, ↓aI_56b, ↓uI_56b, ↓aI_58b, ↓uI_58b, ↓uN_58b, ↓uM_58b, ↓aI_59b, ↓uI_59b, ↓aI_60b, ↓uI_60b, ↓aI_62b, ↓uI_62b, ↓uN_62b, ↓uM_62b, ↓aI_63b, ↓uI_63b, ↓uN_63b, ↓uM_63b, ↓aI_64b, ↓uI_64b, ↓aI_65b, ↓uI_65b, ↓aI_66b, ↓uI_66b, ↓aI_67b, ↓uI_67b, ↓aI_68b, ↓uI_68b, ↓aI_69b, ↓uI_69b, ↓aI_70b, ↓uI_70b, ↓aI_61b, ↓uI_61b, ↓aL_57b, ↓uL_57b, ↓aI_71b, ↓uI_71b, ↓aI_72b, ↓uI_72b, ↓aI_74b, ↓uI_74b, ↓aI_75b, ↓uI_75b, ↓aI_76b, ↓uI_76b, ↓aI_77b, ↓uI_77b, ↓aI_78b, ↓uI_78b, ↓aI_79b, ↓uI_79b, ↓aI_80b, ↓uI_80b, ↓aI_81b, ↓uI_81b, ↓gI_13b, ↓pI_13b, ↓gI_14b, ↓pI_14b, ↓gI_15b, ↓pI_15b, ↓gI_32b, ↓pI_32b, ↓gI_33b, ↓pI_33b, ↓gI_34b, ↓pI_34b, ↓gI_36b, ↓pI_36b, ↓gI_37b, ↓pI_37b, ↓gI_42b, ↓pI_42b, ↓gI_43b, ↓pI_43b, ↓gI_44b, ↓pI_44b, ↓gI_45b, ↓pI_45b, ↓gI_46b, ↓pI_46b, ↓gI_47b, ↓pI_47b, ↓gI_48b, ↓pI_48b, ↓gI_49b, ↓pI_49b, ↓gI_50b, ↓pI_50b, ↓gI_51b, ↓pI_51b, ↓pZ_32b, ↓pZ_33b, ↓pZ_46b, ↓xob_44b, ↓Option.bind_some, xob_44, gR_0, gR_1, gR_2, gR_3, gR_4, gR_5, gR_6, gR_7, gR_8, gR_9, gR_10, gR_11, gR_12, gR_16, gR_17, gR_18, gR_19, gR_20, gR_21, gR_22, gR_23, gR_24, gR_25, gR_26, gR_27, gR_28, gR_29, gR_30, gR_31, gR_35, gR_38, gR_39, gR_40, gR_41, gR_52, gR_53, gR_54, aI_45, aI_46, aI_47, aI_48, aI_49, aI_50, aI_51, aI_52, aI_53, aI_54, aI_55, aI_56, aI_58, aI_59, aI_60, aI_62, aI_63, aI_64, aI_65, aI_66, aI_67, aI_68, aI_69, aI_70, aI_61, aL_57, aI_71, aI_72, aI_74, aI_75, aI_76, aI_77, aI_78, aI_79, aI_80, aI_81, uI_45, uI_46, uI_47, uI_48, uI_49, uI_50, uI_51, uI_52, uI_53, uI_54, uI_55, uI_56, uI_58, uN_58, uM_58, uI_59, uI_60, uI_62, uN_62, uM_62, uI_63, uN_63, uM_63, uI_64, uI_65, uI_66, uI_67, uI_68, uI_69, uI_70, uI_61, uL_57, uI_71, uI_72, uI_74, uI_75, uI_76, uI_77, uI_78, uI_79, uI_80, uI_81, gI_13, gI_14, gI_15, gI_32, gI_33, gI_34, gI_36, gI_37, gI_42, gI_43, gI_44, gI_45, gI_46, gI_47, gI_48, gI_49, gI_50, gI_51, pI_13, pI_14, pI_15, pI_32, pI_33, pI_34, pI_36, pI_37, pI_42, pI_43, pI_44, pI_45, pI_46, pI_47, pI_48, pI_49, pI_50, pI_51, pZ_32, pZ_33, pZ_46, Option.bind_some, kl_0, kl_1, kl_2, kl_3, kl_4, kl_5, kl_6, kl_7, kl_8, kl_10, kl_13, kl_14, kl_15, kl_16, kl_24, kl_25, kl_26, kl_31, kl_32, kl_36, kl_40, kl_62, kl_99, kl_100, kl_255, kl_400, kl_992, kl_1023, kl_1024, kl_1984, kl_9200, kl_4600, kl_48, kl_57, kl_97, kl_122, kl_32767, nI_add, pk_mul, nI_leI, h5, if_false, fM_freePages_25, en_0le]
    by_cases h1 : s.1 13 i < 4
    · rw [if_pos h1, decide_eq_true h1, if_neg (by decide)]
      exact ih (i + 1) n _ (by omega) (by omega)
    · rw [if_neg h1, decide_eq_false h1, if_pos (show (!false) = true from rfl)]
      exact ih (i + 1) n _ (by omega) (by omega)
def rCount (s : xS) (nm : Nat → Nat) (ta : Nat) (a0 : Int32) : Int32 := if a0 = 0 then nI (s.1 19 0) else if a0 = 1 then nI (qMade s) else if a0 = 2 then nI (qFP s 32 0) else if a0 = 3 then nI ta else if a0 = 4 then nI (s.1 19 1) else if a0 = 5 then nI (qNm nm 26 0) else if a0 = 6 then nI (qHow s (fun _ => true) 1) else if a0 = 7 then nI (qHow s (fun _ => true) 2) else -1
theorem C_count {t : xS} {Y X : xMem} {nm : Nat → Nat} {ta : Nat} {a0 : Int32} (hW : XW Y) (hI : INV t) (hR : RN nm Y X) (hT : RT ta Y X) : fX_count (cM 0 t Y) (0, 0, 0) a0 = some (rCount t nm ta a0, cM 0 t Y) := by
  have hb : 0 < 3 := by decide
  have h2 := D_slabsOf (b := 0) (t := t) (Y := Y) (w := m1) (S := fun x => !decide (x < 4)) hW hb (fun x => by rw [en_m1 (by decide)]; simp)
  have h6 := D_howMany (b := 0) (t := t) (Y := Y) (v := 1) (w := m1) (S := fun _ => true) hW hb hI (by decide) (fun x _ => by simp)
  have h7 := D_howMany (b := 0) (t := t) (Y := Y) (v := 2) (w := m1) (S := fun _ => true) hW hb hI (by decide) (fun x _ => by simp)
  have h5 := D_named (t := t) hW hR
  unfold fX_count rCount
  by_cases e0 : a0 = 0
  · rw [if_pos e0, if_pos e0, cX_0 hW, Option.bind_some, cg_1_4 hW hb, Option.bind_some]
  rw [if_neg e0, if_neg e0]
  by_cases e1 : a0 = 1
  · rw [if_pos e1, if_pos e1, cX_0 hW, Option.bind_some, cg_1_5 hW hb, Option.bind_some]
  rw [if_neg e1, if_neg e1]
  by_cases e2 : a0 = 2
  · rw [if_pos e2, if_pos e2]
    simp (disch := first | assumption | omega | decide | with_unfolding_all exact hW) only [↓km1, ↓kn2, ↓kn3, ↓kn5, ↓kn11, ↓kn13, ↓kn14, ↓cX_0b, ↓cX_1b, ↓cX_2b, ↓cX_4b, ↓cX_5b, ↓cX_10b, ↓cX_11b, ↓cX_12b, ↓cX_14b, ↓cXob, cX_0, cX_1, cX_2, cX_4, cX_5, cX_10, cX_11, cX_12, cX_14, cXo, ↓km1, ↓cO_1b, ↓cO_2b, ↓cO_14b, ↓cO_17b, ↓cO_19b, ↓cO_21b, ↓cR_1_0b, ↓cR_1_1b, ↓cR_1_2b, ↓cR_1_3b, ↓cR_2_0b, ↓cR_2_1b, ↓cR_2_2b, ↓cR_2_3b, ↓cR_2_4b, ↓cR_2_5b, ↓cR_2_6b, ↓cR_2_7b, ↓cR_14_14b, ↓cR_14_15b, ↓cR_14_16b, ↓cR_14_17b, ↓cR_17_0b, ↓cR_19_0b, ↓cR_21_0b, ↓cA_11b, ↓cA_12b, ↓cg_1_4b, ↓cg_1_5b, ↓cg_1_6b, ↓cg_1_7b, ↓cg_14_0b, ↓cg_14_1b, ↓cg_14_2b, ↓cg_14_3b, ↓cg_14_4b, ↓cg_14_5b, ↓cg_14_6b, ↓cg_14_7b, ↓cg_14_8b, ↓cg_14_9b, ↓cg_14_10b, ↓cg_14_11b, ↓cg_14_12b, ↓cg_14_13b, ↓cg_17_1b, ↓cg_19_1b, ↓cg_21_1b, ↓ca_3b, ↓ca_4b, ↓ca_5b, ↓ca_6b, ↓ca_9b, ↓ca_15b, ↓ca_16b, ↓ca_18b, ↓ca_20b, ↓ca_22b, ↓ca_13b, ↓ca_7b, ↓ca_8b, ↓cp_1_4b, ↓cp_1_6b, ↓cp_1_7b, ↓cp_14_0b, ↓cp_14_2b, ↓cp_14_4b, ↓cp_14_5b, ↓cp_14_6b, ↓cp_14_7b, ↓cp_14_8b, ↓cp_14_9b, ↓cp_14_10b, ↓cp_14_11b, ↓cp_14_12b, ↓cp_14_13b, ↓cp_17_1b, ↓cp_19_1b, ↓cp_21_1b, ↓cu_4b, ↓cu_15b, ↓cn_15b, ↓cm_15b, ↓cu_16b, ↓cn_16b, ↓cm_16b, ↓cu_18b, ↓cu_20b, ↓cu_22b, ↓cu_9b, ↓cl_15b, ↓cl_16b, ↓cl_18b, ↓cl_20b, ↓cl_22b, ↓Option.bind_some, cO_1, cO_2, cO_14, cO_17, cO_19, cO_21, cR_1_0, cR_1_1, cR_1_2, cR_1_3, cR_2_0, cR_2_1, cR_2_2, cR_2_3, cR_2_4, cR_2_5, cR_2_6, cR_2_7, cR_14_14, cR_14_15, cR_14_16, cR_14_17, cR_17_0, cR_19_0, cR_21_0, cA_11, cA_12, cg_1_4, cg_1_5, cg_1_6, cg_1_7, cg_14_0, cg_14_1, cg_14_2, cg_14_3, cg_14_4, cg_14_5, cg_14_6, cg_14_7, cg_14_8, cg_14_9, cg_14_10, cg_14_11, cg_14_12, cg_14_13, cg_17_1, cg_19_1, cg_21_1, ca_3, ca_4, ca_5, ca_6, ca_9, ca_15, ca_16, ca_18, ca_20, ca_22, ca_13, ca_7, ca_8, cp_1_4, cp_1_6, cp_1_7, cp_14_0, cp_14_2, cp_14_4, cp_14_5, cp_14_6, cp_14_7, cp_14_8, cp_14_9, cp_14_10, cp_14_11, cp_14_12, cp_14_13, cp_17_1, cp_19_1, cp_21_1, cu_4, cu_15, cn_15, cm_15, cu_16, cn_16, cm_16, cu_18, cu_20, cu_22, cu_9, cl_15, cl_16, cl_18, cl_20, cl_22, Option.bind_some, kl_0, kl_1, kl_2, kl_3, kl_4, kl_5, kl_6, kl_7, kl_8, kl_10, kl_13, kl_14, kl_15, kl_16, kl_24, kl_25, kl_26, kl_31, kl_32, kl_36, kl_40, kl_62, kl_99, kl_100, kl_255, kl_400, kl_992, kl_1023, kl_1024, kl_1984, kl_9200, kl_4600, kl_48, kl_57, kl_97, kl_122, kl_32767, nI_add, pk_mul, h2]
    rfl
  rw [if_neg e2, if_neg e2]
  by_cases e3 : a0 = 3
  · rw [if_pos e3, if_pos e3, cXg hW, Option.bind_some, hT.1]
  rw [if_neg e3, if_neg e3]
  by_cases e4 : a0 = 4
  · rw [if_pos e4, if_pos e4, cX_0 hW, Option.bind_some, cg_1_6 hW hb, Option.bind_some]
  rw [if_neg e4, if_neg e4]
  by_cases e5 : a0 = 5
  · rw [if_pos e5, if_pos e5, cXo hW, Option.bind_some, h5, Option.bind_some]
  rw [if_neg e5, if_neg e5]
  by_cases e6 : a0 = 6
  · rw [if_pos e6, if_pos e6]
    simp (disch := first | assumption | omega | decide | with_unfolding_all exact hW) only [↓km1, ↓kn2, ↓kn3, ↓kn5, ↓kn11, ↓kn13, ↓kn14, ↓cX_0b, ↓cX_1b, ↓cX_2b, ↓cX_4b, ↓cX_5b, ↓cX_10b, ↓cX_11b, ↓cX_12b, ↓cX_14b, ↓cXob, cX_0, cX_1, cX_2, cX_4, cX_5, cX_10, cX_11, cX_12, cX_14, cXo, ↓km1, ↓cO_1b, ↓cO_2b, ↓cO_14b, ↓cO_17b, ↓cO_19b, ↓cO_21b, ↓cR_1_0b, ↓cR_1_1b, ↓cR_1_2b, ↓cR_1_3b, ↓cR_2_0b, ↓cR_2_1b, ↓cR_2_2b, ↓cR_2_3b, ↓cR_2_4b, ↓cR_2_5b, ↓cR_2_6b, ↓cR_2_7b, ↓cR_14_14b, ↓cR_14_15b, ↓cR_14_16b, ↓cR_14_17b, ↓cR_17_0b, ↓cR_19_0b, ↓cR_21_0b, ↓cA_11b, ↓cA_12b, ↓cg_1_4b, ↓cg_1_5b, ↓cg_1_6b, ↓cg_1_7b, ↓cg_14_0b, ↓cg_14_1b, ↓cg_14_2b, ↓cg_14_3b, ↓cg_14_4b, ↓cg_14_5b, ↓cg_14_6b, ↓cg_14_7b, ↓cg_14_8b, ↓cg_14_9b, ↓cg_14_10b, ↓cg_14_11b, ↓cg_14_12b, ↓cg_14_13b, ↓cg_17_1b, ↓cg_19_1b, ↓cg_21_1b, ↓ca_3b, ↓ca_4b, ↓ca_5b, ↓ca_6b, ↓ca_9b, ↓ca_15b, ↓ca_16b, ↓ca_18b, ↓ca_20b, ↓ca_22b, ↓ca_13b, ↓ca_7b, ↓ca_8b, ↓cp_1_4b, ↓cp_1_6b, ↓cp_1_7b, ↓cp_14_0b, ↓cp_14_2b, ↓cp_14_4b, ↓cp_14_5b, ↓cp_14_6b, ↓cp_14_7b, ↓cp_14_8b, ↓cp_14_9b, ↓cp_14_10b, ↓cp_14_11b, ↓cp_14_12b, ↓cp_14_13b, ↓cp_17_1b, ↓cp_19_1b, ↓cp_21_1b, ↓cu_4b, ↓cu_15b, ↓cn_15b, ↓cm_15b, ↓cu_16b, ↓cn_16b, ↓cm_16b, ↓cu_18b, ↓cu_20b, ↓cu_22b, ↓cu_9b, ↓cl_15b, ↓cl_16b, ↓cl_18b, ↓cl_20b, ↓cl_22b, ↓Option.bind_some, cO_1, cO_2, cO_14, cO_17, cO_19, cO_21, cR_1_0, cR_1_1, cR_1_2, cR_1_3, cR_2_0, cR_2_1, cR_2_2, cR_2_3, cR_2_4, cR_2_5, cR_2_6, cR_2_7, cR_14_14, cR_14_15, cR_14_16, cR_14_17, cR_17_0, cR_19_0, cR_21_0, cA_11, cA_12, cg_1_4, cg_1_5, cg_1_6, cg_1_7, cg_14_0, cg_14_1, cg_14_2, cg_14_3, cg_14_4, cg_14_5, cg_14_6, cg_14_7, cg_14_8, cg_14_9, cg_14_10, cg_14_11, cg_14_12, cg_14_13, cg_17_1, cg_19_1, cg_21_1, ca_3, ca_4, ca_5, ca_6, ca_9, ca_15, ca_16, ca_18, ca_20, ca_22, ca_13, ca_7, ca_8, cp_1_4, cp_1_6, cp_1_7, cp_14_0, cp_14_2, cp_14_4, cp_14_5, cp_14_6, cp_14_7, cp_14_8, cp_14_9, cp_14_10, cp_14_11, cp_14_12, cp_14_13, cp_17_1, cp_19_1, cp_21_1, cu_4, cu_15, cn_15, cm_15, cu_16, cn_16, cm_16, cu_18, cu_20, cu_22, cu_9, cl_15, cl_16, cl_18, cl_20, cl_22, Option.bind_some, kl_0, kl_1, kl_2, kl_3, kl_4, kl_5, kl_6, kl_7, kl_8, kl_10, kl_13, kl_14, kl_15, kl_16, kl_24, kl_25, kl_26, kl_31, kl_32, kl_36, kl_40, kl_62, kl_99, kl_100, kl_255, kl_400, kl_992, kl_1023, kl_1024, kl_1984, kl_9200, kl_4600, kl_48, kl_57, kl_97, kl_122, kl_32767, nI_add, pk_mul, h6]
  rw [if_neg e6, if_neg e6]
  by_cases e7 : a0 = 7
  · rw [if_pos e7, if_pos e7]
    simp (disch := first | assumption | omega | decide | with_unfolding_all exact hW) only [↓km1, ↓kn2, ↓kn3, ↓kn5, ↓kn11, ↓kn13, ↓kn14, ↓cX_0b, ↓cX_1b, ↓cX_2b, ↓cX_4b, ↓cX_5b, ↓cX_10b, ↓cX_11b, ↓cX_12b, ↓cX_14b, ↓cXob, cX_0, cX_1, cX_2, cX_4, cX_5, cX_10, cX_11, cX_12, cX_14, cXo, ↓km1, ↓cO_1b, ↓cO_2b, ↓cO_14b, ↓cO_17b, ↓cO_19b, ↓cO_21b, ↓cR_1_0b, ↓cR_1_1b, ↓cR_1_2b, ↓cR_1_3b, ↓cR_2_0b, ↓cR_2_1b, ↓cR_2_2b, ↓cR_2_3b, ↓cR_2_4b, ↓cR_2_5b, ↓cR_2_6b, ↓cR_2_7b, ↓cR_14_14b, ↓cR_14_15b, ↓cR_14_16b, ↓cR_14_17b, ↓cR_17_0b, ↓cR_19_0b, ↓cR_21_0b, ↓cA_11b, ↓cA_12b, ↓cg_1_4b, ↓cg_1_5b, ↓cg_1_6b, ↓cg_1_7b, ↓cg_14_0b, ↓cg_14_1b, ↓cg_14_2b, ↓cg_14_3b, ↓cg_14_4b, ↓cg_14_5b, ↓cg_14_6b, ↓cg_14_7b, ↓cg_14_8b, ↓cg_14_9b, ↓cg_14_10b, ↓cg_14_11b, ↓cg_14_12b, ↓cg_14_13b, ↓cg_17_1b, ↓cg_19_1b, ↓cg_21_1b, ↓ca_3b, ↓ca_4b, ↓ca_5b, ↓ca_6b, ↓ca_9b, ↓ca_15b, ↓ca_16b, ↓ca_18b, ↓ca_20b, ↓ca_22b, ↓ca_13b, ↓ca_7b, ↓ca_8b, ↓cp_1_4b, ↓cp_1_6b, ↓cp_1_7b, ↓cp_14_0b, ↓cp_14_2b, ↓cp_14_4b, ↓cp_14_5b, ↓cp_14_6b, ↓cp_14_7b, ↓cp_14_8b, ↓cp_14_9b, ↓cp_14_10b, ↓cp_14_11b, ↓cp_14_12b, ↓cp_14_13b, ↓cp_17_1b, ↓cp_19_1b, ↓cp_21_1b, ↓cu_4b, ↓cu_15b, ↓cn_15b, ↓cm_15b, ↓cu_16b, ↓cn_16b, ↓cm_16b, ↓cu_18b, ↓cu_20b, ↓cu_22b, ↓cu_9b, ↓cl_15b, ↓cl_16b, ↓cl_18b, ↓cl_20b, ↓cl_22b, ↓Option.bind_some, cO_1, cO_2, cO_14, cO_17, cO_19, cO_21, cR_1_0, cR_1_1, cR_1_2, cR_1_3, cR_2_0, cR_2_1, cR_2_2, cR_2_3, cR_2_4, cR_2_5, cR_2_6, cR_2_7, cR_14_14, cR_14_15, cR_14_16, cR_14_17, cR_17_0, cR_19_0, cR_21_0, cA_11, cA_12, cg_1_4, cg_1_5, cg_1_6, cg_1_7, cg_14_0, cg_14_1, cg_14_2, cg_14_3, cg_14_4, cg_14_5, cg_14_6, cg_14_7, cg_14_8, cg_14_9, cg_14_10, cg_14_11, cg_14_12, cg_14_13, cg_17_1, cg_19_1, cg_21_1, ca_3, ca_4, ca_5, ca_6, ca_9, ca_15, ca_16, ca_18, ca_20, ca_22, ca_13, ca_7, ca_8, cp_1_4, cp_1_6, cp_1_7, cp_14_0, cp_14_2, cp_14_4, cp_14_5, cp_14_6, cp_14_7, cp_14_8, cp_14_9, cp_14_10, cp_14_11, cp_14_12, cp_14_13, cp_17_1, cp_19_1, cp_21_1, cu_4, cu_15, cn_15, cm_15, cu_16, cn_16, cm_16, cu_18, cu_20, cu_22, cu_9, cl_15, cl_16, cl_18, cl_20, cl_22, Option.bind_some, kl_0, kl_1, kl_2, kl_3, kl_4, kl_5, kl_6, kl_7, kl_8, kl_10, kl_13, kl_14, kl_15, kl_16, kl_24, kl_25, kl_26, kl_31, kl_32, kl_36, kl_40, kl_62, kl_99, kl_100, kl_255, kl_400, kl_992, kl_1023, kl_1024, kl_1984, kl_9200, kl_4600, kl_48, kl_57, kl_97, kl_122, kl_32767, nI_add, pk_mul, h7]
  rw [if_neg e7, if_neg e7]
theorem M_count {d : Int32} {s : xS} {X : xMem} {Y : xMem} {nm : Nat → Nat} {ta : Nat} {a0 : Int32} (hW : XW X) (hI : INV s) (hR : RN nm Y X) (hT : RT ta Y X) : fM_count (mM d s X) (44, 0, 0) a0 = some (rCount s nm ta a0, mM d s X) := by
  have h2 := M_freeP4 (d := d) (s := s) (X := X) hW 32 0 xF 0 (by omega) (by unfold xF; omega)
  have h5 := M_named4 (d := d) (s := s) (X := X) hW hR 26 0 xF 0 (by omega) (by unfold xF; omega)
  have h6 := M_liveNow (d := d) (s := s) (X := X) hW hI
  have h7 := M_manyHeld (d := d) (s := s) (X := X) (w := m1) (S := fun _ => true) hW hI (fun x _ => by simp [m1_lt0])
  rw [Nat.zero_add] at h2 h5
  unfold fM_count rCount
  by_cases e0 : a0 = 0
  · rw [if_pos e0, if_pos e0, gI_13 hW, Option.bind_some]
  rw [if_neg e0, if_neg e0]
  by_cases e1 : a0 = 1
  · rw [if_pos e1, if_pos e1, xob_44 hW, Option.bind_some, M_manyMade hW, Option.bind_some]
  rw [if_neg e1, if_neg e1]
  by_cases e2 : a0 = 2
  · unfold fM_freePages
    rw [if_pos e2, if_pos e2, xob_44 hW, Option.bind_some, kl_0, h2, Option.bind_some]
  rw [if_neg e2, if_neg e2]
  by_cases e3 : a0 = 3
  · rw [if_pos e3, if_pos e3, gI_42 hW, Option.bind_some, hT.2.1]
  rw [if_neg e3, if_neg e3]
  by_cases e4 : a0 = 4
  · rw [if_pos e4, if_pos e4, gI_14 hW, Option.bind_some]
  rw [if_neg e4, if_neg e4]
  by_cases e5 : a0 = 5
  · unfold fM_manyNamed
    rw [if_pos e5, if_pos e5, xob_44 hW, Option.bind_some, kl_0, h5, Option.bind_some]
  rw [if_neg e5, if_neg e5]
  by_cases e6 : a0 = 6
  · rw [if_pos e6, if_pos e6, xob_44 hW, Option.bind_some, h6, Option.bind_some]
  rw [if_neg e6, if_neg e6]
  by_cases e7 : a0 = 7
  · rw [if_pos e7, if_pos e7, xob_44 hW, Option.bind_some, km1, h7, Option.bind_some]
  rw [if_neg e7, if_neg e7]
theorem rCount_ok {s t : xS} {nm : Nat → Nat} {ta : Nat} (h : EQs s t) (hI : INV s) {a0 : Int32} : rCount t nm ta a0 = rCount s nm ta a0 := by
  have e1 : qFP t 32 0 = qFP s 32 0 := qC_cong (P := fun p => (fun x => !decide (x < 4)) (t.1 13 p)) (Q := fun p => (fun x => !decide (x < 4)) (s.1 13 p)) (fun p _ hp => by
    show (!decide (t.1 13 p < 4)) = !decide (s.1 13 p < 4)
    rw [h.p (Or.inl rfl) (by omega)])
  unfold rCount
  rw [h.n (j := 0) (by decide), h.n (j := 1) (by decide), h.made18, h.how hI.R, h.how hI.R, e1]
/-- the tape goes on -/
theorem RT.feed {ta : Nat} {Y X : xMem} {a0 : Int32} (h : RT ta Y X) : RT (if cN 256 a0 < 256 ∧ ta < 100 then ta + 1 else ta) (yF ta a0 (25, 0, 0) (0, 0, 0) 6 Y) (yF ta a0 (75, 0, 0) (44, 0, 0) 42 X) := by
  by_cases h1 : cN 256 a0 < 256 ∧ ta < 100
  · rw [if_pos h1, show yF ta a0 (25, 0, 0) (0, 0, 0) 6 Y = _ from if_pos h1, show yF ta a0 (75, 0, 0) (44, 0, 0) 42 X = _ from if_pos h1]
    refine ⟨by rw [xsi_1, if_pos ⟨rfl, rfl⟩], by rw [xsi_1, if_pos ⟨rfl, rfl⟩], by omega, fun k hk => ?_⟩
    have n1 : ¬ (((25, 0, 0) : xId) = (0, 0, 0) ∧ k = 6) := by simp
    have n2 : ¬ (((75, 0, 0) : xId) = (44, 0, 0) ∧ k = 42) := by simp
    rw [xsi_1, if_neg n1, xsi_1, xsi_1, if_neg n2, xsi_1]
    by_cases h2 : k = ta
    · rw [if_pos ⟨rfl, h2⟩, if_pos ⟨rfl, h2⟩]
    · rw [if_neg (fun e => h2 e.2), if_neg (fun e => h2 e.2)]; exact h.2.2.2 k hk
  · rw [if_neg h1, show yF ta a0 (25, 0, 0) (0, 0, 0) 6 Y = Y from if_neg h1, show yF ta a0 (75, 0, 0) (44, 0, 0) 42 X = X from if_neg h1]
    exact h
