/-! reap, with the memories -/
theorem sRp_2 {s : xS} {p : Nat} : (sRp s p).2 = s.2 := rfl
theorem sRp_per {s : xS} {p : Nat} : qPer (sRp s p) = qPer s := qPer_d (sRp_q (by decide) (by decide))
theorem sRp_pers {s : xS} {p k : Nat} : qPers (sRp s p) k = if k = p then 0 else qPers s k := by
  unfold qPers
  rw [sRp_13, sRp_per]
  by_cases h : k = p
  · rw [if_pos h, if_pos h, if_neg (by decide)]
  · rw [if_neg h, if_neg h]
theorem sRp_sz {s : xS} {p k : Nat} (h4 : s.1 13 p < 4) : qSz (sRp s p) k = qSz s k := by
  unfold qSz
  rw [sRp_13, sRp_q (by decide) (by decide)]
  by_cases h : k = p
  · subst h
    rw [if_pos rfl, if_neg (by decide), if_pos h4]
    unfold sRp
    rw [sA_n (by decide), sA_1, if_pos ⟨rfl, rfl⟩]
  · rw [if_neg h]
    by_cases h5 : s.1 13 k < 4
    · rw [if_pos h5, if_pos h5]
    · rw [if_neg h5, if_neg h5]
      unfold sRp
      rw [sA_n (by decide), sA_1, if_neg (fun e => h e.2)]
theorem sRp_fB {s : xS} {p k u j : Nat} : fB (sRp s p) u k j = if k = p then false else fB s u k j := by
  unfold fB
  rw [sRp_pers, sRp_q (by decide) (by decide)]
  by_cases h : k = p
  · rw [if_pos h, if_pos h, decide_eq_false (Nat.not_lt_zero _), Bool.false_and]
  · rw [if_neg h, if_neg h]
theorem cM_reap {b : Nat} {t : xS} {Y : xMem} {p : Nat} (hp : p < 32) (h4 : t.1 13 p < 4) (hf : ∀ j, j < 62 → fB t 1 p j = false) :
    xsl (xsi (xsi (cM b t Y) (3, b, 0) p m1) (6, b, 0) p (nI 0)) (7, b, 0) p (0 : Int64) = cM b (sRp t p) Y := by
  have hT3 : cT 3 0 p = some (13, p, 1) := if_pos ⟨rfl, hp⟩
  have same : ∀ κ i k, ¬ ((κ = 3 ∨ κ = 6) ∧ i = 0 ∧ k = p) → cI (sRp t p) κ i k = cI t κ i k := fun κ i k h1 => by
    refine cI_agree (fun q j e h => ?_) (fun _ => ?_)
    · have h2 := cT_V h
      have h26 : q ≠ 26 := (cT_q h).2
      by_cases h13 : q = 13
      · subst h13
        rw [sRp_13, if_neg]
        rintro rfl
        rw [cT_V hT3] at h2
        simp only [Prod.mk.injEq] at h2
        exact h1 ⟨Or.inl h2.1.symm, h2.2.1.symm, h2.2.2.symm⟩
      · rw [sRp_q h13 h26]
    · have hm : qMade (sRp t p) = qMade t := by unfold qMade; rw [sRp_q (by decide) (by decide)]
      unfold cD
      rw [hm, sRp_per, sRp_2]
      split
      · rfl
      · by_cases h3 : i = 0 ∧ k < 32
        · rw [if_pos h3, if_pos h3, sRp_sz h4]
        · rw [if_neg h3, if_neg h3]
      · by_cases h3 : i = 0 ∧ k < 32
        · rw [if_pos h3, if_pos h3, sRp_pers, if_neg (fun e => h1 ⟨by simp, h3.1, e⟩)]
        · rw [if_neg h3, if_neg h3]
      all_goals rfl
  have same8 : ∀ k, msk (fB (sRp t p) 1 k) 62 = msk (fB t 1 k) 62 := fun k => msk_cong (fun j hj => by
    rw [sRp_fB]
    by_cases e : k = p
    · rw [if_pos e, e, hf j hj]
    · rw [if_neg e])
  have sameL : ∀ κ i k, ¬ (κ = 7 ∧ i = 0 ∧ k = p) → cL (sRp t p) κ i k = cL t κ i k := fun κ i k h1 => by
    unfold cL
    rw [sRp_2]
    split
    · by_cases h3 : i = 0 ∧ k < 32
      · rw [if_pos h3, if_pos h3, msk_cong (g := fB t 0 k) (fun j hj => by rw [sRp_fB, if_neg (fun e => h1 ⟨rfl, h3.1, e⟩)])]
      · rw [if_neg h3, if_neg h3]
    · rw [same8]
    all_goals rfl
  have v3 : cI (sRp t p) 3 0 p = some m1 := by
    rw [cI_T hT3, sRp_13, if_pos rfl]; rfl
  have v6 : cI (sRp t p) 6 0 p = some (nI 0) := by
    rw [cI_D rfl]
    show (if 0 = 0 ∧ p < 32 then some (nI (qPers (sRp t p) p)) else none) = _
    rw [if_pos ⟨rfl, hp⟩, sRp_pers, if_pos rfl]
  have v7 : cL (sRp t p) 7 0 p = some (0 : Int64) := by
    show (if 0 = 0 ∧ p < 32 then some (lN (msk (fB (sRp t p) 0 p) 62)) else none) = _
    rw [if_pos ⟨rfl, hp⟩, msk_0.mpr (fun j hj => by rw [sRp_fB, if_pos rfl])]
    rfl
  have inj : ∀ {κ κ' b' i k : Nat}, ((κ, b', i) = (κ', b, 0) ∧ k = p) → κ = κ' ∧ b' = b ∧ i = 0 ∧ k = p := fun e => ⟨(Prod.mk.inj e.1).1, (Prod.mk.inj (Prod.mk.inj e.1).2).1, (Prod.mk.inj (Prod.mk.inj e.1).2).2, e.2⟩
  refine cM_ext (fun κ i k w h => ?_) (fun κ b' i k h => ?_) (fun κ i k w h => ?_) (fun κ b' i k h => ?_) rfl
  · rw [xsl_1, xsi_1, xsi_1]
    by_cases a6 : κ = 6 ∧ i = 0 ∧ k = p
    · obtain ⟨rfl, rfl, rfl⟩ := a6
      rw [if_pos ⟨rfl, rfl⟩]; exact Option.some.inj (v6.symm.trans h)
    · rw [if_neg (fun e => a6 ⟨(inj e).1, (inj e).2.2⟩)]
      by_cases a3 : κ = 3 ∧ i = 0 ∧ k = p
      · obtain ⟨rfl, rfl, rfl⟩ := a3
        rw [if_pos ⟨rfl, rfl⟩]; exact Option.some.inj (v3.symm.trans h)
      · rw [if_neg (fun e => a3 ⟨(inj e).1, (inj e).2.2⟩)]
        rw [same κ i k (by
          rintro ⟨rfl | rfl, e⟩
          · exact a3 ⟨rfl, e⟩
          · exact a6 ⟨rfl, e⟩)] at h
        exact cM_r h
  · have hne : ∀ κ', (κ' = 3 ∨ κ' = 6) → ¬ ((κ, b', i) = (κ', b, 0) ∧ k = p) := by
      intro κ' hκ e
      obtain ⟨rfl, rfl, rfl, rfl⟩ := inj e
      rcases h with h | h
      · exact h rfl
      · rcases hκ with rfl | rfl
        · rw [v3] at h; cases h
        · rw [v6] at h; cases h
    rw [xsl_1, xsi_1, xsi_1, if_neg (hne 6 (by simp)), if_neg (hne 3 (by simp))]
    rcases h with h | h
    · exact cM_o (Or.inl h)
    · refine cM_o (Or.inr ?_)
      have := cI_dom (t := sRp t p) (t' := t) (κ := κ) (i := i) (k := k)
      rw [h] at this
      cases hq : cI t κ i k with
      | none => rfl
      | some w => rw [hq] at this; cases this
  · rw [xsl_2]
    by_cases a7 : κ = 7 ∧ i = 0 ∧ k = p
    · obtain ⟨rfl, rfl, rfl⟩ := a7
      rw [if_pos ⟨rfl, rfl⟩]; exact Option.some.inj (v7.symm.trans h)
    · rw [if_neg (fun e => a7 ⟨(inj e).1, (inj e).2.2⟩)]
      rw [sameL κ i k a7] at h
      exact cM_rL h
  · have hne : ¬ ((κ, b', i) = (7, b, 0) ∧ k = p) := by
      intro e
      obtain ⟨rfl, rfl, rfl, rfl⟩ := inj e
      rcases h with h | h
      · exact h rfl
      · rw [v7] at h; cases h
    rw [xsl_2, if_neg hne]
    rcases h with h | h
    · exact cM_oL (Or.inl h)
    · refine cM_oL (Or.inr ?_)
      have := cL_dom (t := sRp t p) (t' := t) (κ := κ) (i := i) (k := k)
      rw [h] at this
      cases hq : cL t κ i k with
      | none => rfl
      | some w => rw [hq] at this; cases this
theorem all_free {t : xS} {p : Nat} (h62 : qPers t p ≤ 62) : (∀ k, k < 62 → fB t 0 p k = decide (k < qPers t p)) = (qIn t p 0 = qPers t p) := by
  unfold qIn
  rw [qC_ct, fb_ct_all]
  refine propext ⟨fun h k hk => ?_, fun h k hk => ?_⟩
  · have h1 := h k (by omega)
    unfold fB at h1
    rw [decide_eq_true hk, Bool.true_and] at h1; exact h1
  · unfold fB
    by_cases h1 : k < qPers t p
    · rw [decide_eq_true h1, Bool.true_and]; exact h k h1
    · rw [decide_eq_false h1, Bool.false_and]
theorem all_free1 {t : xS} {p : Nat} (h : ∀ k, k < 62 → fB t 0 p k = decide (k < qPers t p)) : ∀ k, k < 62 → fB t 1 p k = false := fun k hk => by
  have h1 := h k hk
  unfold fB at h1 ⊢
  by_cases h2 : k < qPers t p
  · rw [decide_eq_true h2, Bool.true_and] at h1 ⊢
    rw [eq_of_beq h1]; rfl
  · rw [decide_eq_false h2, Bool.false_and]
theorem D_free14 {b : Nat} {Y : xMem} {c : Nat} (hW : XW Y) (hb : b < 3) (hc : c < 4) : ∀ e i n a t, INV t → i + e = 32 → e < n → fA_freePagesOf_4 n (cM b t Y) (some (2, b, 0)) (nI c) (nI a) (nI i) = some (nI (a + (sReap t c e i).1), cM b (sReap t c e i).2 Y) := by
  intro e
  induction e with
  | zero =>
    intro i n a t hI hie hn
    obtain ⟨n, rfl⟩ : ∃ m, n = m + 1 := ⟨n - 1, by omega⟩
    have h5 : 32 ≤ i := by omega
    simp (disch := first | assumption | omega | decide | with_unfolding_all exact hW) only [fA_freePagesOf_4, kl_0, kl_1, kl_2, kl_3, kl_4, kl_5, kl_6, kl_7, kl_8, kl_10, kl_13, kl_14, kl_15, kl_16, kl_24, kl_25, kl_26, kl_31, kl_32, kl_36, kl_40, kl_62, kl_99, kl_100, kl_255, kl_400, kl_992, kl_1023, kl_1024, kl_1984, kl_9200, kl_4600, kl_48, kl_57, kl_97, kl_122, kl_32767, nI_leI, h5, Nat.not_lt_zero, if_true, if_false, not_true, not_false_iff, and_true, true_and, and_false, false_and, Bool.false_eq_true, reduceCtorEq]
    rfl
  | succ e ih =>
    intro i n a t hI hie hn
    obtain ⟨n, rfl⟩ : ∃ m, n = m + 1 := ⟨n - 1, by omega⟩
    have h5 : ¬ 32 ≤ i := by omega
    have h6 : i < 32 := by omega
    have h62 := qPers_62 hI.R h6
    have e4 : (en 4 m1 (t.1 13 i) = nI c) = (t.1 13 i = c) := en_eq (by decide) (by decide) hc
    unfold sReap
    simp (disch := first | assumption | omega | decide | with_unfolding_all exact hW) only [fA_freePagesOf_4, fA_freePagesOf_63, ↓km1, ↓cO_1b, ↓cO_2b, ↓cO_14b, ↓cO_17b, ↓cO_19b, ↓cO_21b, ↓cR_1_0b, ↓cR_1_1b, ↓cR_1_2b, ↓cR_1_3b, ↓cR_2_0b, ↓cR_2_1b, ↓cR_2_2b, ↓cR_2_3b, ↓cR_2_4b, ↓cR_2_5b, ↓cR_2_6b, ↓cR_2_7b, ↓cR_14_14b, ↓cR_14_15b, ↓cR_14_16b, ↓cR_14_17b, ↓cR_17_0b, ↓cR_19_0b, ↓cR_21_0b, ↓cA_11b, ↓cA_12b, ↓cg_1_4b, ↓cg_1_5b, ↓cg_1_6b, ↓cg_1_7b, ↓cg_14_0b, ↓cg_14_1b, ↓cg_14_2b, ↓cg_14_3b, ↓cg_14_4b, ↓cg_14_5b, ↓cg_14_6b, ↓cg_14_7b, ↓cg_14_8b, ↓cg_14_9b, ↓cg_14_10b, ↓cg_14_11b, ↓cg_14_12b, ↓cg_14_13b, ↓cg_17_1b, ↓cg_19_1b, ↓cg_21_1b, ↓ca_3b, ↓ca_4b, ↓ca_5b, ↓ca_6b, ↓ca_9b, ↓ca_15b, ↓ca_16b, ↓ca_18b, ↓ca_20b, ↓ca_22b, ↓ca_13b, ↓ca_7b, ↓ca_8b, ↓cp_1_4b, ↓cp_1_6b, ↓cp_1_7b, ↓cp_14_0b, ↓cp_14_2b, ↓cp_14_4b, ↓cp_14_5b, ↓cp_14_6b, ↓cp_14_7b, ↓cp_14_8b, ↓cp_14_9b, ↓cp_14_10b, ↓cp_14_11b, ↓cp_14_12b, ↓cp_14_13b, ↓cp_17_1b, ↓cp_19_1b, ↓cp_21_1b, ↓cu_4b, ↓cu_15b, ↓cn_15b, ↓cm_15b, ↓cu_16b, ↓cn_16b, ↓cm_16b, ↓cu_18b, ↓cu_20b, ↓cu_22b, ↓cu_9b, ↓cl_15b, ↓cl_16b, ↓cl_18b, ↓cl_20b, ↓cl_22b, ↓Option.bind_some, cO_1, cO_2, cO_14, cO_17, cO_19, cO_21, cR_1_0, cR_1_1, cR_1_2, cR_1_3, cR_2_0, cR_2_1, cR_2_2, cR_2_3, cR_2_4, cR_2_5, cR_2_6, cR_2_7, cR_14_14, cR_14_15, cR_14_16, cR_14_17, cR_17_0, cR_19_0, cR_21_0, cA_11, cA_12, cg_1_4, cg_1_5, cg_1_6, cg_1_7, cg_14_0, cg_14_1, cg_14_2, cg_14_3, cg_14_4, cg_14_5, cg_14_6, cg_14_7, cg_14_8, cg_14_9, cg_14_10, cg_14_11, cg_14_12, cg_14_13, cg_17_1, cg_19_1, cg_21_1, ca_3, ca_4, ca_5, ca_6, ca_9, ca_15, ca_16, ca_18, ca_20, ca_22, ca_13, ca_7, ca_8, cp_1_4, cp_1_6, cp_1_7, cp_14_0, cp_14_2, cp_14_4, cp_14_5, cp_14_6, cp_14_7, cp_14_8, cp_14_9, cp_14_10, cp_14_11, cp_14_12, cp_14_13, cp_17_1, cp_19_1, cp_21_1, cu_4, cu_15, cn_15, cm_15, cu_16, cn_16, cm_16, cu_18, cu_20, cu_22, cu_9, cl_15, cl_16, cl_18, cl_20, cl_22, Option.bind_some, kl_0, kl_1, kl_2, kl_3, kl_4, kl_5, kl_6, kl_7, kl_8, kl_10, kl_13, kl_14, kl_15, kl_16, kl_24, kl_25, kl_26, kl_31, kl_32, kl_36, kl_40, kl_62, kl_99, kl_100, kl_255, kl_400, kl_992, kl_1023, kl_1024, kl_1984, kl_9200, kl_4600, kl_48, kl_57, kl_97, kl_122, kl_32767, nI_add, pk_mul, nI_leI, h5, if_false, e4, fA_allOf, mk_all, mk_eqmn]
    simp only [all_free h62]
    by_cases h0 : t.1 13 i = c
    · rw [if_pos h0]
      by_cases h1 : qIn t i 0 = qPers t i
      · rw [if_pos h1, if_pos ⟨h0, h1⟩]
        have w1 : ∀ v, xuI (cM b t Y) (some (3, b, 0)) (nI i) v = some (xsi (cM b t Y) (3, b, 0) i v) := fun v => wu_ar (M := cM b t Y) hW (sh_3 hb) h6 (by decide)
        have w4 : ∀ (M : xMem) (v : Int32), XW M → xuI M (some (6, b, 0)) (nI i) v = some (xsi M (6, b, 0) i v) := fun M v h => wu_ar h (sh_6 hb) h6 (by decide)
        have w5 : ∀ (M : xMem) (v : Int64), XW M → xuL M (some (7, b, 0)) (nI i) v = some (xsl M (7, b, 0) i v) := fun M v h => xuL_w h (sh_7 hb) h6 (by decide)
        have hW1 : XW (xsi (cM b t Y) (3, b, 0) i m1) := hW
        have hW2 : XW (xsi (xsi (cM b t Y) (3, b, 0) i m1) (6, b, 0) i (nI 0)) := hW
        rw [w1, Option.bind_some, xgR_xsi, cR_2_3 hW hb, Option.bind_some, w4 _ _ hW1, Option.bind_some, xgR_xsi, xgR_xsi, cR_2_4 hW hb, Option.bind_some, w5 _ _ hW2, Option.bind_some]
        rw [cM_reap h6 (by omega) (all_free1 ((all_free h62).mpr h1))]
        rw [ih (i + 1) n (a + 1) _ (hI.reap1 h6 (by omega) h1) (by omega) (by omega), Nat.add_assoc, Nat.add_comm 1]
      · rw [if_neg h1, if_neg (fun e => h1 e.2)]
        exact ih (i + 1) n a t hI (by omega) (by omega)
    · rw [if_neg h0, if_neg (fun e => h0 e.1)]
      exact ih (i + 1) n a t hI (by omega) (by omega)
theorem M_reap14 {d : Int32} {X : xMem} {c : Nat} (hW : XW X) (hc : c < 4) : ∀ e i n a s, INV s → i + e = 32 → e < n → fM_reap_14 n (mM d s X) (some (44, 0, 0)) (nI c) (nI a) (nI i) = some (nI (a + (sReap s c e i).1), mM d (sReap s c e i).2 X) := by
  intro e
  induction e with
  | zero =>
    intro i n a s hI hie hn
    obtain ⟨n, rfl⟩ : ∃ m, n = m + 1 := ⟨n - 1, by omega⟩
    have h5 : 32 ≤ i := by omega
    simp (disch := first | assumption | omega | decide | with_unfolding_all exact hW) only [fM_reap_14, ↓gR_0b, ↓gR_1b, ↓gR_2b, ↓gR_3b, ↓gR_4b, ↓gR_5b, ↓gR_6b, ↓gR_7b, ↓gR_8b, ↓gR_9b, ↓gR_10b, ↓gR_11b, ↓gR_12b, ↓gR_16b, ↓gR_17b, ↓gR_18b, ↓gR_19b, ↓gR_20b, ↓gR_21b, ↓gR_22b, ↓gR_23b, ↓gR_24b, ↓gR_25b, ↓gR_26b, ↓gR_27b, ↓gR_28b, ↓gR_29b, ↓gR_30b, ↓gR_31b, ↓gR_35b, ↓gR_38b, ↓gR_39b, ↓gR_40b, ↓gR_41b, ↓gR_52b, ↓gR_53b, ↓gR_54b, ↓aI_45b, ↓uI_45b, ↓aI_46b, ↓uI_46b, ↓aI_47b, ↓uI_47b, ↓aI_48b, ↓uI_48b, ↓aI_49b, ↓uI_49b, ↓aI_50b, ↓uI_50b, ↓aI_51b, ↓uI_51b, ↓aI_52b, ↓uI_52b, ↓aI_53b, ↓uI_53b, ↓aI_54b, ↓uI_54b, ↓aI_55b, ↓uI_55b, ↓aI_56b, ↓uI_56b, ↓aI_58b, ↓uI_58b, ↓uN_58b, ↓uM_58b, ↓aI_59b, ↓uI_59b, ↓aI_60b, ↓uI_60b, ↓aI_62b, ↓uI_62b, ↓uN_62b, ↓uM_62b, ↓aI_63b, ↓uI_63b, ↓uN_63b, ↓uM_63b, ↓aI_64b, ↓uI_64b, ↓aI_65b, ↓uI_65b, ↓aI_66b, ↓uI_66b, ↓aI_67b, ↓uI_67b, ↓aI_68b, ↓uI_68b, ↓aI_69b, ↓uI_69b, ↓aI_70b, ↓uI_70b, ↓aI_61b, ↓uI_61b, ↓aL_57b, ↓uL_57b, ↓aI_71b, ↓uI_71b, ↓aI_72b, ↓uI_72b, ↓aI_74b, ↓uI_74b, ↓aI_75b, ↓uI_75b, ↓aI_76b, ↓uI_76b, ↓aI_77b, ↓uI_77b, ↓aI_78b, ↓uI_78b, ↓aI_79b, ↓uI_79b, ↓aI_80b, ↓uI_80b, ↓aI_81b, ↓uI_81b, ↓gI_13b, ↓pI_13b, ↓gI_14b, ↓pI_14b, ↓gI_15b, ↓pI_15b, ↓gI_32b, ↓pI_32b, ↓gI_33b, ↓pI_33b, ↓gI_34b, ↓pI_34b, ↓gI_36b, ↓pI_36b, ↓gI_37b, ↓pI_37b, ↓gI_42b, ↓pI_42b, ↓gI_43b, ↓pI_43b, ↓gI_44b, ↓pI_44b, ↓gI_45b, ↓pI_45b, ↓gI_46b, ↓pI_46b, ↓gI_47b, ↓pI_47b, ↓gI_48b, ↓pI_48b, ↓gI_49b, ↓pI_49b, ↓gI_50b, ↓pI_50b, ↓gI_51b, ↓pI_51b, ↓pZ_32b, ↓pZ_33b, ↓pZ_46b, ↓xob_44b, ↓Option.bind_some, xob_44, gR_0, gR_1, gR_2, gR_3, gR_4, gR_5, gR_6, gR_7, gR_8, gR_9, gR_10, gR_11, gR_12, gR_16, gR_17, gR_18, gR_19, gR_20, gR_21, gR_22, gR_23, gR_24, gR_25, gR_26, gR_27, gR_28, gR_29, gR_30, gR_31, gR_35, gR_38, gR_39, gR_40, gR_41, gR_52, gR_53, gR_54, aI_45, aI_46, aI_47, aI_48, aI_49, aI_50, aI_51, aI_52, aI_53, aI_54, aI_55, aI_56, aI_58, aI_59, aI_60, aI_62, aI_63, aI_64, aI_65, aI_66, aI_67, aI_68, aI_69, aI_70, aI_61, aL_57, aI_71, aI_72, aI_74, aI_75, aI_76, aI_77, aI_78, aI_79, aI_80, aI_81, uI_45, uI_46, uI_47, uI_48, uI_49, uI_50, uI_51, uI_52, uI_53, uI_54, uI_55, uI_56, uI_58, uN_58, uM_58, uI_59, uI_60, uI_62, uN_62, uM_62, uI_63, uN_63, uM_63, uI_64, uI_65, uI_66, uI_67, uI_68, uI_69, uI_70, uI_61, uL_57, uI_71, uI_72, uI_74, uI_75, uI_76, uI_77, uI_78, uI_79, uI_80, uI_81, gI_13, gI_14, gI_15, gI_32, gI_33, gI_34, gI_36, gI_37, gI_42, gI_43, gI_44, gI_45, gI_46, gI_47, gI_48, gI_49, gI_50, gI_51, pI_13, pI_14, pI_15, pI_32, pI_33, pI_34, pI_36, pI_37, pI_42, pI_43, pI_44, pI_45, pI_46, pI_47, pI_48, pI_49, pI_50, pI_51, pZ_32, pZ_33, pZ_46, Option.bind_some, kl_0, kl_1, kl_2, kl_3, kl_4, kl_5, kl_6, kl_7, kl_8, kl_10, kl_13, kl_14, kl_15, kl_16, kl_24, kl_25, kl_26, kl_31, kl_32, kl_36, kl_40, kl_62, kl_99, kl_100, kl_255, kl_400, kl_992, kl_1023, kl_1024, kl_1984, kl_9200, kl_4600, kl_48, kl_57, kl_97, kl_122, kl_32767, nI_add, pk_mul, nI_leI, h5, Nat.not_lt_zero, if_true, if_false, not_true, not_false_iff, and_true, true_and, and_false, false_and, Bool.false_eq_true, reduceCtorEq]
    rfl
  | succ e ih =>
    intro i n a s hI hie hn
    obtain ⟨n, rfl⟩ : ∃ m, n = m + 1 := ⟨n - 1, by omega⟩
    have h5 : ¬ 32 ≤ i := by omega
    have h6 : i < 32 := by omega
    have h62 := qPers_62 hI.R h6
    have e4 : (en 4 (-9) (s.1 13 i) = nI c) = (s.1 13 i = c) := en_eq (by decide) (by decide) hc
    unfold sReap
    simp (disch := first | assumption | omega | decide | with_unfolding_all exact hW) only [fM_reap_14, fM_reap_58, ↓gR_0b, ↓gR_1b, ↓gR_2b, ↓gR_3b, ↓gR_4b, ↓gR_5b, ↓gR_6b, ↓gR_7b, ↓gR_8b, ↓gR_9b, ↓gR_10b, ↓gR_11b, ↓gR_12b, ↓gR_16b, ↓gR_17b, ↓gR_18b, ↓gR_19b, ↓gR_20b, ↓gR_21b, ↓gR_22b, ↓gR_23b, ↓gR_24b, ↓gR_25b, ↓gR_26b, ↓gR_27b, ↓gR_28b, ↓gR_29b, ↓gR_30b, ↓gR_31b, ↓gR_35b, ↓gR_38b, ↓gR_39b, ↓gR_40b, ↓gR_41b, ↓gR_52b, ↓gR_53b, ↓gR_54b, ↓aI_45b, ↓uI_45b, ↓aI_46b, ↓uI_46b, ↓aI_47b, ↓uI_47b, ↓aI_48b, ↓uI_48b, ↓aI_49b, ↓uI_49b, ↓aI_50b, ↓uI_50b, ↓aI_51b, ↓uI_51b, ↓aI_52b, ↓uI_52b, ↓aI_53b, ↓uI_53b, ↓aI_54b, ↓uI_54b, ↓aI_55b, ↓uI_55b, ↓aI_56b, ↓uI_56b, ↓aI_58b, ↓uI_58b, ↓uN_58b, ↓uM_58b, ↓aI_59b, ↓uI_59b, ↓aI_60b, ↓uI_60b, ↓aI_62b, ↓uI_62b, ↓uN_62b, ↓uM_62b, ↓aI_63b, ↓uI_63b, ↓uN_63b, ↓uM_63b, ↓aI_64b, ↓uI_64b, ↓aI_65b, ↓uI_65b, ↓aI_66b, ↓uI_66b, ↓aI_67b, ↓uI_67b, ↓aI_68b, ↓uI_68b, ↓aI_69b, ↓uI_69b, ↓aI_70b, ↓uI_70b, ↓aI_61b, ↓uI_61b, ↓aL_57b, ↓uL_57b, ↓aI_71b, ↓uI_71b, ↓aI_72b, ↓uI_72b, ↓aI_74b, ↓uI_74b, ↓aI_75b, ↓uI_75b, ↓aI_76b, ↓uI_76b, ↓aI_77b, ↓uI_77b, ↓aI_78b, ↓uI_78b, ↓aI_79b, ↓uI_79b, ↓aI_80b, ↓uI_80b, ↓aI_81b, ↓uI_81b, ↓gI_13b, ↓pI_13b, ↓gI_14b, ↓pI_14b, ↓gI_15b, ↓pI_15b, ↓gI_32b, ↓pI_32b, ↓gI_33b, ↓pI_33b, ↓gI_34b, ↓pI_34b, ↓gI_36b, ↓pI_36b, ↓gI_37b, ↓pI_37b, ↓gI_42b, ↓pI_42b, ↓gI_43b, ↓pI_43b, ↓gI_44b, ↓pI_44b, ↓gI_45b, ↓pI_45b, ↓gI_46b, ↓pI_46b, ↓gI_47b, ↓pI_47b, ↓gI_48b, ↓pI_48b, ↓gI_49b, ↓pI_49b, ↓gI_50b, ↓pI_50b, ↓gI_51b, ↓pI_51b, ↓pZ_32b, ↓pZ_33b, ↓pZ_46b, ↓xob_44b, ↓Option.bind_some, xob_44, gR_0, gR_1, gR_2, gR_3, gR_4, gR_5, gR_6, gR_7, gR_8, gR_9, gR_10, gR_11, gR_12, gR_16, gR_17, gR_18, gR_19, gR_20, gR_21, gR_22, gR_23, gR_24, gR_25, gR_26, gR_27, gR_28, gR_29, gR_30, gR_31, gR_35, gR_38, gR_39, gR_40, gR_41, gR_52, gR_53, gR_54, aI_45, aI_46, aI_47, aI_48, aI_49, aI_50, aI_51, aI_52, aI_53, aI_54, aI_55, aI_56, aI_58, aI_59, aI_60, aI_62, aI_63, aI_64, aI_65, aI_66, aI_67, aI_68, aI_69, aI_70, aI_61, aL_57, aI_71, aI_72, aI_74, aI_75, aI_76, aI_77, aI_78, aI_79, aI_80, aI_81, uI_45, uI_46, uI_47, uI_48, uI_49, uI_50, uI_51, uI_52, uI_53, uI_54, uI_55, uI_56, uI_58, uN_58, uM_58, uI_59, uI_60, uI_62, uN_62, uM_62, uI_63, uN_63, uM_63, uI_64, uI_65, uI_66, uI_67, uI_68, uI_69, uI_70, uI_61, uL_57, uI_71, uI_72, uI_74, uI_75, uI_76, uI_77, uI_78, uI_79, uI_80, uI_81, gI_13, gI_14, gI_15, gI_32, gI_33, gI_34, gI_36, gI_37, gI_42, gI_43, gI_44, gI_45, gI_46, gI_47, gI_48, gI_49, gI_50, gI_51, pI_13, pI_14, pI_15, pI_32, pI_33, pI_34, pI_36, pI_37, pI_42, pI_43, pI_44, pI_45, pI_46, pI_47, pI_48, pI_49, pI_50, pI_51, pZ_32, pZ_33, pZ_46, Option.bind_some, kl_0, kl_1, kl_2, kl_3, kl_4, kl_5, kl_6, kl_7, kl_8, kl_10, kl_13, kl_14, kl_15, kl_16, kl_24, kl_25, kl_26, kl_31, kl_32, kl_36, kl_40, kl_62, kl_99, kl_100, kl_255, kl_400, kl_992, kl_1023, kl_1024, kl_1984, kl_9200, kl_4600, kl_48, kl_57, kl_97, kl_122, kl_32767, nI_add, pk_mul, nI_leI, h5, if_false, e4]
    by_cases h0 : s.1 13 i = c
    · rw [if_pos h0]
      have h4 : s.1 13 i < 4 := by omega
      have hp := hI.R.pg h6 h4
      have hin := M_manyIn (d := d) (X := X) (s := s) (p := i) (v := 0) hW hI h6 h4 (by decide)
      have hle : qIn s i 0 ≤ qPers s i := qC_le
      have eP : qPers s i = qPer s c := by unfold qPers; rw [if_pos h4, h0]
      have hper := M_per (d := d) (X := X) (s := s) (c := c) hW hc (by rw [← h0]; exact hp.2.1) (by rw [← h0]; exact hp.2.2.1)
      rw [hin, Option.bind_some]
      dsimp only
      rw [xob_44 hW, Option.bind_some, hper, Option.bind_some]
      dsimp only
      rw [gR_16 hW, Option.bind_some]
      simp (disch := first | assumption | omega | decide | with_unfolding_all exact hW) only [nI_leI]
      by_cases h1 : qIn s i 0 = qPers s i
      · have hle2 : qPer s c ≤ qIn s i 0 := by omega
        rw [if_pos hle2, if_pos ⟨h0, h1⟩, uN_58 hW h6, Option.bind_some]
        have e9 : mM d (sA s 13 i 4) X = mM d (sRp s i) X := by
          unfold sRp
          rw [sA_comm (by decide), mM_26]
        rw [e9, ih (i + 1) n (a + 1) _ (hI.reap1 h6 h4 h1) (by omega) (by omega), Nat.add_assoc, Nat.add_comm 1]
      · rw [if_neg (by omega), if_neg (fun e => h1 e.2)]
        exact ih (i + 1) n a s hI (by omega) (by omega)
    · rw [if_neg h0, if_neg (fun e => h0 e.1)]
      exact ih (i + 1) n a s hI (by omega) (by omega)
def rReap (s : xS) (a0 : Int32) : Int32 × xS := if cN (s.1 19 0) a0 < s.1 19 0 then (nI (sReap s (cN (s.1 19 0) a0) 32 0).1, (sReap s (cN (s.1 19 0) a0) 32 0).2) else (m1, s)
theorem rReap_no {s : xS} {a0 : Int32} (h : ¬ cN (s.1 19 0) a0 < s.1 19 0) : rReap s a0 = (m1, s) := if_neg h
theorem rReap_yes {s : xS} {c : Nat} (hn : s.1 19 0 ≤ 4) (hc : c < s.1 19 0) : rReap s (nI c) = (nI (sReap s c 32 0).1, (sReap s c 32 0).2) := by
  unfold rReap
  rw [cN_nI hc (by omega), if_pos hc]
theorem C_reap {t : xS} {Y : xMem} {a0 : Int32} (hW : XW Y) (hI : INV t) : fX_reap (cM 0 t Y) (0, 0, 0) a0 = some ((rReap t a0).1, cM 0 (rReap t a0).2 Y) := by
  have hn := hI.R.n
  have hb : 0 < 3 := by decide
  unfold fX_reap
  simp (disch := first | assumption | omega | decide | with_unfolding_all exact hW) only [↓km1, ↓kn2, ↓kn3, ↓kn5, ↓kn11, ↓kn13, ↓kn14, ↓cX_0b, ↓cX_1b, ↓cX_2b, ↓cX_4b, ↓cX_5b, ↓cX_10b, ↓cX_11b, ↓cX_12b, ↓cX_14b, ↓cXob, cX_0, cX_1, cX_2, cX_4, cX_5, cX_10, cX_11, cX_12, cX_14, cXo, ↓km1, ↓cO_1b, ↓cO_2b, ↓cO_14b, ↓cO_17b, ↓cO_19b, ↓cO_21b, ↓cR_1_0b, ↓cR_1_1b, ↓cR_1_2b, ↓cR_1_3b, ↓cR_2_0b, ↓cR_2_1b, ↓cR_2_2b, ↓cR_2_3b, ↓cR_2_4b, ↓cR_2_5b, ↓cR_2_6b, ↓cR_2_7b, ↓cR_14_14b, ↓cR_14_15b, ↓cR_14_16b, ↓cR_14_17b, ↓cR_17_0b, ↓cR_19_0b, ↓cR_21_0b, ↓cA_11b, ↓cA_12b, ↓cg_1_4b, ↓cg_1_5b, ↓cg_1_6b, ↓cg_1_7b, ↓cg_14_0b, ↓cg_14_1b, ↓cg_14_2b, ↓cg_14_3b, ↓cg_14_4b, ↓cg_14_5b, ↓cg_14_6b, ↓cg_14_7b, ↓cg_14_8b, ↓cg_14_9b, ↓cg_14_10b, ↓cg_14_11b, ↓cg_14_12b, ↓cg_14_13b, ↓cg_17_1b, ↓cg_19_1b, ↓cg_21_1b, ↓ca_3b, ↓ca_4b, ↓ca_5b, ↓ca_6b, ↓ca_9b, ↓ca_15b, ↓ca_16b, ↓ca_18b, ↓ca_20b, ↓ca_22b, ↓ca_13b, ↓ca_7b, ↓ca_8b, ↓cp_1_4b, ↓cp_1_6b, ↓cp_1_7b, ↓cp_14_0b, ↓cp_14_2b, ↓cp_14_4b, ↓cp_14_5b, ↓cp_14_6b, ↓cp_14_7b, ↓cp_14_8b, ↓cp_14_9b, ↓cp_14_10b, ↓cp_14_11b, ↓cp_14_12b, ↓cp_14_13b, ↓cp_17_1b, ↓cp_19_1b, ↓cp_21_1b, ↓cu_4b, ↓cu_15b, ↓cn_15b, ↓cm_15b, ↓cu_16b, ↓cn_16b, ↓cm_16b, ↓cu_18b, ↓cu_20b, ↓cu_22b, ↓cu_9b, ↓cl_15b, ↓cl_16b, ↓cl_18b, ↓cl_20b, ↓cl_22b, ↓Option.bind_some, cO_1, cO_2, cO_14, cO_17, cO_19, cO_21, cR_1_0, cR_1_1, cR_1_2, cR_1_3, cR_2_0, cR_2_1, cR_2_2, cR_2_3, cR_2_4, cR_2_5, cR_2_6, cR_2_7, cR_14_14, cR_14_15, cR_14_16, cR_14_17, cR_17_0, cR_19_0, cR_21_0, cA_11, cA_12, cg_1_4, cg_1_5, cg_1_6, cg_1_7, cg_14_0, cg_14_1, cg_14_2, cg_14_3, cg_14_4, cg_14_5, cg_14_6, cg_14_7, cg_14_8, cg_14_9, cg_14_10, cg_14_11, cg_14_12, cg_14_13, cg_17_1, cg_19_1, cg_21_1, ca_3, ca_4, ca_5, ca_6, ca_9, ca_15, ca_16, ca_18, ca_20, ca_22, ca_13, ca_7, ca_8, cp_1_4, cp_1_6, cp_1_7, cp_14_0, cp_14_2, cp_14_4, cp_14_5, cp_14_6, cp_14_7, cp_14_8, cp_14_9, cp_14_10, cp_14_11, cp_14_12, cp_14_13, cp_17_1, cp_19_1, cp_21_1, cu_4, cu_15, cn_15, cm_15, cu_16, cn_16, cm_16, cu_18, cu_20, cu_22, cu_9, cl_15, cl_16, cl_18, cl_20, cl_22, Option.bind_some, kl_0, kl_1, kl_2, kl_3, kl_4, kl_5, kl_6, kl_7, kl_8, kl_10, kl_13, kl_14, kl_15, kl_16, kl_24, kl_25, kl_26, kl_31, kl_32, kl_36, kl_40, kl_62, kl_99, kl_100, kl_255, kl_400, kl_992, kl_1023, kl_1024, kl_1984, kl_9200, kl_4600, kl_48, kl_57, kl_97, kl_122, kl_32767, nI_add, pk_mul]
  rw [D_cacheAt hW hb hn, Option.bind_some]
  rcases ca_cases (t.1 19 0) a0 hn with h | ⟨c, hc, rfl, e⟩
  · rw [rReap_no h]
    simp only [h, if_false, eq_self, if_true]
  · have hi : c < 4 := by omega
    rw [rReap_yes hn hc]
    simp (disch := first | assumption | omega | decide | with_unfolding_all exact hW) only [e, hc, if_true, reduceCtorEq, if_false, ↓cX_0b, ↓cX_1b, ↓cX_2b, ↓cX_4b, ↓cX_5b, ↓cX_10b, ↓cX_11b, ↓cX_12b, ↓cX_14b, ↓cXob, cX_0, cX_1, cX_2, cX_4, cX_5, cX_10, cX_11, cX_12, cX_14, cXo, ↓km1, ↓cO_1b, ↓cO_2b, ↓cO_14b, ↓cO_17b, ↓cO_19b, ↓cO_21b, ↓cR_1_0b, ↓cR_1_1b, ↓cR_1_2b, ↓cR_1_3b, ↓cR_2_0b, ↓cR_2_1b, ↓cR_2_2b, ↓cR_2_3b, ↓cR_2_4b, ↓cR_2_5b, ↓cR_2_6b, ↓cR_2_7b, ↓cR_14_14b, ↓cR_14_15b, ↓cR_14_16b, ↓cR_14_17b, ↓cR_17_0b, ↓cR_19_0b, ↓cR_21_0b, ↓cA_11b, ↓cA_12b, ↓cg_1_4b, ↓cg_1_5b, ↓cg_1_6b, ↓cg_1_7b, ↓cg_14_0b, ↓cg_14_1b, ↓cg_14_2b, ↓cg_14_3b, ↓cg_14_4b, ↓cg_14_5b, ↓cg_14_6b, ↓cg_14_7b, ↓cg_14_8b, ↓cg_14_9b, ↓cg_14_10b, ↓cg_14_11b, ↓cg_14_12b, ↓cg_14_13b, ↓cg_17_1b, ↓cg_19_1b, ↓cg_21_1b, ↓ca_3b, ↓ca_4b, ↓ca_5b, ↓ca_6b, ↓ca_9b, ↓ca_15b, ↓ca_16b, ↓ca_18b, ↓ca_20b, ↓ca_22b, ↓ca_13b, ↓ca_7b, ↓ca_8b, ↓cp_1_4b, ↓cp_1_6b, ↓cp_1_7b, ↓cp_14_0b, ↓cp_14_2b, ↓cp_14_4b, ↓cp_14_5b, ↓cp_14_6b, ↓cp_14_7b, ↓cp_14_8b, ↓cp_14_9b, ↓cp_14_10b, ↓cp_14_11b, ↓cp_14_12b, ↓cp_14_13b, ↓cp_17_1b, ↓cp_19_1b, ↓cp_21_1b, ↓cu_4b, ↓cu_15b, ↓cn_15b, ↓cm_15b, ↓cu_16b, ↓cn_16b, ↓cm_16b, ↓cu_18b, ↓cu_20b, ↓cu_22b, ↓cu_9b, ↓cl_15b, ↓cl_16b, ↓cl_18b, ↓cl_20b, ↓cl_22b, ↓Option.bind_some, cO_1, cO_2, cO_14, cO_17, cO_19, cO_21, cR_1_0, cR_1_1, cR_1_2, cR_1_3, cR_2_0, cR_2_1, cR_2_2, cR_2_3, cR_2_4, cR_2_5, cR_2_6, cR_2_7, cR_14_14, cR_14_15, cR_14_16, cR_14_17, cR_17_0, cR_19_0, cR_21_0, cA_11, cA_12, cg_1_4, cg_1_5, cg_1_6, cg_1_7, cg_14_0, cg_14_1, cg_14_2, cg_14_3, cg_14_4, cg_14_5, cg_14_6, cg_14_7, cg_14_8, cg_14_9, cg_14_10, cg_14_11, cg_14_12, cg_14_13, cg_17_1, cg_19_1, cg_21_1, ca_3, ca_4, ca_5, ca_6, ca_9, ca_15, ca_16, ca_18, ca_20, ca_22, ca_13, ca_7, ca_8, cp_1_4, cp_1_6, cp_1_7, cp_14_0, cp_14_2, cp_14_4, cp_14_5, cp_14_6, cp_14_7, cp_14_8, cp_14_9, cp_14_10, cp_14_11, cp_14_12, cp_14_13, cp_17_1, cp_19_1, cp_21_1, cu_4, cu_15, cn_15, cm_15, cu_16, cn_16, cm_16, cu_18, cu_20, cu_22, cu_9, cl_15, cl_16, cl_18, cl_20, cl_22, Option.bind_some, kl_0, kl_1, kl_2, kl_3, kl_4, kl_5, kl_6, kl_7, kl_8, kl_10, kl_13, kl_14, kl_15, kl_16, kl_24, kl_25, kl_26, kl_31, kl_32, kl_36, kl_40, kl_62, kl_99, kl_100, kl_255, kl_400, kl_992, kl_1023, kl_1024, kl_1984, kl_9200, kl_4600, kl_48, kl_57, kl_97, kl_122, kl_32767, nI_add, pk_mul]
    unfold fA_freePagesOf
    rw [kl_0, D_free14 hW hb hi 32 0 xF 0 t hI (by omega) (by unfold xF; omega), Nat.zero_add, Option.bind_some]
theorem M_reap {d : Int32} {s : xS} {X : xMem} {a0 : Int32} (hW : XW X) (hI : INV s) : fM_reap (mM d s X) (44, 0, 0) a0 = some ((rReap s a0).1, mM d (rReap s a0).2 X) := by
  have hn := hI.R.n
  unfold fM_reap
  rw [xob_44 hW, Option.bind_some, M_isCache hW hn, Option.bind_some]
  simp only [bI_0', dec_f]
  rcases ca_cases (s.1 19 0) a0 hn with h | ⟨c, hc, rfl, e⟩
  · rw [rReap_no h, if_pos h]; rfl
  · rw [rReap_yes hn hc, if_neg (by rw [e]; exact fun x => x hc)]
    rw [kl_0, M_reap14 hW (by omega) 32 0 xF 0 s hI (by omega) (by unfold xF; omega), Nat.zero_add]
theorem rReap_ok {s t : xS} (h : EQs s t) (hI : INV s) {a0 : Int32} : (rReap t a0).1 = (rReap s a0).1 ∧ EQs (rReap s a0).2 (rReap t a0).2 ∧ INV (rReap s a0).2 := by
  have hn := hI.R.n
  unfold rReap
  rw [h.n (j := 0) (by decide)]
  by_cases h1 : cN (s.1 19 0) a0 < s.1 19 0
  · rw [if_pos h1, if_pos h1]
    obtain ⟨a, b, c⟩ := reap_ok (c := cN (s.1 19 0) a0) (d := 32) (p := 0) h hI (by omega) (by decide)
    exact ⟨congrArg nI a, b, c⟩
  · rw [if_neg h1, if_neg h1]; exact ⟨rfl, h, hI⟩
