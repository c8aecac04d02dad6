/-! the class's unmakings -/
theorem xsri_1 {M : xMem} {a b : xId} {g : Nat → Int32} {k : Nat} : (xsri M a g).1 b k = if b = a then g k else M.1 b k := by
  show (if b = a then g else M.1 b) k = _
  split <;> rfl
theorem xcpy_w {M : xMem} {a d : xId} {n dp sp N1 N2 : Nat} (hW : XW M) (hs1 : xsh a = some (20, N1)) (hs2 : xsh d = some (20, N2)) (h1 : sp + n ≤ N1) (h2 : dp + n ≤ N2) (hN1 : N1 < 2 ^ 31) (hN2 : N2 < 2 ^ 31) : xcpy M (nI n) (nI dp) (nI sp) (some d) (some a) = some (xsri M d (va_cpy (M.1 a) (M.1 d) sp dp n)) := by
  show xcopy M (nI n) (nI dp) (nI sp) d a = _
  unfold xcopy
  rw [hs1, hs2]
  dsimp only
  rw [nI_clamp (by omega), nI_clamp (by omega), nI_clamp (by omega)]
  rw [if_pos ⟨rfl, hW.lt hs1, hW.lt hs2, nI_pos (by omega), nI_pos (by omega), nI_pos (by omega), h1, h2⟩, if_pos rfl]
theorem cM_row {b : Nat} {u u' : xS} {Y : xMem} {κ i : Nat} {g : Nat → Int32} (h1 : ∀ k v, cI u' κ i k = some v → g k = v) (h2 : ∀ k, cI u' κ i k = none → g k = Y.1 (κ, b, i) k) (h3 : ∀ κ' i' k, ¬ (κ' = κ ∧ i' = i) → cI u' κ' i' k = cI u κ' i' k) (h4 : ∀ κ' i' k, cL u' κ' i' k = cL u κ' i' k) : xsri (cM b u Y) (κ, b, i) g = cM b u' Y := by
  refine cM_ext (fun κ' i' k v h => ?_) (fun κ' b' i' k h => ?_) (fun κ' i' k v h => ?_) (fun κ' b' i' k h => ?_) rfl
  · rw [xsri_1]
    by_cases he : κ' = κ ∧ i' = i
    · obtain ⟨rfl, rfl⟩ := he
      rw [if_pos rfl]; exact h1 k v h
    · rw [if_neg (fun e => he ⟨(Prod.mk.inj e).1, (Prod.mk.inj (Prod.mk.inj e).2).2⟩)]
      rw [h3 _ _ _ he] at h
      exact cM_r h
  · rw [xsri_1]
    by_cases he : (κ', b', i') = (κ, b, i)
    · rw [if_pos he]
      obtain ⟨rfl, e2⟩ := Prod.mk.inj he
      obtain ⟨rfl, rfl⟩ := Prod.mk.inj e2
      rcases h with h | h
      · exact absurd rfl h
      · exact h2 k h
    · rw [if_neg he]
      rcases h with h | h
      · exact cM_o (Or.inl h)
      · refine cM_o (Or.inr ?_)
        have := cI_dom (t := u') (t' := u) (κ := κ') (i := i') (k := k)
        rw [h] at this
        cases hq : cI u κ' i' k with
        | none => rfl
        | some w => rw [hq] at this; cases this
  · rw [h4] at h; exact cM_rL h
  · rw [h4] at h; exact cM_oL h
theorem D_getF {b : Nat} {t : xS} {Y : xMem} {c k : Nat} (hW : XW Y) (hb : b < 3) (hi : c < 4) (h2 : t.1 22 c ≤ 24) (hk : k < 24) : fP_get (cM b t Y) (17, b, c) (nI k) = some (if k < t.1 22 c then nI (t.1 23 (24 * c + k)) else m1, cM b t Y) := by
  unfold fP_get
  simp (disch := first | assumption | omega | decide | with_unfolding_all exact hW) only [↓km1, ↓cO_1b, ↓cO_2b, ↓cO_14b, ↓cO_17b, ↓cO_19b, ↓cO_21b, ↓cR_1_0b, ↓cR_1_1b, ↓cR_1_2b, ↓cR_1_3b, ↓cR_2_0b, ↓cR_2_1b, ↓cR_2_2b, ↓cR_2_3b, ↓cR_2_4b, ↓cR_2_5b, ↓cR_2_6b, ↓cR_2_7b, ↓cR_14_14b, ↓cR_14_15b, ↓cR_14_16b, ↓cR_14_17b, ↓cR_17_0b, ↓cR_19_0b, ↓cR_21_0b, ↓cA_11b, ↓cA_12b, ↓cg_1_4b, ↓cg_1_5b, ↓cg_1_6b, ↓cg_1_7b, ↓cg_14_0b, ↓cg_14_1b, ↓cg_14_2b, ↓cg_14_3b, ↓cg_14_4b, ↓cg_14_5b, ↓cg_14_6b, ↓cg_14_7b, ↓cg_14_8b, ↓cg_14_9b, ↓cg_14_10b, ↓cg_14_11b, ↓cg_14_12b, ↓cg_14_13b, ↓cg_17_1b, ↓cg_19_1b, ↓cg_21_1b, ↓ca_3b, ↓ca_4b, ↓ca_5b, ↓ca_6b, ↓ca_9b, ↓ca_15b, ↓ca_16b, ↓ca_18b, ↓ca_20b, ↓ca_22b, ↓ca_13b, ↓ca_7b, ↓ca_8b, ↓cp_1_4b, ↓cp_1_6b, ↓cp_1_7b, ↓cp_14_0b, ↓cp_14_2b, ↓cp_14_4b, ↓cp_14_5b, ↓cp_14_6b, ↓cp_14_7b, ↓cp_14_8b, ↓cp_14_9b, ↓cp_14_10b, ↓cp_14_11b, ↓cp_14_12b, ↓cp_14_13b, ↓cp_17_1b, ↓cp_19_1b, ↓cp_21_1b, ↓cu_4b, ↓cu_15b, ↓cn_15b, ↓cm_15b, ↓cu_16b, ↓cn_16b, ↓cm_16b, ↓cu_18b, ↓cu_20b, ↓cu_22b, ↓cu_9b, ↓cl_15b, ↓cl_16b, ↓cl_18b, ↓cl_20b, ↓cl_22b, ↓Option.bind_some, cO_1, cO_2, cO_14, cO_17, cO_19, cO_21, cR_1_0, cR_1_1, cR_1_2, cR_1_3, cR_2_0, cR_2_1, cR_2_2, cR_2_3, cR_2_4, cR_2_5, cR_2_6, cR_2_7, cR_14_14, cR_14_15, cR_14_16, cR_14_17, cR_17_0, cR_19_0, cR_21_0, cA_11, cA_12, cg_1_4, cg_1_5, cg_1_6, cg_1_7, cg_14_0, cg_14_1, cg_14_2, cg_14_3, cg_14_4, cg_14_5, cg_14_6, cg_14_7, cg_14_8, cg_14_9, cg_14_10, cg_14_11, cg_14_12, cg_14_13, cg_17_1, cg_19_1, cg_21_1, ca_3, ca_4, ca_5, ca_6, ca_9, ca_15, ca_16, ca_18, ca_20, ca_22, ca_13, ca_7, ca_8, cp_1_4, cp_1_6, cp_1_7, cp_14_0, cp_14_2, cp_14_4, cp_14_5, cp_14_6, cp_14_7, cp_14_8, cp_14_9, cp_14_10, cp_14_11, cp_14_12, cp_14_13, cp_17_1, cp_19_1, cp_21_1, cu_4, cu_15, cn_15, cm_15, cu_16, cn_16, cm_16, cu_18, cu_20, cu_22, cu_9, cl_15, cl_16, cl_18, cl_20, cl_22, Option.bind_some, kl_0, kl_1, kl_2, kl_3, kl_4, kl_5, kl_6, kl_7, kl_8, kl_10, kl_13, kl_14, kl_15, kl_16, kl_24, kl_25, kl_26, kl_31, kl_32, kl_36, kl_40, kl_62, kl_99, kl_100, kl_255, kl_400, kl_992, kl_1023, kl_1024, kl_1984, kl_9200, kl_4600, kl_48, kl_57, kl_97, kl_122, kl_32767, nI_add, pk_mul, ↓km1, nI_m1, en_m1, m1_lt0, m1_eq, m1_0, nI_00, nI_10, nI_0le, nI_n0, nI_leI, Nat.not_lt_zero, if_true, if_false, not_true, not_false_iff, and_true, true_and, and_false, false_and, Bool.false_eq_true, reduceCtorEq]
  by_cases h : k < t.1 22 c
  · rw [if_neg (by omega), if_pos h]
  · rw [if_pos (by omega), if_neg h]
theorem D_dropF {b : Nat} {t : xS} {Y : xMem} {c N : Nat} (hW : XW Y) (hb : b < 3) (hi : c < 4) (h2 : t.1 22 c ≤ 24) (hN : N ≤ t.1 22 c) : fP_dropFirst (cM b t Y) (17, b, c) (nI N) = some (cM b (sA (sShF t c N (t.1 22 c - N) N) 22 c (t.1 22 c - N)) Y) := by
  have h0 : ¬ t.1 22 c < N := by omega
  have e2 : (if 0 < N then nI N else nI 0) = nI N := by
    by_cases h : 0 < N
    · rw [if_pos h]
    · have : N = 0 := by omega
      rw [if_neg h, this]
  have hcp := xcpy_w (M := cM b t Y) (a := (18, b, c)) (d := (18, b, c)) (n := t.1 22 c - N) (dp := 0) (sp := N) hW (sh_18 hb hi) (sh_18 hb hi) (by omega) (by omega) (by decide) (by decide)
  have hT : ∀ k, k < 24 → cT 18 c k = some (23, 24 * c + k, 0) := fun k hk => if_pos ⟨hi, hk⟩
  have hrow : xsri (cM b t Y) (18, b, c) (va_cpy ((cM b t Y).1 (18, b, c)) ((cM b t Y).1 (18, b, c)) N 0 (t.1 22 c - N)) = cM b (sShF t c N (t.1 22 c - N) N) Y := by
    have hS := fun q i => @sShF_1 c N (t.1 22 c - N) N t q i (Nat.le_refl _)
    have hS2 : (sShF t c N (t.1 22 c - N) N).2 = t.2 := sShF_2
    generalize sShF t c N (t.1 22 c - N) N = u at hS hS2
    have hq : ∀ q, q ≠ 23 → u.1 q = t.1 q := fun q h => by funext i; rw [hS, if_neg (fun e => h e.1)]
    have eP : qPer u = qPer t := by funext x; unfold qPer; rw [hq 1 (by decide)]
    have ePs : qPers u = qPers t := by funext x; unfold qPers; rw [hq 13 (by decide), eP]
    have eSz : qSz u = qSz t := by funext x; unfold qSz; rw [hq 13 (by decide), hq 1 (by decide), hq 26 (by decide)]
    have eB : fB u = fB t := by funext a p k; unfold fB; rw [ePs, hq 17 (by decide)]
    have eM : qMade u = qMade t := by unfold qMade; rw [hq 18 (by decide)]
    refine cM_row (fun k v h => ?_) (fun k h => ?_) (fun κ' i' k hne => ?_) (fun κ' i' k => ?_)
    · have hk : k < 24 := by
        rcases Nat.lt_or_ge k 24 with h5 | h5
        · exact h5
        · have : cI u 18 c k = none := by
            rw [cI_D (show cT 18 c k = none from if_neg (by omega))]; rfl
          rw [this] at h; cases h
      rw [cI_T (hT k hk), hS] at h
      have h := Option.some.inj h
      rw [← h]
      unfold va_cpy
      by_cases h6 : k < t.1 22 c - N
      · rw [if_pos (by omega), if_pos ⟨rfl, by omega, by omega⟩, cM_rT (hT (N + (k - 0)) (by omega)), show 24 * c + (N + (k - 0)) = 24 * c + k + N from by omega]
      · rw [if_neg (by omega), if_neg (by omega), cM_rT (hT k hk)]
    · have hk : ¬ k < 24 := fun hk => by rw [cI_T (hT k hk)] at h; cases h
      unfold va_cpy
      rw [if_neg (by omega)]
      refine cM_o (Or.inr ?_)
      rw [cI_D (show cT 18 c k = none from if_neg (by omega))]; rfl
    · refine cI_agree (fun q j e h => ?_) (fun _ => ?_)
      · rw [hS, if_neg]
        rintro ⟨rfl, h5, h6⟩
        have h7 := cT_V h
        have h8 := cT_V (hT (j - 24 * c) (by omega))
        rw [show 24 * c + (j - 24 * c) = j from by omega, h7] at h8
        simp only [Prod.mk.injEq] at h8
        exact hne ⟨h8.1, h8.2.1⟩
      · unfold cD; rw [eM, eSz, ePs, eP, hS2]
    · unfold cL; rw [eB, hS2]
  have e22 : (sShF t c N (t.1 22 c - N) N).1 22 c = t.1 22 c := by rw [sShF_1 (Nat.le_refl _), if_neg (by simp)]
  unfold fP_dropFirst
  simp (disch := first | assumption | omega | decide | with_unfolding_all exact hW) only [↓km1, ↓cO_1b, ↓cO_2b, ↓cO_14b, ↓cO_17b, ↓cO_19b, ↓cO_21b, ↓cR_1_0b, ↓cR_1_1b, ↓cR_1_2b, ↓cR_1_3b, ↓cR_2_0b, ↓cR_2_1b, ↓cR_2_2b, ↓cR_2_3b, ↓cR_2_4b, ↓cR_2_5b, ↓cR_2_6b, ↓cR_2_7b, ↓cR_14_14b, ↓cR_14_15b, ↓cR_14_16b, ↓cR_14_17b, ↓cR_17_0b, ↓cR_19_0b, ↓cR_21_0b, ↓cA_11b, ↓cA_12b, ↓cg_1_4b, ↓cg_1_5b, ↓cg_1_6b, ↓cg_1_7b, ↓cg_14_0b, ↓cg_14_1b, ↓cg_14_2b, ↓cg_14_3b, ↓cg_14_4b, ↓cg_14_5b, ↓cg_14_6b, ↓cg_14_7b, ↓cg_14_8b, ↓cg_14_9b, ↓cg_14_10b, ↓cg_14_11b, ↓cg_14_12b, ↓cg_14_13b, ↓cg_17_1b, ↓cg_19_1b, ↓cg_21_1b, ↓ca_3b, ↓ca_4b, ↓ca_5b, ↓ca_6b, ↓ca_9b, ↓ca_15b, ↓ca_16b, ↓ca_18b, ↓ca_20b, ↓ca_22b, ↓ca_13b, ↓ca_7b, ↓ca_8b, ↓cp_1_4b, ↓cp_1_6b, ↓cp_1_7b, ↓cp_14_0b, ↓cp_14_2b, ↓cp_14_4b, ↓cp_14_5b, ↓cp_14_6b, ↓cp_14_7b, ↓cp_14_8b, ↓cp_14_9b, ↓cp_14_10b, ↓cp_14_11b, ↓cp_14_12b, ↓cp_14_13b, ↓cp_17_1b, ↓cp_19_1b, ↓cp_21_1b, ↓cu_4b, ↓cu_15b, ↓cn_15b, ↓cm_15b, ↓cu_16b, ↓cn_16b, ↓cm_16b, ↓cu_18b, ↓cu_20b, ↓cu_22b, ↓cu_9b, ↓cl_15b, ↓cl_16b, ↓cl_18b, ↓cl_20b, ↓cl_22b, ↓Option.bind_some, cO_1, cO_2, cO_14, cO_17, cO_19, cO_21, cR_1_0, cR_1_1, cR_1_2, cR_1_3, cR_2_0, cR_2_1, cR_2_2, cR_2_3, cR_2_4, cR_2_5, cR_2_6, cR_2_7, cR_14_14, cR_14_15, cR_14_16, cR_14_17, cR_17_0, cR_19_0, cR_21_0, cA_11, cA_12, cg_1_4, cg_1_5, cg_1_6, cg_1_7, cg_14_0, cg_14_1, cg_14_2, cg_14_3, cg_14_4, cg_14_5, cg_14_6, cg_14_7, cg_14_8, cg_14_9, cg_14_10, cg_14_11, cg_14_12, cg_14_13, cg_17_1, cg_19_1, cg_21_1, ca_3, ca_4, ca_5, ca_6, ca_9, ca_15, ca_16, ca_18, ca_20, ca_22, ca_13, ca_7, ca_8, cp_1_4, cp_1_6, cp_1_7, cp_14_0, cp_14_2, cp_14_4, cp_14_5, cp_14_6, cp_14_7, cp_14_8, cp_14_9, cp_14_10, cp_14_11, cp_14_12, cp_14_13, cp_17_1, cp_19_1, cp_21_1, cu_4, cu_15, cn_15, cm_15, cu_16, cn_16, cm_16, cu_18, cu_20, cu_22, cu_9, cl_15, cl_16, cl_18, cl_20, cl_22, Option.bind_some, kl_0, kl_1, kl_2, kl_3, kl_4, kl_5, kl_6, kl_7, kl_8, kl_10, kl_13, kl_14, kl_15, kl_16, kl_24, kl_25, kl_26, kl_31, kl_32, kl_36, kl_40, kl_62, kl_99, kl_100, kl_255, kl_400, kl_992, kl_1023, kl_1024, kl_1984, kl_9200, kl_4600, kl_48, kl_57, kl_97, kl_122, kl_32767, nI_add, pk_mul, nI_ltI, h0, if_false, e2, pk_sub]
  rw [hcp, Option.bind_some, hrow]
  simp (disch := first | assumption | omega | decide | with_unfolding_all exact hW) only [↓km1, ↓cO_1b, ↓cO_2b, ↓cO_14b, ↓cO_17b, ↓cO_19b, ↓cO_21b, ↓cR_1_0b, ↓cR_1_1b, ↓cR_1_2b, ↓cR_1_3b, ↓cR_2_0b, ↓cR_2_1b, ↓cR_2_2b, ↓cR_2_3b, ↓cR_2_4b, ↓cR_2_5b, ↓cR_2_6b, ↓cR_2_7b, ↓cR_14_14b, ↓cR_14_15b, ↓cR_14_16b, ↓cR_14_17b, ↓cR_17_0b, ↓cR_19_0b, ↓cR_21_0b, ↓cA_11b, ↓cA_12b, ↓cg_1_4b, ↓cg_1_5b, ↓cg_1_6b, ↓cg_1_7b, ↓cg_14_0b, ↓cg_14_1b, ↓cg_14_2b, ↓cg_14_3b, ↓cg_14_4b, ↓cg_14_5b, ↓cg_14_6b, ↓cg_14_7b, ↓cg_14_8b, ↓cg_14_9b, ↓cg_14_10b, ↓cg_14_11b, ↓cg_14_12b, ↓cg_14_13b, ↓cg_17_1b, ↓cg_19_1b, ↓cg_21_1b, ↓ca_3b, ↓ca_4b, ↓ca_5b, ↓ca_6b, ↓ca_9b, ↓ca_15b, ↓ca_16b, ↓ca_18b, ↓ca_20b, ↓ca_22b, ↓ca_13b, ↓ca_7b, ↓ca_8b, ↓cp_1_4b, ↓cp_1_6b, ↓cp_1_7b, ↓cp_14_0b, ↓cp_14_2b, ↓cp_14_4b, ↓cp_14_5b, ↓cp_14_6b, ↓cp_14_7b, ↓cp_14_8b, ↓cp_14_9b, ↓cp_14_10b, ↓cp_14_11b, ↓cp_14_12b, ↓cp_14_13b, ↓cp_17_1b, ↓cp_19_1b, ↓cp_21_1b, ↓cu_4b, ↓cu_15b, ↓cn_15b, ↓cm_15b, ↓cu_16b, ↓cn_16b, ↓cm_16b, ↓cu_18b, ↓cu_20b, ↓cu_22b, ↓cu_9b, ↓cl_15b, ↓cl_16b, ↓cl_18b, ↓cl_20b, ↓cl_22b, ↓Option.bind_some, cO_1, cO_2, cO_14, cO_17, cO_19, cO_21, cR_1_0, cR_1_1, cR_1_2, cR_1_3, cR_2_0, cR_2_1, cR_2_2, cR_2_3, cR_2_4, cR_2_5, cR_2_6, cR_2_7, cR_14_14, cR_14_15, cR_14_16, cR_14_17, cR_17_0, cR_19_0, cR_21_0, cA_11, cA_12, cg_1_4, cg_1_5, cg_1_6, cg_1_7, cg_14_0, cg_14_1, cg_14_2, cg_14_3, cg_14_4, cg_14_5, cg_14_6, cg_14_7, cg_14_8, cg_14_9, cg_14_10, cg_14_11, cg_14_12, cg_14_13, cg_17_1, cg_19_1, cg_21_1, ca_3, ca_4, ca_5, ca_6, ca_9, ca_15, ca_16, ca_18, ca_20, ca_22, ca_13, ca_7, ca_8, cp_1_4, cp_1_6, cp_1_7, cp_14_0, cp_14_2, cp_14_4, cp_14_5, cp_14_6, cp_14_7, cp_14_8, cp_14_9, cp_14_10, cp_14_11, cp_14_12, cp_14_13, cp_17_1, cp_19_1, cp_21_1, cu_4, cu_15, cn_15, cm_15, cu_16, cn_16, cm_16, cu_18, cu_20, cu_22, cu_9, cl_15, cl_16, cl_18, cl_20, cl_22, Option.bind_some, kl_0, kl_1, kl_2, kl_3, kl_4, kl_5, kl_6, kl_7, kl_8, kl_10, kl_13, kl_14, kl_15, kl_16, kl_24, kl_25, kl_26, kl_31, kl_32, kl_36, kl_40, kl_62, kl_99, kl_100, kl_255, kl_400, kl_992, kl_1023, kl_1024, kl_1984, kl_9200, kl_4600, kl_48, kl_57, kl_97, kl_122, kl_32767, nI_add, pk_mul, e22, pk_sub]
theorem D_getE {b : Nat} {t : xS} {Y : xMem} {c k : Nat} (hW : XW Y) (hb : b < 3) (hi : c < 4) (h2 : t.1 24 c ≤ 24) (hk : k < 24) : fP_get (cM b t Y) (19, b, c) (nI k) = some (if k < t.1 24 c then nI (t.1 25 (24 * c + k)) else m1, cM b t Y) := by
  unfold fP_get
  simp (disch := first | assumption | omega | decide | with_unfolding_all exact hW) only [↓km1, ↓cO_1b, ↓cO_2b, ↓cO_14b, ↓cO_17b, ↓cO_19b, ↓cO_21b, ↓cR_1_0b, ↓cR_1_1b, ↓cR_1_2b, ↓cR_1_3b, ↓cR_2_0b, ↓cR_2_1b, ↓cR_2_2b, ↓cR_2_3b, ↓cR_2_4b, ↓cR_2_5b, ↓cR_2_6b, ↓cR_2_7b, ↓cR_14_14b, ↓cR_14_15b, ↓cR_14_16b, ↓cR_14_17b, ↓cR_17_0b, ↓cR_19_0b, ↓cR_21_0b, ↓cA_11b, ↓cA_12b, ↓cg_1_4b, ↓cg_1_5b, ↓cg_1_6b, ↓cg_1_7b, ↓cg_14_0b, ↓cg_14_1b, ↓cg_14_2b, ↓cg_14_3b, ↓cg_14_4b, ↓cg_14_5b, ↓cg_14_6b, ↓cg_14_7b, ↓cg_14_8b, ↓cg_14_9b, ↓cg_14_10b, ↓cg_14_11b, ↓cg_14_12b, ↓cg_14_13b, ↓cg_17_1b, ↓cg_19_1b, ↓cg_21_1b, ↓ca_3b, ↓ca_4b, ↓ca_5b, ↓ca_6b, ↓ca_9b, ↓ca_15b, ↓ca_16b, ↓ca_18b, ↓ca_20b, ↓ca_22b, ↓ca_13b, ↓ca_7b, ↓ca_8b, ↓cp_1_4b, ↓cp_1_6b, ↓cp_1_7b, ↓cp_14_0b, ↓cp_14_2b, ↓cp_14_4b, ↓cp_14_5b, ↓cp_14_6b, ↓cp_14_7b, ↓cp_14_8b, ↓cp_14_9b, ↓cp_14_10b, ↓cp_14_11b, ↓cp_14_12b, ↓cp_14_13b, ↓cp_17_1b, ↓cp_19_1b, ↓cp_21_1b, ↓cu_4b, ↓cu_15b, ↓cn_15b, ↓cm_15b, ↓cu_16b, ↓cn_16b, ↓cm_16b, ↓cu_18b, ↓cu_20b, ↓cu_22b, ↓cu_9b, ↓cl_15b, ↓cl_16b, ↓cl_18b, ↓cl_20b, ↓cl_22b, ↓Option.bind_some, cO_1, cO_2, cO_14, cO_17, cO_19, cO_21, cR_1_0, cR_1_1, cR_1_2, cR_1_3, cR_2_0, cR_2_1, cR_2_2, cR_2_3, cR_2_4, cR_2_5, cR_2_6, cR_2_7, cR_14_14, cR_14_15, cR_14_16, cR_14_17, cR_17_0, cR_19_0, cR_21_0, cA_11, cA_12, cg_1_4, cg_1_5, cg_1_6, cg_1_7, cg_14_0, cg_14_1, cg_14_2, cg_14_3, cg_14_4, cg_14_5, cg_14_6, cg_14_7, cg_14_8, cg_14_9, cg_14_10, cg_14_11, cg_14_12, cg_14_13, cg_17_1, cg_19_1, cg_21_1, ca_3, ca_4, ca_5, ca_6, ca_9, ca_15, ca_16, ca_18, ca_20, ca_22, ca_13, ca_7, ca_8, cp_1_4, cp_1_6, cp_1_7, cp_14_0, cp_14_2, cp_14_4, cp_14_5, cp_14_6, cp_14_7, cp_14_8, cp_14_9, cp_14_10, cp_14_11, cp_14_12, cp_14_13, cp_17_1, cp_19_1, cp_21_1, cu_4, cu_15, cn_15, cm_15, cu_16, cn_16, cm_16, cu_18, cu_20, cu_22, cu_9, cl_15, cl_16, cl_18, cl_20, cl_22, Option.bind_some, kl_0, kl_1, kl_2, kl_3, kl_4, kl_5, kl_6, kl_7, kl_8, kl_10, kl_13, kl_14, kl_15, kl_16, kl_24, kl_25, kl_26, kl_31, kl_32, kl_36, kl_40, kl_62, kl_99, kl_100, kl_255, kl_400, kl_992, kl_1023, kl_1024, kl_1984, kl_9200, kl_4600, kl_48, kl_57, kl_97, kl_122, kl_32767, nI_add, pk_mul, ↓km1, nI_m1, en_m1, m1_lt0, m1_eq, m1_0, nI_00, nI_10, nI_0le, nI_n0, nI_leI, Nat.not_lt_zero, if_true, if_false, not_true, not_false_iff, and_true, true_and, and_false, false_and, Bool.false_eq_true, reduceCtorEq]
  by_cases h : k < t.1 24 c
  · rw [if_neg (by omega), if_pos h]
  · rw [if_pos (by omega), if_neg h]
theorem D_dropE {b : Nat} {t : xS} {Y : xMem} {c N : Nat} (hW : XW Y) (hb : b < 3) (hi : c < 4) (h2 : t.1 24 c ≤ 24) (hN : N ≤ t.1 24 c) : fP_dropFirst (cM b t Y) (19, b, c) (nI N) = some (cM b (sA (sShE t c N (t.1 24 c - N) N) 24 c (t.1 24 c - N)) Y) := by
  have h0 : ¬ t.1 24 c < N := by omega
  have e2 : (if 0 < N then nI N else nI 0) = nI N := by
    by_cases h : 0 < N
    · rw [if_pos h]
    · have : N = 0 := by omega
      rw [if_neg h, this]
  have hcp := xcpy_w (M := cM b t Y) (a := (20, b, c)) (d := (20, b, c)) (n := t.1 24 c - N) (dp := 0) (sp := N) hW (sh_20 hb hi) (sh_20 hb hi) (by omega) (by omega) (by decide) (by decide)
  have hT : ∀ k, k < 24 → cT 20 c k = some (25, 24 * c + k, 0) := fun k hk => if_pos ⟨hi, hk⟩
  have hrow : xsri (cM b t Y) (20, b, c) (va_cpy ((cM b t Y).1 (20, b, c)) ((cM b t Y).1 (20, b, c)) N 0 (t.1 24 c - N)) = cM b (sShE t c N (t.1 24 c - N) N) Y := by
    have hS := fun q i => @sShE_1 c N (t.1 24 c - N) N t q i (Nat.le_refl _)
    have hS2 : (sShE t c N (t.1 24 c - N) N).2 = t.2 := sShE_2
    generalize sShE t c N (t.1 24 c - N) N = u at hS hS2
    have hq : ∀ q, q ≠ 25 → u.1 q = t.1 q := fun q h => by funext i; rw [hS, if_neg (fun e => h e.1)]
    have eP : qPer u = qPer t := by funext x; unfold qPer; rw [hq 1 (by decide)]
    have ePs : qPers u = qPers t := by funext x; unfold qPers; rw [hq 13 (by decide), eP]
    have eSz : qSz u = qSz t := by funext x; unfold qSz; rw [hq 13 (by decide), hq 1 (by decide), hq 26 (by decide)]
    have eB : fB u = fB t := by funext a p k; unfold fB; rw [ePs, hq 17 (by decide)]
    have eM : qMade u = qMade t := by unfold qMade; rw [hq 18 (by decide)]
    refine cM_row (fun k v h => ?_) (fun k h => ?_) (fun κ' i' k hne => ?_) (fun κ' i' k => ?_)
    · have hk : k < 24 := by
        rcases Nat.lt_or_ge k 24 with h5 | h5
        · exact h5
        · have : cI u 20 c k = none := by
            rw [cI_D (show cT 20 c k = none from if_neg (by omega))]; rfl
          rw [this] at h; cases h
      rw [cI_T (hT k hk), hS] at h
      have h := Option.some.inj h
      rw [← h]
      unfold va_cpy
      by_cases h6 : k < t.1 24 c - N
      · rw [if_pos (by omega), if_pos ⟨rfl, by omega, by omega⟩, cM_rT (hT (N + (k - 0)) (by omega)), show 24 * c + (N + (k - 0)) = 24 * c + k + N from by omega]
      · rw [if_neg (by omega), if_neg (by omega), cM_rT (hT k hk)]
    · have hk : ¬ k < 24 := fun hk => by rw [cI_T (hT k hk)] at h; cases h
      unfold va_cpy
      rw [if_neg (by omega)]
      refine cM_o (Or.inr ?_)
      rw [cI_D (show cT 20 c k = none from if_neg (by omega))]; rfl
    · refine cI_agree (fun q j e h => ?_) (fun _ => ?_)
      · rw [hS, if_neg]
        rintro ⟨rfl, h5, h6⟩
        have h7 := cT_V h
        have h8 := cT_V (hT (j - 24 * c) (by omega))
        rw [show 24 * c + (j - 24 * c) = j from by omega, h7] at h8
        simp only [Prod.mk.injEq] at h8
        exact hne ⟨h8.1, h8.2.1⟩
      · unfold cD; rw [eM, eSz, ePs, eP, hS2]
    · unfold cL; rw [eB, hS2]
  have e22 : (sShE t c N (t.1 24 c - N) N).1 24 c = t.1 24 c := by rw [sShE_1 (Nat.le_refl _), if_neg (by simp)]
  unfold fP_dropFirst
  simp (disch := first | assumption | omega | decide | with_unfolding_all exact hW) only [↓km1, ↓cO_1b, ↓cO_2b, ↓cO_14b, ↓cO_17b, ↓cO_19b, ↓cO_21b, ↓cR_1_0b, ↓cR_1_1b, ↓cR_1_2b, ↓cR_1_3b, ↓cR_2_0b, ↓cR_2_1b, ↓cR_2_2b, ↓cR_2_3b, ↓cR_2_4b, ↓cR_2_5b, ↓cR_2_6b, ↓cR_2_7b, ↓cR_14_14b, ↓cR_14_15b, ↓cR_14_16b, ↓cR_14_17b, ↓cR_17_0b, ↓cR_19_0b, ↓cR_21_0b, ↓cA_11b, ↓cA_12b, ↓cg_1_4b, ↓cg_1_5b, ↓cg_1_6b, ↓cg_1_7b, ↓cg_14_0b, ↓cg_14_1b, ↓cg_14_2b, ↓cg_14_3b, ↓cg_14_4b, ↓cg_14_5b, ↓cg_14_6b, ↓cg_14_7b, ↓cg_14_8b, ↓cg_14_9b, ↓cg_14_10b, ↓cg_14_11b, ↓cg_14_12b, ↓cg_14_13b, ↓cg_17_1b, ↓cg_19_1b, ↓cg_21_1b, ↓ca_3b, ↓ca_4b, ↓ca_5b, ↓ca_6b, ↓ca_9b, ↓ca_15b, ↓ca_16b, ↓ca_18b, ↓ca_20b, ↓ca_22b, ↓ca_13b, ↓ca_7b, ↓ca_8b, ↓cp_1_4b, ↓cp_1_6b, ↓cp_1_7b, ↓cp_14_0b, ↓cp_14_2b, ↓cp_14_4b, ↓cp_14_5b, ↓cp_14_6b, ↓cp_14_7b, ↓cp_14_8b, ↓cp_14_9b, ↓cp_14_10b, ↓cp_14_11b, ↓cp_14_12b, ↓cp_14_13b, ↓cp_17_1b, ↓cp_19_1b, ↓cp_21_1b, ↓cu_4b, ↓cu_15b, ↓cn_15b, ↓cm_15b, ↓cu_16b, ↓cn_16b, ↓cm_16b, ↓cu_18b, ↓cu_20b, ↓cu_22b, ↓cu_9b, ↓cl_15b, ↓cl_16b, ↓cl_18b, ↓cl_20b, ↓cl_22b, ↓Option.bind_some, cO_1, cO_2, cO_14, cO_17, cO_19, cO_21, cR_1_0, cR_1_1, cR_1_2, cR_1_3, cR_2_0, cR_2_1, cR_2_2, cR_2_3, cR_2_4, cR_2_5, cR_2_6, cR_2_7, cR_14_14, cR_14_15, cR_14_16, cR_14_17, cR_17_0, cR_19_0, cR_21_0, cA_11, cA_12, cg_1_4, cg_1_5, cg_1_6, cg_1_7, cg_14_0, cg_14_1, cg_14_2, cg_14_3, cg_14_4, cg_14_5, cg_14_6, cg_14_7, cg_14_8, cg_14_9, cg_14_10, cg_14_11, cg_14_12, cg_14_13, cg_17_1, cg_19_1, cg_21_1, ca_3, ca_4, ca_5, ca_6, ca_9, ca_15, ca_16, ca_18, ca_20, ca_22, ca_13, ca_7, ca_8, cp_1_4, cp_1_6, cp_1_7, cp_14_0, cp_14_2, cp_14_4, cp_14_5, cp_14_6, cp_14_7, cp_14_8, cp_14_9, cp_14_10, cp_14_11, cp_14_12, cp_14_13, cp_17_1, cp_19_1, cp_21_1, cu_4, cu_15, cn_15, cm_15, cu_16, cn_16, cm_16, cu_18, cu_20, cu_22, cu_9, cl_15, cl_16, cl_18, cl_20, cl_22, Option.bind_some, kl_0, kl_1, kl_2, kl_3, kl_4, kl_5, kl_6, kl_7, kl_8, kl_10, kl_13, kl_14, kl_15, kl_16, kl_24, kl_25, kl_26, kl_31, kl_32, kl_36, kl_40, kl_62, kl_99, kl_100, kl_255, kl_400, kl_992, kl_1023, kl_1024, kl_1984, kl_9200, kl_4600, kl_48, kl_57, kl_97, kl_122, kl_32767, nI_add, pk_mul, nI_ltI, h0, if_false, e2, pk_sub]
  rw [hcp, Option.bind_some, hrow]
  simp (disch := first | assumption | omega | decide | with_unfolding_all exact hW) only [↓km1, ↓cO_1b, ↓cO_2b, ↓cO_14b, ↓cO_17b, ↓cO_19b, ↓cO_21b, ↓cR_1_0b, ↓cR_1_1b, ↓cR_1_2b, ↓cR_1_3b, ↓cR_2_0b, ↓cR_2_1b, ↓cR_2_2b, ↓cR_2_3b, ↓cR_2_4b, ↓cR_2_5b, ↓cR_2_6b, ↓cR_2_7b, ↓cR_14_14b, ↓cR_14_15b, ↓cR_14_16b, ↓cR_14_17b, ↓cR_17_0b, ↓cR_19_0b, ↓cR_21_0b, ↓cA_11b, ↓cA_12b, ↓cg_1_4b, ↓cg_1_5b, ↓cg_1_6b, ↓cg_1_7b, ↓cg_14_0b, ↓cg_14_1b, ↓cg_14_2b, ↓cg_14_3b, ↓cg_14_4b, ↓cg_14_5b, ↓cg_14_6b, ↓cg_14_7b, ↓cg_14_8b, ↓cg_14_9b, ↓cg_14_10b, ↓cg_14_11b, ↓cg_14_12b, ↓cg_14_13b, ↓cg_17_1b, ↓cg_19_1b, ↓cg_21_1b, ↓ca_3b, ↓ca_4b, ↓ca_5b, ↓ca_6b, ↓ca_9b, ↓ca_15b, ↓ca_16b, ↓ca_18b, ↓ca_20b, ↓ca_22b, ↓ca_13b, ↓ca_7b, ↓ca_8b, ↓cp_1_4b, ↓cp_1_6b, ↓cp_1_7b, ↓cp_14_0b, ↓cp_14_2b, ↓cp_14_4b, ↓cp_14_5b, ↓cp_14_6b, ↓cp_14_7b, ↓cp_14_8b, ↓cp_14_9b, ↓cp_14_10b, ↓cp_14_11b, ↓cp_14_12b, ↓cp_14_13b, ↓cp_17_1b, ↓cp_19_1b, ↓cp_21_1b, ↓cu_4b, ↓cu_15b, ↓cn_15b, ↓cm_15b, ↓cu_16b, ↓cn_16b, ↓cm_16b, ↓cu_18b, ↓cu_20b, ↓cu_22b, ↓cu_9b, ↓cl_15b, ↓cl_16b, ↓cl_18b, ↓cl_20b, ↓cl_22b, ↓Option.bind_some, cO_1, cO_2, cO_14, cO_17, cO_19, cO_21, cR_1_0, cR_1_1, cR_1_2, cR_1_3, cR_2_0, cR_2_1, cR_2_2, cR_2_3, cR_2_4, cR_2_5, cR_2_6, cR_2_7, cR_14_14, cR_14_15, cR_14_16, cR_14_17, cR_17_0, cR_19_0, cR_21_0, cA_11, cA_12, cg_1_4, cg_1_5, cg_1_6, cg_1_7, cg_14_0, cg_14_1, cg_14_2, cg_14_3, cg_14_4, cg_14_5, cg_14_6, cg_14_7, cg_14_8, cg_14_9, cg_14_10, cg_14_11, cg_14_12, cg_14_13, cg_17_1, cg_19_1, cg_21_1, ca_3, ca_4, ca_5, ca_6, ca_9, ca_15, ca_16, ca_18, ca_20, ca_22, ca_13, ca_7, ca_8, cp_1_4, cp_1_6, cp_1_7, cp_14_0, cp_14_2, cp_14_4, cp_14_5, cp_14_6, cp_14_7, cp_14_8, cp_14_9, cp_14_10, cp_14_11, cp_14_12, cp_14_13, cp_17_1, cp_19_1, cp_21_1, cu_4, cu_15, cn_15, cm_15, cu_16, cn_16, cm_16, cu_18, cu_20, cu_22, cu_9, cl_15, cl_16, cl_18, cl_20, cl_22, Option.bind_some, kl_0, kl_1, kl_2, kl_3, kl_4, kl_5, kl_6, kl_7, kl_8, kl_10, kl_13, kl_14, kl_15, kl_16, kl_24, kl_25, kl_26, kl_31, kl_32, kl_36, kl_40, kl_62, kl_99, kl_100, kl_255, kl_400, kl_992, kl_1023, kl_1024, kl_1984, kl_9200, kl_4600, kl_48, kl_57, kl_97, kl_122, kl_32767, nI_add, pk_mul, e22, pk_sub]
theorem D_getM {b : Nat} {t : xS} {Y : xMem} {m k : Nat} (hW : XW Y) (hb : b < 3) (hi : m < 24) (h2 : t.1 20 m ≤ 8) (hk : k < t.1 20 m) : fP_get (cM b t Y) (21, b, m) (nI k) = some (nI (t.1 21 (8 * m + k)), cM b t Y) := by
  have h0 : ¬ t.1 20 m ≤ k := by omega
  unfold fP_get
  simp (disch := first | assumption | omega | decide | with_unfolding_all exact hW) only [↓km1, ↓cO_1b, ↓cO_2b, ↓cO_14b, ↓cO_17b, ↓cO_19b, ↓cO_21b, ↓cR_1_0b, ↓cR_1_1b, ↓cR_1_2b, ↓cR_1_3b, ↓cR_2_0b, ↓cR_2_1b, ↓cR_2_2b, ↓cR_2_3b, ↓cR_2_4b, ↓cR_2_5b, ↓cR_2_6b, ↓cR_2_7b, ↓cR_14_14b, ↓cR_14_15b, ↓cR_14_16b, ↓cR_14_17b, ↓cR_17_0b, ↓cR_19_0b, ↓cR_21_0b, ↓cA_11b, ↓cA_12b, ↓cg_1_4b, ↓cg_1_5b, ↓cg_1_6b, ↓cg_1_7b, ↓cg_14_0b, ↓cg_14_1b, ↓cg_14_2b, ↓cg_14_3b, ↓cg_14_4b, ↓cg_14_5b, ↓cg_14_6b, ↓cg_14_7b, ↓cg_14_8b, ↓cg_14_9b, ↓cg_14_10b, ↓cg_14_11b, ↓cg_14_12b, ↓cg_14_13b, ↓cg_17_1b, ↓cg_19_1b, ↓cg_21_1b, ↓ca_3b, ↓ca_4b, ↓ca_5b, ↓ca_6b, ↓ca_9b, ↓ca_15b, ↓ca_16b, ↓ca_18b, ↓ca_20b, ↓ca_22b, ↓ca_13b, ↓ca_7b, ↓ca_8b, ↓cp_1_4b, ↓cp_1_6b, ↓cp_1_7b, ↓cp_14_0b, ↓cp_14_2b, ↓cp_14_4b, ↓cp_14_5b, ↓cp_14_6b, ↓cp_14_7b, ↓cp_14_8b, ↓cp_14_9b, ↓cp_14_10b, ↓cp_14_11b, ↓cp_14_12b, ↓cp_14_13b, ↓cp_17_1b, ↓cp_19_1b, ↓cp_21_1b, ↓cu_4b, ↓cu_15b, ↓cn_15b, ↓cm_15b, ↓cu_16b, ↓cn_16b, ↓cm_16b, ↓cu_18b, ↓cu_20b, ↓cu_22b, ↓cu_9b, ↓cl_15b, ↓cl_16b, ↓cl_18b, ↓cl_20b, ↓cl_22b, ↓Option.bind_some, cO_1, cO_2, cO_14, cO_17, cO_19, cO_21, cR_1_0, cR_1_1, cR_1_2, cR_1_3, cR_2_0, cR_2_1, cR_2_2, cR_2_3, cR_2_4, cR_2_5, cR_2_6, cR_2_7, cR_14_14, cR_14_15, cR_14_16, cR_14_17, cR_17_0, cR_19_0, cR_21_0, cA_11, cA_12, cg_1_4, cg_1_5, cg_1_6, cg_1_7, cg_14_0, cg_14_1, cg_14_2, cg_14_3, cg_14_4, cg_14_5, cg_14_6, cg_14_7, cg_14_8, cg_14_9, cg_14_10, cg_14_11, cg_14_12, cg_14_13, cg_17_1, cg_19_1, cg_21_1, ca_3, ca_4, ca_5, ca_6, ca_9, ca_15, ca_16, ca_18, ca_20, ca_22, ca_13, ca_7, ca_8, cp_1_4, cp_1_6, cp_1_7, cp_14_0, cp_14_2, cp_14_4, cp_14_5, cp_14_6, cp_14_7, cp_14_8, cp_14_9, cp_14_10, cp_14_11, cp_14_12, cp_14_13, cp_17_1, cp_19_1, cp_21_1, cu_4, cu_15, cn_15, cm_15, cu_16, cn_16, cm_16, cu_18, cu_20, cu_22, cu_9, cl_15, cl_16, cl_18, cl_20, cl_22, Option.bind_some, kl_0, kl_1, kl_2, kl_3, kl_4, kl_5, kl_6, kl_7, kl_8, kl_10, kl_13, kl_14, kl_15, kl_16, kl_24, kl_25, kl_26, kl_31, kl_32, kl_36, kl_40, kl_62, kl_99, kl_100, kl_255, kl_400, kl_992, kl_1023, kl_1024, kl_1984, kl_9200, kl_4600, kl_48, kl_57, kl_97, kl_122, kl_32767, nI_add, pk_mul, ↓km1, nI_m1, en_m1, m1_lt0, m1_eq, m1_0, nI_00, nI_10, nI_0le, nI_n0, nI_leI, h0, Nat.not_lt_zero, if_true, if_false, not_true, not_false_iff, and_true, true_and, and_false, false_and, Bool.false_eq_true, reduceCtorEq]
/-- of a magazine that is unmade for a cache -/
def UM (t : xS) (c m : Nat) : Prop := m < 24 → t.1 18 m = 1 ∧ t.1 20 m ≤ 8 ∧ ∀ k, k < t.1 20 m → t.1 21 (8 * m + k) < 1984 ∧ t.1 13 (t.1 21 (8 * m + k) / 62) = c ∧ t.1 21 (8 * m + k) % 62 < qPers t (t.1 21 (8 * m + k) / 62)
theorem qPers_d {s t : xS} (h1 : t.1 1 = s.1 1) (h13 : t.1 13 = s.1 13) : qPers t = qPers s := by
  funext p; unfold qPers; rw [h13, qPer_d h1]
theorem UM_emp {t : xS} {c m m' : Nat} (h : UM t c m) (hne : m < 24 → m ≠ m') : UM (sEmp t m') c m := fun hm => by
  have h1 := h hm
  have hn := hne hm
  have e : ∀ q, q ≠ 17 → q ≠ 12 → q ≠ 20 → q ≠ 18 → (sEmp t m').1 q = t.1 q := fun q a1 a2 a3 a4 => sEmp_1 a1 a2 a3 a4
  rw [sEmp_18, sEmp_20, if_neg (fun e => hn e.1), if_neg (fun e => hn e.1), e 21 (by decide) (by decide) (by decide) (by decide), e 13 (by decide) (by decide) (by decide) (by decide), qPers_d (e 1 (by decide) (by decide) (by decide) (by decide)) (e 13 (by decide) (by decide) (by decide) (by decide))]
  exact h1
theorem UM_c {t u : xS} {c m : Nat} (h : UM t c m) (hq : ∀ q, q = 18 ∨ q = 20 ∨ q = 21 ∨ q = 13 ∨ q = 1 → u.1 q = t.1 q) : UM u c m := fun hm => by
  rw [hq 18 (by simp), hq 20 (by simp), hq 21 (by simp), hq 13 (by simp), qPers_d (hq 1 (by simp)) (hq 13 (by simp))]
  exact h hm
/-- out of what holds at a place -/
theorem INV.um {s : xS} (h : IQ s) {P : Nat × Nat × Nat} : UM s P.2.1 (ref s P) := fun hm => by
  obtain ⟨pl, hpl⟩ := h.2
  have h1 := hpl P id hm
  have h2 := h.1.1.m hm
  refine ⟨h1.2.1, h2.1, fun k hk => ⟨(h2.2 k hk).1, h1.2.2.1 k hk, ?_⟩⟩
  have h3 := (h.1.2.2.1 _ hm).2.2 k hk
  have h4 := (h.1.2.1 _ (h2.2 k hk).1).2 (by rw [h3]; decide)
  unfold qPers
  rw [if_pos h4.1]; exact h4.2
theorem D_unmade {b : Nat} {u : xS} {Y : xMem} {m : Nat} (hm : m < 24) (h1 : u.1 18 m = 1) : xsi (xsi (cM b u Y) (13, b, 0) m (nI 0)) (1, b, 0) 5 (nI (qMade u) - nI 1) = cM b (sA u 18 m 0) Y := by
  have e := qMade_u (t := u) (m := m) (v := 0) hm
  rw [h1, Nat.add_zero] at e
  have e2 : nI (qMade u) - nI 1 = nI (qMade (sA u 18 m 0)) := by
    rw [pk_sub (by omega), show qMade u - 1 = qMade (sA u 18 m 0) from by omega]
  rw [e2, cM_18 hm]
theorem D_unmake {b : Nat} {t : xS} {Y : xMem} {c m : Nat} (hW : XW Y) (hb : b < 3) (hi : c < 4) (hk : t.1 0 c < 2 ^ 31) (hU : UM t c m) : fD_unmake (cM b t Y) (1, b, 0) (some (14, b, c)) (en 24 m1 m) = some (cM b (sEmp t m) Y) := by
  unfold fD_unmake
  simp (disch := first | assumption | omega | decide | with_unfolding_all exact hW) only [↓km1, ↓cO_1b, ↓cO_2b, ↓cO_14b, ↓cO_17b, ↓cO_19b, ↓cO_21b, ↓cR_1_0b, ↓cR_1_1b, ↓cR_1_2b, ↓cR_1_3b, ↓cR_2_0b, ↓cR_2_1b, ↓cR_2_2b, ↓cR_2_3b, ↓cR_2_4b, ↓cR_2_5b, ↓cR_2_6b, ↓cR_2_7b, ↓cR_14_14b, ↓cR_14_15b, ↓cR_14_16b, ↓cR_14_17b, ↓cR_17_0b, ↓cR_19_0b, ↓cR_21_0b, ↓cA_11b, ↓cA_12b, ↓cg_1_4b, ↓cg_1_5b, ↓cg_1_6b, ↓cg_1_7b, ↓cg_14_0b, ↓cg_14_1b, ↓cg_14_2b, ↓cg_14_3b, ↓cg_14_4b, ↓cg_14_5b, ↓cg_14_6b, ↓cg_14_7b, ↓cg_14_8b, ↓cg_14_9b, ↓cg_14_10b, ↓cg_14_11b, ↓cg_14_12b, ↓cg_14_13b, ↓cg_17_1b, ↓cg_19_1b, ↓cg_21_1b, ↓ca_3b, ↓ca_4b, ↓ca_5b, ↓ca_6b, ↓ca_9b, ↓ca_15b, ↓ca_16b, ↓ca_18b, ↓ca_20b, ↓ca_22b, ↓ca_13b, ↓ca_7b, ↓ca_8b, ↓cp_1_4b, ↓cp_1_6b, ↓cp_1_7b, ↓cp_14_0b, ↓cp_14_2b, ↓cp_14_4b, ↓cp_14_5b, ↓cp_14_6b, ↓cp_14_7b, ↓cp_14_8b, ↓cp_14_9b, ↓cp_14_10b, ↓cp_14_11b, ↓cp_14_12b, ↓cp_14_13b, ↓cp_17_1b, ↓cp_19_1b, ↓cp_21_1b, ↓cu_4b, ↓cu_15b, ↓cn_15b, ↓cm_15b, ↓cu_16b, ↓cn_16b, ↓cm_16b, ↓cu_18b, ↓cu_20b, ↓cu_22b, ↓cu_9b, ↓cl_15b, ↓cl_16b, ↓cl_18b, ↓cl_20b, ↓cl_22b, ↓Option.bind_some, cO_1, cO_2, cO_14, cO_17, cO_19, cO_21, cR_1_0, cR_1_1, cR_1_2, cR_1_3, cR_2_0, cR_2_1, cR_2_2, cR_2_3, cR_2_4, cR_2_5, cR_2_6, cR_2_7, cR_14_14, cR_14_15, cR_14_16, cR_14_17, cR_17_0, cR_19_0, cR_21_0, cA_11, cA_12, cg_1_4, cg_1_5, cg_1_6, cg_1_7, cg_14_0, cg_14_1, cg_14_2, cg_14_3, cg_14_4, cg_14_5, cg_14_6, cg_14_7, cg_14_8, cg_14_9, cg_14_10, cg_14_11, cg_14_12, cg_14_13, cg_17_1, cg_19_1, cg_21_1, ca_3, ca_4, ca_5, ca_6, ca_9, ca_15, ca_16, ca_18, ca_20, ca_22, ca_13, ca_7, ca_8, cp_1_4, cp_1_6, cp_1_7, cp_14_0, cp_14_2, cp_14_4, cp_14_5, cp_14_6, cp_14_7, cp_14_8, cp_14_9, cp_14_10, cp_14_11, cp_14_12, cp_14_13, cp_17_1, cp_19_1, cp_21_1, cu_4, cu_15, cn_15, cm_15, cu_16, cn_16, cm_16, cu_18, cu_20, cu_22, cu_9, cl_15, cl_16, cl_18, cl_20, cl_22, Option.bind_some, kl_0, kl_1, kl_2, kl_3, kl_4, kl_5, kl_6, kl_7, kl_8, kl_10, kl_13, kl_14, kl_15, kl_16, kl_24, kl_25, kl_26, kl_31, kl_32, kl_36, kl_40, kl_62, kl_99, kl_100, kl_255, kl_400, kl_992, kl_1023, kl_1024, kl_1984, kl_9200, kl_4600, kl_48, kl_57, kl_97, kl_122, kl_32767, nI_add, pk_mul]
  rw [D_magAt hW hb (fun h => (hU h).1), Option.bind_some]
  by_cases h : m < 24
  · obtain ⟨h18, h8, hrow⟩ := hU h
    have key : ∀ e i n u, i + e = t.1 20 m → e < n → (∀ q, q ≠ 17 → q ≠ 12 → u.1 q = t.1 q) → fD_unmake_14 n (cM b u Y) (some (1, b, 0)) (some (14, b, c)) (nI m) (some (21, b, m)) (nI i) = some (cM b (sA (sA (sEmL u m e i) 20 m 0) 18 m 0) Y) := by
      intro e
      induction e with
      | zero =>
        intro i n u hie hn hu
        obtain ⟨n, rfl⟩ : ∃ m, n = m + 1 := ⟨n - 1, by omega⟩
        have e20 := congrFun (hu 20 (by decide) (by decide)) m
        have h5 : t.1 20 m ≤ i := by omega
        have hcl : fP_clear (cM b u Y) (21, b, m) = some (cM b (sA u 20 m 0) Y) := by
          unfold fP_clear
          simp (disch := first | assumption | omega | decide | with_unfolding_all exact hW) only [↓km1, ↓cO_1b, ↓cO_2b, ↓cO_14b, ↓cO_17b, ↓cO_19b, ↓cO_21b, ↓cR_1_0b, ↓cR_1_1b, ↓cR_1_2b, ↓cR_1_3b, ↓cR_2_0b, ↓cR_2_1b, ↓cR_2_2b, ↓cR_2_3b, ↓cR_2_4b, ↓cR_2_5b, ↓cR_2_6b, ↓cR_2_7b, ↓cR_14_14b, ↓cR_14_15b, ↓cR_14_16b, ↓cR_14_17b, ↓cR_17_0b, ↓cR_19_0b, ↓cR_21_0b, ↓cA_11b, ↓cA_12b, ↓cg_1_4b, ↓cg_1_5b, ↓cg_1_6b, ↓cg_1_7b, ↓cg_14_0b, ↓cg_14_1b, ↓cg_14_2b, ↓cg_14_3b, ↓cg_14_4b, ↓cg_14_5b, ↓cg_14_6b, ↓cg_14_7b, ↓cg_14_8b, ↓cg_14_9b, ↓cg_14_10b, ↓cg_14_11b, ↓cg_14_12b, ↓cg_14_13b, ↓cg_17_1b, ↓cg_19_1b, ↓cg_21_1b, ↓ca_3b, ↓ca_4b, ↓ca_5b, ↓ca_6b, ↓ca_9b, ↓ca_15b, ↓ca_16b, ↓ca_18b, ↓ca_20b, ↓ca_22b, ↓ca_13b, ↓ca_7b, ↓ca_8b, ↓cp_1_4b, ↓cp_1_6b, ↓cp_1_7b, ↓cp_14_0b, ↓cp_14_2b, ↓cp_14_4b, ↓cp_14_5b, ↓cp_14_6b, ↓cp_14_7b, ↓cp_14_8b, ↓cp_14_9b, ↓cp_14_10b, ↓cp_14_11b, ↓cp_14_12b, ↓cp_14_13b, ↓cp_17_1b, ↓cp_19_1b, ↓cp_21_1b, ↓cu_4b, ↓cu_15b, ↓cn_15b, ↓cm_15b, ↓cu_16b, ↓cn_16b, ↓cm_16b, ↓cu_18b, ↓cu_20b, ↓cu_22b, ↓cu_9b, ↓cl_15b, ↓cl_16b, ↓cl_18b, ↓cl_20b, ↓cl_22b, ↓Option.bind_some, cO_1, cO_2, cO_14, cO_17, cO_19, cO_21, cR_1_0, cR_1_1, cR_1_2, cR_1_3, cR_2_0, cR_2_1, cR_2_2, cR_2_3, cR_2_4, cR_2_5, cR_2_6, cR_2_7, cR_14_14, cR_14_15, cR_14_16, cR_14_17, cR_17_0, cR_19_0, cR_21_0, cA_11, cA_12, cg_1_4, cg_1_5, cg_1_6, cg_1_7, cg_14_0, cg_14_1, cg_14_2, cg_14_3, cg_14_4, cg_14_5, cg_14_6, cg_14_7, cg_14_8, cg_14_9, cg_14_10, cg_14_11, cg_14_12, cg_14_13, cg_17_1, cg_19_1, cg_21_1, ca_3, ca_4, ca_5, ca_6, ca_9, ca_15, ca_16, ca_18, ca_20, ca_22, ca_13, ca_7, ca_8, cp_1_4, cp_1_6, cp_1_7, cp_14_0, cp_14_2, cp_14_4, cp_14_5, cp_14_6, cp_14_7, cp_14_8, cp_14_9, cp_14_10, cp_14_11, cp_14_12, cp_14_13, cp_17_1, cp_19_1, cp_21_1, cu_4, cu_15, cn_15, cm_15, cu_16, cn_16, cm_16, cu_18, cu_20, cu_22, cu_9, cl_15, cl_16, cl_18, cl_20, cl_22, Option.bind_some, kl_0, kl_1, kl_2, kl_3, kl_4, kl_5, kl_6, kl_7, kl_8, kl_10, kl_13, kl_14, kl_15, kl_16, kl_24, kl_25, kl_26, kl_31, kl_32, kl_36, kl_40, kl_62, kl_99, kl_100, kl_255, kl_400, kl_992, kl_1023, kl_1024, kl_1984, kl_9200, kl_4600, kl_48, kl_57, kl_97, kl_122, kl_32767, nI_add, pk_mul]
        have hz : xuZ (cM b (sA u 20 m 0) Y) (some (13, b, 0)) (nI m) (nI 0) = some (xsi (cM b (sA u 20 m 0) Y) (13, b, 0) m (nI 0)) := by
          rw [xuZ_w (M := cM b (sA u 20 m 0) Y) hW (sh_13 hb) h (by decide), nar_0]
        have hW4 : XW (xsi (cM b (sA u 20 m 0) Y) (13, b, 0) m (nI 0)) := hW
        have r6 : xgI (xsi (cM b (sA u 20 m 0) Y) (13, b, 0) m (nI 0)) (some (1, b, 0)) 3 5 = some (nI (qMade (sA u 20 m 0))) := by
          rw [xgI_w hW4 (sh_1 hb), xsi_1, if_neg (by simp)]
          exact congrArg some (cM_rD rfl rfl)
        have r7 : ∀ v, xpI (xsi (cM b (sA u 20 m 0) Y) (13, b, 0) m (nI 0)) (some (1, b, 0)) 3 5 v = some (xsi (xsi (cM b (sA u 20 m 0) Y) (13, b, 0) m (nI 0)) (1, b, 0) 5 v) := fun v => xpI_w hW4 (sh_1 hb)
        have hU := D_unmade (b := b) (u := sA u 20 m 0) (Y := Y) h (by rw [sA_n (by decide), hu 18 (by decide) (by decide)]; exact h18)
        simp (disch := first | assumption | omega | decide | with_unfolding_all exact hW) only [fD_unmake_14, kl_0, kl_1, kl_2, kl_3, kl_4, kl_5, kl_6, kl_7, kl_8, kl_10, kl_13, kl_14, kl_15, kl_16, kl_24, kl_25, kl_26, kl_31, kl_32, kl_36, kl_40, kl_62, kl_99, kl_100, kl_255, kl_400, kl_992, kl_1023, kl_1024, kl_1984, kl_9200, kl_4600, kl_48, kl_57, kl_97, kl_122, kl_32767, nI_add, pk_mul]
        simp (disch := first | assumption | omega | decide | with_unfolding_all exact hW) only [↓km1, ↓cO_1b, ↓cO_2b, ↓cO_14b, ↓cO_17b, ↓cO_19b, ↓cO_21b, ↓cR_1_0b, ↓cR_1_1b, ↓cR_1_2b, ↓cR_1_3b, ↓cR_2_0b, ↓cR_2_1b, ↓cR_2_2b, ↓cR_2_3b, ↓cR_2_4b, ↓cR_2_5b, ↓cR_2_6b, ↓cR_2_7b, ↓cR_14_14b, ↓cR_14_15b, ↓cR_14_16b, ↓cR_14_17b, ↓cR_17_0b, ↓cR_19_0b, ↓cR_21_0b, ↓cA_11b, ↓cA_12b, ↓cg_1_4b, ↓cg_1_5b, ↓cg_1_6b, ↓cg_1_7b, ↓cg_14_0b, ↓cg_14_1b, ↓cg_14_2b, ↓cg_14_3b, ↓cg_14_4b, ↓cg_14_5b, ↓cg_14_6b, ↓cg_14_7b, ↓cg_14_8b, ↓cg_14_9b, ↓cg_14_10b, ↓cg_14_11b, ↓cg_14_12b, ↓cg_14_13b, ↓cg_17_1b, ↓cg_19_1b, ↓cg_21_1b, ↓ca_3b, ↓ca_4b, ↓ca_5b, ↓ca_6b, ↓ca_9b, ↓ca_15b, ↓ca_16b, ↓ca_18b, ↓ca_20b, ↓ca_22b, ↓ca_13b, ↓ca_7b, ↓ca_8b, ↓cp_1_4b, ↓cp_1_6b, ↓cp_1_7b, ↓cp_14_0b, ↓cp_14_2b, ↓cp_14_4b, ↓cp_14_5b, ↓cp_14_6b, ↓cp_14_7b, ↓cp_14_8b, ↓cp_14_9b, ↓cp_14_10b, ↓cp_14_11b, ↓cp_14_12b, ↓cp_14_13b, ↓cp_17_1b, ↓cp_19_1b, ↓cp_21_1b, ↓cu_4b, ↓cu_15b, ↓cn_15b, ↓cm_15b, ↓cu_16b, ↓cn_16b, ↓cm_16b, ↓cu_18b, ↓cu_20b, ↓cu_22b, ↓cu_9b, ↓cl_15b, ↓cl_16b, ↓cl_18b, ↓cl_20b, ↓cl_22b, ↓Option.bind_some, cO_1, cO_2, cO_14, cO_17, cO_19, cO_21, cR_1_0, cR_1_1, cR_1_2, cR_1_3, cR_2_0, cR_2_1, cR_2_2, cR_2_3, cR_2_4, cR_2_5, cR_2_6, cR_2_7, cR_14_14, cR_14_15, cR_14_16, cR_14_17, cR_17_0, cR_19_0, cR_21_0, cA_11, cA_12, cg_1_4, cg_1_5, cg_1_6, cg_1_7, cg_14_0, cg_14_1, cg_14_2, cg_14_3, cg_14_4, cg_14_5, cg_14_6, cg_14_7, cg_14_8, cg_14_9, cg_14_10, cg_14_11, cg_14_12, cg_14_13, cg_17_1, cg_19_1, cg_21_1, ca_3, ca_4, ca_5, ca_6, ca_9, ca_15, ca_16, ca_18, ca_20, ca_22, ca_13, ca_7, ca_8, cp_1_4, cp_1_6, cp_1_7, cp_14_0, cp_14_2, cp_14_4, cp_14_5, cp_14_6, cp_14_7, cp_14_8, cp_14_9, cp_14_10, cp_14_11, cp_14_12, cp_14_13, cp_17_1, cp_19_1, cp_21_1, cu_4, cu_15, cn_15, cm_15, cu_16, cn_16, cm_16, cu_18, cu_20, cu_22, cu_9, cl_15, cl_16, cl_18, cl_20, cl_22, Option.bind_some, kl_0, kl_1, kl_2, kl_3, kl_4, kl_5, kl_6, kl_7, kl_8, kl_10, kl_13, kl_14, kl_15, kl_16, kl_24, kl_25, kl_26, kl_31, kl_32, kl_36, kl_40, kl_62, kl_99, kl_100, kl_255, kl_400, kl_992, kl_1023, kl_1024, kl_1984, kl_9200, kl_4600, kl_48, kl_57, kl_97, kl_122, kl_32767, nI_add, pk_mul, e20, nI_leI, h5, if_true, hcl, hz, r6, r7]
        rw [hU]
        have es : sEmL u m 0 i = u := rfl
        rw [es]
      | succ e ih =>
        intro i n u hie hn hu
        obtain ⟨n, rfl⟩ : ∃ m, n = m + 1 := ⟨n - 1, by omega⟩
        have e20 := congrFun (hu 20 (by decide) (by decide)) m
        have h5 : ¬ t.1 20 m ≤ i := by omega
        have h6 := hrow i (by omega)
        have hP : qPers u = qPers t := qPers_d (hu 1 (by decide) (by decide)) (hu 13 (by decide) (by decide))
        have hg := D_getM (b := b) (t := u) (Y := Y) (m := m) (k := i) hW hb h (by rw [e20]; exact h8) (by rw [e20]; omega)
        rw [hu 21 (by decide) (by decide)] at hg
        have hE := D_endBuffer (b := b) (t := u) (Y := Y) (x := t.1 21 (8 * m + i)) (c := c) hW hb h6.1 (by rw [hP]; exact h6.2.2) (by rw [hu 13 (by decide) (by decide)]; exact h6.2.1) hi (by rw [hu 0 (by decide) (by decide)]; exact hk)
        simp (disch := first | assumption | omega | decide | with_unfolding_all exact hW) only [fD_unmake_14, kl_0, kl_1, kl_2, kl_3, kl_4, kl_5, kl_6, kl_7, kl_8, kl_10, kl_13, kl_14, kl_15, kl_16, kl_24, kl_25, kl_26, kl_31, kl_32, kl_36, kl_40, kl_62, kl_99, kl_100, kl_255, kl_400, kl_992, kl_1023, kl_1024, kl_1984, kl_9200, kl_4600, kl_48, kl_57, kl_97, kl_122, kl_32767, nI_add, pk_mul]
        simp (disch := first | assumption | omega | decide | with_unfolding_all exact hW) only [↓km1, ↓cO_1b, ↓cO_2b, ↓cO_14b, ↓cO_17b, ↓cO_19b, ↓cO_21b, ↓cR_1_0b, ↓cR_1_1b, ↓cR_1_2b, ↓cR_1_3b, ↓cR_2_0b, ↓cR_2_1b, ↓cR_2_2b, ↓cR_2_3b, ↓cR_2_4b, ↓cR_2_5b, ↓cR_2_6b, ↓cR_2_7b, ↓cR_14_14b, ↓cR_14_15b, ↓cR_14_16b, ↓cR_14_17b, ↓cR_17_0b, ↓cR_19_0b, ↓cR_21_0b, ↓cA_11b, ↓cA_12b, ↓cg_1_4b, ↓cg_1_5b, ↓cg_1_6b, ↓cg_1_7b, ↓cg_14_0b, ↓cg_14_1b, ↓cg_14_2b, ↓cg_14_3b, ↓cg_14_4b, ↓cg_14_5b, ↓cg_14_6b, ↓cg_14_7b, ↓cg_14_8b, ↓cg_14_9b, ↓cg_14_10b, ↓cg_14_11b, ↓cg_14_12b, ↓cg_14_13b, ↓cg_17_1b, ↓cg_19_1b, ↓cg_21_1b, ↓ca_3b, ↓ca_4b, ↓ca_5b, ↓ca_6b, ↓ca_9b, ↓ca_15b, ↓ca_16b, ↓ca_18b, ↓ca_20b, ↓ca_22b, ↓ca_13b, ↓ca_7b, ↓ca_8b, ↓cp_1_4b, ↓cp_1_6b, ↓cp_1_7b, ↓cp_14_0b, ↓cp_14_2b, ↓cp_14_4b, ↓cp_14_5b, ↓cp_14_6b, ↓cp_14_7b, ↓cp_14_8b, ↓cp_14_9b, ↓cp_14_10b, ↓cp_14_11b, ↓cp_14_12b, ↓cp_14_13b, ↓cp_17_1b, ↓cp_19_1b, ↓cp_21_1b, ↓cu_4b, ↓cu_15b, ↓cn_15b, ↓cm_15b, ↓cu_16b, ↓cn_16b, ↓cm_16b, ↓cu_18b, ↓cu_20b, ↓cu_22b, ↓cu_9b, ↓cl_15b, ↓cl_16b, ↓cl_18b, ↓cl_20b, ↓cl_22b, ↓Option.bind_some, cO_1, cO_2, cO_14, cO_17, cO_19, cO_21, cR_1_0, cR_1_1, cR_1_2, cR_1_3, cR_2_0, cR_2_1, cR_2_2, cR_2_3, cR_2_4, cR_2_5, cR_2_6, cR_2_7, cR_14_14, cR_14_15, cR_14_16, cR_14_17, cR_17_0, cR_19_0, cR_21_0, cA_11, cA_12, cg_1_4, cg_1_5, cg_1_6, cg_1_7, cg_14_0, cg_14_1, cg_14_2, cg_14_3, cg_14_4, cg_14_5, cg_14_6, cg_14_7, cg_14_8, cg_14_9, cg_14_10, cg_14_11, cg_14_12, cg_14_13, cg_17_1, cg_19_1, cg_21_1, ca_3, ca_4, ca_5, ca_6, ca_9, ca_15, ca_16, ca_18, ca_20, ca_22, ca_13, ca_7, ca_8, cp_1_4, cp_1_6, cp_1_7, cp_14_0, cp_14_2, cp_14_4, cp_14_5, cp_14_6, cp_14_7, cp_14_8, cp_14_9, cp_14_10, cp_14_11, cp_14_12, cp_14_13, cp_17_1, cp_19_1, cp_21_1, cu_4, cu_15, cn_15, cm_15, cu_16, cn_16, cm_16, cu_18, cu_20, cu_22, cu_9, cl_15, cl_16, cl_18, cl_20, cl_22, Option.bind_some, kl_0, kl_1, kl_2, kl_3, kl_4, kl_5, kl_6, kl_7, kl_8, kl_10, kl_13, kl_14, kl_15, kl_16, kl_24, kl_25, kl_26, kl_31, kl_32, kl_36, kl_40, kl_62, kl_99, kl_100, kl_255, kl_400, kl_992, kl_1023, kl_1024, kl_1984, kl_9200, kl_4600, kl_48, kl_57, kl_97, kl_122, kl_32767, nI_add, pk_mul, e20, nI_leI, h5, if_false, hg, hE]
        rw [ih (i + 1) n _ (by omega) (by omega) (fun q a1 a2 => by rw [sEnd_1 a1 a2, hu q a1 a2])]
        have es : sEmL u m (e + 1) i = sEmL (sEnd u (u.1 21 (8 * m + i))) m e (i + 1) := rfl
        rw [es, hu 21 (by decide) (by decide)]
    rw [if_pos h]
    simp only [reduceCtorEq, if_false]
    rw [en_lt h, key (t.1 20 m) 0 xF t (by omega) (by unfold xF; omega) (fun _ _ _ => rfl)]
    unfold sEmp
    rw [if_pos h]
  · rw [if_neg h]
    simp only [if_true]
    unfold sEmp
    rw [if_neg h]
