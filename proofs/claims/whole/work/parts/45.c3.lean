/-! the class's new slabs and free ones -/
def sNb (t : xS) (c p : Nat) : xS := sClr (sA (sA t 13 p c) 14 p (t.1 10 c)) p 62 0
theorem sNb_1 {t : xS} {c p q i : Nat} : (sNb t c p).1 q i = if q = 17 ∧ 62 * p ≤ i ∧ i < 62 * p + 62 then 0 else if q = 14 ∧ i = p then t.1 10 c else if q = 13 ∧ i = p then c else t.1 q i := by
  unfold sNb
  rw [sClr_1, sA_1, sA_1]
  simp only [Nat.add_zero]
theorem sNb_2 {t : xS} {c p : Nat} : (sNb t c p).2 = t.2 := by
  unfold sNb
  rw [sClr_2]; rfl
theorem sNew_b {t : xS} {c p : Nat} : sNew t c p = sA (sNb t c p) 10 c (qCol t c) := rfl
theorem sNb_q {t : xS} {c p q : Nat} (h1 : q ≠ 13) (h2 : q ≠ 14) (h3 : q ≠ 17) : (sNb t c p).1 q = t.1 q := by
  funext i
  rw [sNb_1, if_neg (fun e => h3 e.1), if_neg (fun e => h2 e.1), if_neg (fun e => h1 e.1)]
theorem sNb_per {t : xS} {c p : Nat} : qPer (sNb t c p) = qPer t := by
  funext x; unfold qPer; rw [sNb_q (by decide) (by decide) (by decide)]
theorem sNb_13 {t : xS} {c p k : Nat} : (sNb t c p).1 13 k = if k = p then c else t.1 13 k := by
  rw [sNb_1, if_neg (by simp), if_neg (by simp)]
  by_cases h : k = p
  · rw [if_pos ⟨rfl, h⟩, if_pos h]
  · rw [if_neg (fun e => h e.2), if_neg h]
theorem sNb_pers {t : xS} {c p k : Nat} (hc : c < 4) : qPers (sNb t c p) k = if k = p then qPer t c else qPers t k := by
  unfold qPers
  rw [sNb_13, sNb_per]
  by_cases h : k = p
  · rw [if_pos h, if_pos h, if_pos hc]
  · rw [if_neg h, if_neg h]
theorem sNb_sz {t : xS} {c p k : Nat} (hc : c < 4) : qSz (sNb t c p) k = if k = p then t.1 1 c else qSz t k := by
  unfold qSz
  rw [sNb_13, sNb_q (by decide) (by decide) (by decide), sNb_q (by decide) (by decide) (by decide)]
  by_cases h : k = p
  · rw [if_pos h, if_pos h, if_pos hc]
  · rw [if_neg h, if_neg h]
theorem sNb_fB {t : xS} {c p k u j : Nat} (hc : c < 4) (hj : j < 62) : fB (sNb t c p) u k j = if k = p then (decide (j < qPer t c) && (0 == u)) else fB t u k j := by
  unfold fB
  rw [sNb_pers hc, sNb_1]
  by_cases h : k = p
  · rw [if_pos h, if_pos h, if_pos ⟨rfl, by omega⟩]
  · rw [if_neg h, if_neg h, if_neg (by omega), if_neg (by simp), if_neg (by simp)]
theorem cM_slab {b : Nat} {t : xS} {Y : xMem} {c p : Nat} {f : Nat → Bool} (hc : c < 4) (hp : p < 32) (hf : ∀ j, j < 62 → f j = decide (j < qPer t c)) :
    xsl (xsl (xsi (xsi (xsi (xsi (cM b t Y) (3, b, 0) p (nI c)) (4, b, 0) p (nI (t.1 10 c))) (5, b, 0) p (nI (t.1 1 c))) (6, b, 0) p (nI (qPer t c))) (7, b, 0) p (lN (msk f 62))) (8, b, 0) p (lN 0) = cM b (sNb t c p) Y := by
  have hT3 : cT 3 0 p = some (13, p, 1) := if_pos ⟨rfl, hp⟩
  have hT4 : cT 4 0 p = some (14, p, 0) := if_pos ⟨rfl, hp⟩
  have same : ∀ κ i k, ¬ ((κ = 3 ∨ κ = 4 ∨ κ = 5 ∨ κ = 6) ∧ i = 0 ∧ k = p) → cI (sNb t c p) κ i k = cI t κ i k := fun κ i k h1 => by
    refine cI_agree (fun q j e h => ?_) (fun _ => ?_)
    · have h2 := cT_V h
      rw [sNb_1, if_neg (fun e => (cT_q h).1 e.1), if_neg, if_neg]
      · rintro ⟨rfl, rfl⟩
        rw [cT_V hT3] at h2
        simp only [Prod.mk.injEq] at h2
        exact h1 ⟨Or.inl h2.1.symm, h2.2.1.symm, h2.2.2.symm⟩
      · rintro ⟨rfl, rfl⟩
        rw [cT_V hT4] at h2
        simp only [Prod.mk.injEq] at h2
        exact h1 ⟨Or.inr (Or.inl h2.1.symm), h2.2.1.symm, h2.2.2.symm⟩
    · have hm : qMade (sNb t c p) = qMade t := by unfold qMade; rw [sNb_q (by decide) (by decide) (by decide)]
      unfold cD
      rw [hm, sNb_per, sNb_2]
      split
      · rfl
      · by_cases h3 : i = 0 ∧ k < 32
        · rw [if_pos h3, if_pos h3, sNb_sz hc, if_neg (fun e => h1 ⟨by simp, h3.1, e⟩)]
        · rw [if_neg h3, if_neg h3]
      · by_cases h3 : i = 0 ∧ k < 32
        · rw [if_pos h3, if_pos h3, sNb_pers hc, if_neg (fun e => h1 ⟨by simp, h3.1, e⟩)]
        · rw [if_neg h3, if_neg h3]
      all_goals rfl
  have sameL : ∀ κ i k, ¬ ((κ = 7 ∨ κ = 8) ∧ i = 0 ∧ k = p) → cL (sNb t c p) κ i k = cL t κ i k := fun κ i k h1 => by
    have key : ∀ u, k ≠ p → msk (fB (sNb t c p) u k) 62 = msk (fB t u k) 62 := fun u hk => msk_cong (fun j hj => by rw [sNb_fB hc hj, if_neg hk])
    unfold cL
    rw [sNb_2]
    split
    · by_cases h3 : i = 0 ∧ k < 32
      · rw [if_pos h3, if_pos h3, key 0 (fun e => h1 ⟨by simp, h3.1, e⟩)]
      · rw [if_neg h3, if_neg h3]
    · by_cases h3 : i = 0 ∧ k < 32
      · rw [if_pos h3, if_pos h3, key 1 (fun e => h1 ⟨by simp, h3.1, e⟩)]
      · rw [if_neg h3, if_neg h3]
    all_goals rfl
  have v3 : cI (sNb t c p) 3 0 p = some (nI c) := by
    rw [cI_T hT3, sNb_13, if_pos rfl]
    show some (en 4 m1 c) = _
    rw [en_lt hc]
  have v4 : cI (sNb t c p) 4 0 p = some (nI (t.1 10 c)) := by
    rw [cI_T hT4, sNb_1, if_neg (by simp), if_pos ⟨rfl, rfl⟩]; rfl
  have v5 : cI (sNb t c p) 5 0 p = some (nI (t.1 1 c)) := by
    rw [cI_D rfl]
    show (if 0 = 0 ∧ p < 32 then some (nI (qSz (sNb t c p) p)) else none) = _
    rw [if_pos ⟨rfl, hp⟩, sNb_sz hc, if_pos rfl]
  have v6 : cI (sNb t c p) 6 0 p = some (nI (qPer t c)) := by
    rw [cI_D rfl]
    show (if 0 = 0 ∧ p < 32 then some (nI (qPers (sNb t c p) p)) else none) = _
    rw [if_pos ⟨rfl, hp⟩, sNb_pers hc, if_pos rfl]
  have v7 : cL (sNb t c p) 7 0 p = some (lN (msk f 62)) := by
    show (if 0 = 0 ∧ p < 32 then some (lN (msk (fB (sNb t c p) 0 p) 62)) else none) = _
    rw [if_pos ⟨rfl, hp⟩]
    refine congrArg (fun z => some (lN z)) ?_
    exact msk_cong (fun j hj => by rw [sNb_fB hc hj, if_pos rfl, hf j hj]; simp)
  have v8 : cL (sNb t c p) 8 0 p = some (lN 0) := by
    show (if 0 = 0 ∧ p < 32 then some (lN (msk (fB (sNb t c p) 1 p) 62)) else none) = _
    rw [if_pos ⟨rfl, hp⟩]
    refine congrArg (fun z => some (lN z)) ?_
    exact msk_0.mpr (fun j hj => by rw [sNb_fB hc hj, if_pos rfl]; simp)
  have inj : ∀ {κ κ' b' i k : Nat}, ((κ, b', i) = (κ', b, 0) ∧ k = p) → κ = κ' ∧ b' = b ∧ i = 0 ∧ k = p := fun e => ⟨(Prod.mk.inj e.1).1, (Prod.mk.inj (Prod.mk.inj e.1).2).1, (Prod.mk.inj (Prod.mk.inj e.1).2).2, e.2⟩
  refine cM_ext (fun κ i k w h => ?_) (fun κ b' i k h => ?_) (fun κ i k w h => ?_) (fun κ b' i k h => ?_) rfl
  · rw [xsl_1, xsl_1, xsi_1, xsi_1, xsi_1, xsi_1]
    by_cases a6 : κ = 6 ∧ i = 0 ∧ k = p
    · obtain ⟨rfl, rfl, rfl⟩ := a6
      rw [if_pos ⟨rfl, rfl⟩]; exact Option.some.inj (v6.symm.trans h)
    · rw [if_neg (fun e => a6 ⟨(inj e).1, (inj e).2.2⟩)]
      by_cases a5 : κ = 5 ∧ i = 0 ∧ k = p
      · obtain ⟨rfl, rfl, rfl⟩ := a5
        rw [if_pos ⟨rfl, rfl⟩]; exact Option.some.inj (v5.symm.trans h)
      · rw [if_neg (fun e => a5 ⟨(inj e).1, (inj e).2.2⟩)]
        by_cases a4 : κ = 4 ∧ i = 0 ∧ k = p
        · obtain ⟨rfl, rfl, rfl⟩ := a4
          rw [if_pos ⟨rfl, rfl⟩]; exact Option.some.inj (v4.symm.trans h)
        · rw [if_neg (fun e => a4 ⟨(inj e).1, (inj e).2.2⟩)]
          by_cases a3 : κ = 3 ∧ i = 0 ∧ k = p
          · obtain ⟨rfl, rfl, rfl⟩ := a3
            rw [if_pos ⟨rfl, rfl⟩]; exact Option.some.inj (v3.symm.trans h)
          · rw [if_neg (fun e => a3 ⟨(inj e).1, (inj e).2.2⟩)]
            rw [same κ i k (by
              rintro ⟨rfl | rfl | rfl | rfl, e⟩
              · exact a3 ⟨rfl, e⟩
              · exact a4 ⟨rfl, e⟩
              · exact a5 ⟨rfl, e⟩
              · exact a6 ⟨rfl, e⟩)] at h
            exact cM_r h
  · have hne : ∀ κ', (κ' = 3 ∨ κ' = 4 ∨ κ' = 5 ∨ κ' = 6) → ¬ ((κ, b', i) = (κ', b, 0) ∧ k = p) := by
      intro κ' hκ e
      obtain ⟨rfl, rfl, rfl, rfl⟩ := inj e
      rcases h with h | h
      · exact h rfl
      · rcases hκ with rfl | rfl | rfl | rfl
        · rw [v3] at h; cases h
        · rw [v4] at h; cases h
        · rw [v5] at h; cases h
        · rw [v6] at h; cases h
    rw [xsl_1, xsl_1, xsi_1, xsi_1, xsi_1, xsi_1, if_neg (hne 6 (by simp)), if_neg (hne 5 (by simp)), if_neg (hne 4 (by simp)), if_neg (hne 3 (by simp))]
    rcases h with h | h
    · exact cM_o (Or.inl h)
    · refine cM_o (Or.inr ?_)
      have := cI_dom (t := sNb t c p) (t' := t) (κ := κ) (i := i) (k := k)
      rw [h] at this
      cases hq : cI t κ i k with
      | none => rfl
      | some w => rw [hq] at this; cases this
  · rw [xsl_2, xsl_2]
    by_cases a8 : κ = 8 ∧ i = 0 ∧ k = p
    · obtain ⟨rfl, rfl, rfl⟩ := a8
      rw [if_pos ⟨rfl, rfl⟩]; exact Option.some.inj (v8.symm.trans h)
    · rw [if_neg (fun e => a8 ⟨(inj e).1, (inj e).2.2⟩)]
      by_cases a7 : κ = 7 ∧ i = 0 ∧ k = p
      · obtain ⟨rfl, rfl, rfl⟩ := a7
        rw [if_pos ⟨rfl, rfl⟩]; exact Option.some.inj (v7.symm.trans h)
      · rw [if_neg (fun e => a7 ⟨(inj e).1, (inj e).2.2⟩)]
        rw [sameL κ i k (by
          rintro ⟨rfl | rfl, e⟩
          · exact a7 ⟨rfl, e⟩
          · exact a8 ⟨rfl, e⟩)] at h
        exact cM_rL h
  · have hne : ∀ κ', (κ' = 7 ∨ κ' = 8) → ¬ ((κ, b', i) = (κ', b, 0) ∧ k = p) := by
      intro κ' hκ e
      obtain ⟨rfl, rfl, rfl, rfl⟩ := inj e
      rcases h with h | h
      · exact h rfl
      · rcases hκ with rfl | rfl
        · rw [v7] at h; cases h
        · rw [v8] at h; cases h
    rw [xsl_2, xsl_2, if_neg (hne 8 (by simp)), if_neg (hne 7 (by simp))]
    rcases h with h | h
    · exact cM_oL (Or.inl h)
    · refine cM_oL (Or.inr ?_)
      have := cL_dom (t := sNb t c p) (t' := t) (κ := κ) (i := i) (k := k)
      rw [h] at this
      cases hq : cL t κ i k with
      | none => rfl
      | some w => rw [hq] at this; cases this
/-! reads behind raw writes -/
theorem xgR_xsi {M : xMem} {a : xId} {k : Nat} {v : Int32} {r : Option xId} {c j : Nat} : xgR (xsi M a k v) r c j = xgR M r c j := rfl
theorem xgR_xsl {M : xMem} {a : xId} {k : Nat} {v : Int64} {r : Option xId} {c j : Nat} : xgR (xsl M a k v) r c j = xgR M r c j := rfl
theorem xob_xsi {M : xMem} {a : xId} {k : Nat} {v : Int32} {r : Option xId} {c : Nat} : xob (xsi M a k v) r c = xob M r c := rfl
theorem xaR_xsi {M : xMem} {a : xId} {k : Nat} {v : Int32} {r : Option xId} {c : Nat} {j : Int32} : xaR (xsi M a k v) c r j = xaR M c r j := rfl
theorem xgI_xsi {M : xMem} {a a' : xId} {k : Nat} {v : Int32} {c j : Nat} (h : a' ≠ a ∨ j ≠ k) : xgI (xsi M a k v) (some a') c j = xgI M (some a') c j := by
  unfold xgI
  rw [xob_xsi]
  cases hx : xob M (some a') c with
  | none => rfl
  | some u =>
    have : u = a' := by
      unfold xob at hx
      dsimp only at hx
      split at hx
      · cases hx
      · exact (Option.some.inj hx).symm
    subst this
    show some _ = some _
    rw [xsi_1, if_neg]
    rintro ⟨e1, e2⟩
    exact h.elim (fun h => h e1) (fun h => h e2)
theorem wu_ar {M : xMem} {κ b n j : Nat} {v : Int32} (hW : XW M) (hs : xsh (κ, b, 0) = some (20, n)) (hj : j < n) (hn : n < 2 ^ 31) : xuI M (some (κ, b, 0)) (nI j) v = some (xsi M (κ, b, 0) j v) := xuI_w hW hs hj hn
theorem D_moveColour {b : Nat} {t : xS} {Y : xMem} {c : Nat} (hW : XW Y) (hb : b < 3) (hi : c < 4) (h1 : t.1 10 c + qPer t c * t.1 1 c ≤ 992) (h2 : t.1 2 c ≤ 64) : fC_moveColour (cM b t Y) (14, b, c) = some (cM b (sA t 10 c (qCol t c)) Y) := by
  unfold fC_moveColour fC_moveColour_33 qCol
  have h3 : qPer t c * t.1 1 c ≤ 992 := by omega
  simp (disch := first | assumption | omega | decide | with_unfolding_all exact hW) only [↓km1, ↓cO_1b, ↓cO_2b, ↓cO_14b, ↓cO_17b, ↓cO_19b, ↓cO_21b, ↓cR_1_0b, ↓cR_1_1b, ↓cR_1_2b, ↓cR_1_3b, ↓cR_2_0b, ↓cR_2_1b, ↓cR_2_2b, ↓cR_2_3b, ↓cR_2_4b, ↓cR_2_5b, ↓cR_2_6b, ↓cR_2_7b, ↓cR_14_14b, ↓cR_14_15b, ↓cR_14_16b, ↓cR_14_17b, ↓cR_17_0b, ↓cR_19_0b, ↓cR_21_0b, ↓cA_11b, ↓cA_12b, ↓cg_1_4b, ↓cg_1_5b, ↓cg_1_6b, ↓cg_1_7b, ↓cg_14_0b, ↓cg_14_1b, ↓cg_14_2b, ↓cg_14_3b, ↓cg_14_4b, ↓cg_14_5b, ↓cg_14_6b, ↓cg_14_7b, ↓cg_14_8b, ↓cg_14_9b, ↓cg_14_10b, ↓cg_14_11b, ↓cg_14_12b, ↓cg_14_13b, ↓cg_17_1b, ↓cg_19_1b, ↓cg_21_1b, ↓ca_3b, ↓ca_4b, ↓ca_5b, ↓ca_6b, ↓ca_9b, ↓ca_15b, ↓ca_16b, ↓ca_18b, ↓ca_20b, ↓ca_22b, ↓ca_13b, ↓ca_7b, ↓ca_8b, ↓cp_1_4b, ↓cp_1_6b, ↓cp_1_7b, ↓cp_14_0b, ↓cp_14_2b, ↓cp_14_4b, ↓cp_14_5b, ↓cp_14_6b, ↓cp_14_7b, ↓cp_14_8b, ↓cp_14_9b, ↓cp_14_10b, ↓cp_14_11b, ↓cp_14_12b, ↓cp_14_13b, ↓cp_17_1b, ↓cp_19_1b, ↓cp_21_1b, ↓cu_4b, ↓cu_15b, ↓cn_15b, ↓cm_15b, ↓cu_16b, ↓cn_16b, ↓cm_16b, ↓cu_18b, ↓cu_20b, ↓cu_22b, ↓cu_9b, ↓cl_15b, ↓cl_16b, ↓cl_18b, ↓cl_20b, ↓cl_22b, ↓Option.bind_some, cO_1, cO_2, cO_14, cO_17, cO_19, cO_21, cR_1_0, cR_1_1, cR_1_2, cR_1_3, cR_2_0, cR_2_1, cR_2_2, cR_2_3, cR_2_4, cR_2_5, cR_2_6, cR_2_7, cR_14_14, cR_14_15, cR_14_16, cR_14_17, cR_17_0, cR_19_0, cR_21_0, cA_11, cA_12, cg_1_4, cg_1_5, cg_1_6, cg_1_7, cg_14_0, cg_14_1, cg_14_2, cg_14_3, cg_14_4, cg_14_5, cg_14_6, cg_14_7, cg_14_8, cg_14_9, cg_14_10, cg_14_11, cg_14_12, cg_14_13, cg_17_1, cg_19_1, cg_21_1, ca_3, ca_4, ca_5, ca_6, ca_9, ca_15, ca_16, ca_18, ca_20, ca_22, ca_13, ca_7, ca_8, cp_1_4, cp_1_6, cp_1_7, cp_14_0, cp_14_2, cp_14_4, cp_14_5, cp_14_6, cp_14_7, cp_14_8, cp_14_9, cp_14_10, cp_14_11, cp_14_12, cp_14_13, cp_17_1, cp_19_1, cp_21_1, cu_4, cu_15, cn_15, cm_15, cu_16, cn_16, cm_16, cu_18, cu_20, cu_22, cu_9, cl_15, cl_16, cl_18, cl_20, cl_22, Option.bind_some, kl_0, kl_1, kl_2, kl_3, kl_4, kl_5, kl_6, kl_7, kl_8, kl_10, kl_13, kl_14, kl_15, kl_16, kl_24, kl_25, kl_26, kl_31, kl_32, kl_36, kl_40, kl_62, kl_99, kl_100, kl_255, kl_400, kl_992, kl_1023, kl_1024, kl_1984, kl_9200, kl_4600, kl_48, kl_57, kl_97, kl_122, kl_32767, nI_add, pk_mul, pk_sub, nI_ltI]
  by_cases h : t.1 10 c + t.1 2 c + qPer t c * t.1 1 c ≤ 992
  · rw [if_pos h, if_neg (by omega)]
  · rw [if_neg h, if_pos (by omega)]
theorem D_beginSlab {b : Nat} {t : xS} {Y : xMem} {c : Nat} (hW : XW Y) (hb : b < 3) (hi : c < 4) (h62 : qPer t c ≤ 62) : fA_beginSlab (cM b t Y) (2, b, 0) (nI c) (some (14, b, c)) = some (en 32 m1 (qPage t), cM b (if qPage t < 32 then sNb t c (qPage t) else t) Y) := by
  have key : ∀ e i n, i + e = 32 → e < n → fA_beginSlab_2 n (cM b t Y) (some (2, b, 0)) (nI c) (some (14, b, c)) (nI i) = some (en 32 m1 (fF (fun p => !decide (t.1 13 p < 4)) e i), cM b (if fF (fun p => !decide (t.1 13 p < 4)) e i < 32 then sNb t c (fF (fun p => !decide (t.1 13 p < 4)) e i) else t) Y) := by
    intro e
    induction e with
    | zero =>
      intro i n hi hn
      obtain ⟨n, rfl⟩ : ∃ m, n = m + 1 := ⟨n - 1, by omega⟩
      have h5 : 32 ≤ i := by omega
      have h6 : ¬ i < 32 := by omega
      simp (disch := first | assumption | omega | decide | with_unfolding_all exact hW) only [fA_beginSlab_2, ↓km1, kl_0, kl_1, kl_2, kl_3, kl_4, kl_5, kl_6, kl_7, kl_8, kl_10, kl_13, kl_14, kl_15, kl_16, kl_24, kl_25, kl_26, kl_31, kl_32, kl_36, kl_40, kl_62, kl_99, kl_100, kl_255, kl_400, kl_992, kl_1023, kl_1024, kl_1984, kl_9200, kl_4600, kl_48, kl_57, kl_97, kl_122, kl_32767, nI_add, pk_mul, nI_leI, fF, h5, h6, Nat.not_lt_zero, if_true, if_false, not_true, not_false_iff, and_true, true_and, and_false, false_and, Bool.false_eq_true, reduceCtorEq]
      rw [en_ge h6]
    | succ e ih =>
      intro i n hie hn
      obtain ⟨n, rfl⟩ : ∃ m, n = m + 1 := ⟨n - 1, by omega⟩
      have h5 : ¬ 32 ≤ i := by omega
      have h6 : i < 32 := by omega
      unfold fF
      by_cases h0 : t.1 13 i < 4
      · simp (disch := first | assumption | omega | decide | with_unfolding_all exact hW) only [fA_beginSlab_2, ↓km1, ↓cO_1b, ↓cO_2b, ↓cO_14b, ↓cO_17b, ↓cO_19b, ↓cO_21b, ↓cR_1_0b, ↓cR_1_1b, ↓cR_1_2b, ↓cR_1_3b, ↓cR_2_0b, ↓cR_2_1b, ↓cR_2_2b, ↓cR_2_3b, ↓cR_2_4b, ↓cR_2_5b, ↓cR_2_6b, ↓cR_2_7b, ↓cR_14_14b, ↓cR_14_15b, ↓cR_14_16b, ↓cR_14_17b, ↓cR_17_0b, ↓cR_19_0b, ↓cR_21_0b, ↓cA_11b, ↓cA_12b, ↓cg_1_4b, ↓cg_1_5b, ↓cg_1_6b, ↓cg_1_7b, ↓cg_14_0b, ↓cg_14_1b, ↓cg_14_2b, ↓cg_14_3b, ↓cg_14_4b, ↓cg_14_5b, ↓cg_14_6b, ↓cg_14_7b, ↓cg_14_8b, ↓cg_14_9b, ↓cg_14_10b, ↓cg_14_11b, ↓cg_14_12b, ↓cg_14_13b, ↓cg_17_1b, ↓cg_19_1b, ↓cg_21_1b, ↓ca_3b, ↓ca_4b, ↓ca_5b, ↓ca_6b, ↓ca_9b, ↓ca_15b, ↓ca_16b, ↓ca_18b, ↓ca_20b, ↓ca_22b, ↓ca_13b, ↓ca_7b, ↓ca_8b, ↓cp_1_4b, ↓cp_1_6b, ↓cp_1_7b, ↓cp_14_0b, ↓cp_14_2b, ↓cp_14_4b, ↓cp_14_5b, ↓cp_14_6b, ↓cp_14_7b, ↓cp_14_8b, ↓cp_14_9b, ↓cp_14_10b, ↓cp_14_11b, ↓cp_14_12b, ↓cp_14_13b, ↓cp_17_1b, ↓cp_19_1b, ↓cp_21_1b, ↓cu_4b, ↓cu_15b, ↓cn_15b, ↓cm_15b, ↓cu_16b, ↓cn_16b, ↓cm_16b, ↓cu_18b, ↓cu_20b, ↓cu_22b, ↓cu_9b, ↓cl_15b, ↓cl_16b, ↓cl_18b, ↓cl_20b, ↓cl_22b, ↓Option.bind_some, cO_1, cO_2, cO_14, cO_17, cO_19, cO_21, cR_1_0, cR_1_1, cR_1_2, cR_1_3, cR_2_0, cR_2_1, cR_2_2, cR_2_3, cR_2_4, cR_2_5, cR_2_6, cR_2_7, cR_14_14, cR_14_15, cR_14_16, cR_14_17, cR_17_0, cR_19_0, cR_21_0, cA_11, cA_12, cg_1_4, cg_1_5, cg_1_6, cg_1_7, cg_14_0, cg_14_1, cg_14_2, cg_14_3, cg_14_4, cg_14_5, cg_14_6, cg_14_7, cg_14_8, cg_14_9, cg_14_10, cg_14_11, cg_14_12, cg_14_13, cg_17_1, cg_19_1, cg_21_1, ca_3, ca_4, ca_5, ca_6, ca_9, ca_15, ca_16, ca_18, ca_20, ca_22, ca_13, ca_7, ca_8, cp_1_4, cp_1_6, cp_1_7, cp_14_0, cp_14_2, cp_14_4, cp_14_5, cp_14_6, cp_14_7, cp_14_8, cp_14_9, cp_14_10, cp_14_11, cp_14_12, cp_14_13, cp_17_1, cp_19_1, cp_21_1, cu_4, cu_15, cn_15, cm_15, cu_16, cn_16, cm_16, cu_18, cu_20, cu_22, cu_9, cl_15, cl_16, cl_18, cl_20, cl_22, Option.bind_some, kl_0, kl_1, kl_2, kl_3, kl_4, kl_5, kl_6, kl_7, kl_8, kl_10, kl_13, kl_14, kl_15, kl_16, kl_24, kl_25, kl_26, kl_31, kl_32, kl_36, kl_40, kl_62, kl_99, kl_100, kl_255, kl_400, kl_992, kl_1023, kl_1024, kl_1984, kl_9200, kl_4600, kl_48, kl_57, kl_97, kl_122, kl_32767, nI_add, pk_mul, nI_leI, ↓km1, nI_m1, en_m1, m1_lt0, m1_eq, m1_0, nI_00, nI_10, nI_0le, nI_n0, h5, h0, Nat.not_lt_zero, if_true, if_false, not_true, not_false_iff, and_true, true_and, and_false, false_and, Bool.false_eq_true, reduceCtorEq, decide_true, Bool.not_true]
        exact ih (i + 1) n (by omega) (by omega)
      · simp (disch := first | assumption | omega | decide | with_unfolding_all exact hW) only [fA_beginSlab_2, ↓km1, ↓cO_1b, ↓cO_2b, ↓cO_14b, ↓cO_17b, ↓cO_19b, ↓cO_21b, ↓cR_1_0b, ↓cR_1_1b, ↓cR_1_2b, ↓cR_1_3b, ↓cR_2_0b, ↓cR_2_1b, ↓cR_2_2b, ↓cR_2_3b, ↓cR_2_4b, ↓cR_2_5b, ↓cR_2_6b, ↓cR_2_7b, ↓cR_14_14b, ↓cR_14_15b, ↓cR_14_16b, ↓cR_14_17b, ↓cR_17_0b, ↓cR_19_0b, ↓cR_21_0b, ↓cA_11b, ↓cA_12b, ↓cg_1_4b, ↓cg_1_5b, ↓cg_1_6b, ↓cg_1_7b, ↓cg_14_0b, ↓cg_14_1b, ↓cg_14_2b, ↓cg_14_3b, ↓cg_14_4b, ↓cg_14_5b, ↓cg_14_6b, ↓cg_14_7b, ↓cg_14_8b, ↓cg_14_9b, ↓cg_14_10b, ↓cg_14_11b, ↓cg_14_12b, ↓cg_14_13b, ↓cg_17_1b, ↓cg_19_1b, ↓cg_21_1b, ↓ca_3b, ↓ca_4b, ↓ca_5b, ↓ca_6b, ↓ca_9b, ↓ca_15b, ↓ca_16b, ↓ca_18b, ↓ca_20b, ↓ca_22b, ↓ca_13b, ↓ca_7b, ↓ca_8b, ↓cp_1_4b, ↓cp_1_6b, ↓cp_1_7b, ↓cp_14_0b, ↓cp_14_2b, ↓cp_14_4b, ↓cp_14_5b, ↓cp_14_6b, ↓cp_14_7b, ↓cp_14_8b, ↓cp_14_9b, ↓cp_14_10b, ↓cp_14_11b, ↓cp_14_12b, ↓cp_14_13b, ↓cp_17_1b, ↓cp_19_1b, ↓cp_21_1b, ↓cu_4b, ↓cu_15b, ↓cn_15b, ↓cm_15b, ↓cu_16b, ↓cn_16b, ↓cm_16b, ↓cu_18b, ↓cu_20b, ↓cu_22b, ↓cu_9b, ↓cl_15b, ↓cl_16b, ↓cl_18b, ↓cl_20b, ↓cl_22b, ↓Option.bind_some, cO_1, cO_2, cO_14, cO_17, cO_19, cO_21, cR_1_0, cR_1_1, cR_1_2, cR_1_3, cR_2_0, cR_2_1, cR_2_2, cR_2_3, cR_2_4, cR_2_5, cR_2_6, cR_2_7, cR_14_14, cR_14_15, cR_14_16, cR_14_17, cR_17_0, cR_19_0, cR_21_0, cA_11, cA_12, cg_1_4, cg_1_5, cg_1_6, cg_1_7, cg_14_0, cg_14_1, cg_14_2, cg_14_3, cg_14_4, cg_14_5, cg_14_6, cg_14_7, cg_14_8, cg_14_9, cg_14_10, cg_14_11, cg_14_12, cg_14_13, cg_17_1, cg_19_1, cg_21_1, ca_3, ca_4, ca_5, ca_6, ca_9, ca_15, ca_16, ca_18, ca_20, ca_22, ca_13, ca_7, ca_8, cp_1_4, cp_1_6, cp_1_7, cp_14_0, cp_14_2, cp_14_4, cp_14_5, cp_14_6, cp_14_7, cp_14_8, cp_14_9, cp_14_10, cp_14_11, cp_14_12, cp_14_13, cp_17_1, cp_19_1, cp_21_1, cu_4, cu_15, cn_15, cm_15, cu_16, cn_16, cm_16, cu_18, cu_20, cu_22, cu_9, cl_15, cl_16, cl_18, cl_20, cl_22, Option.bind_some, kl_0, kl_1, kl_2, kl_3, kl_4, kl_5, kl_6, kl_7, kl_8, kl_10, kl_13, kl_14, kl_15, kl_16, kl_24, kl_25, kl_26, kl_31, kl_32, kl_36, kl_40, kl_62, kl_99, kl_100, kl_255, kl_400, kl_992, kl_1023, kl_1024, kl_1984, kl_9200, kl_4600, kl_48, kl_57, kl_97, kl_122, kl_32767, nI_add, pk_mul, nI_leI, ↓km1, nI_m1, en_m1, m1_lt0, m1_eq, m1_0, nI_00, nI_10, nI_0le, nI_n0, h5, h0, Nat.not_lt_zero, if_true, if_false, not_true, not_false_iff, and_true, true_and, and_false, false_and, Bool.false_eq_true, reduceCtorEq, decide_false, Bool.not_false]
        have w1 : ∀ v, xuI (cM b t Y) (some (3, b, 0)) (nI i) v = some (xsi (cM b t Y) (3, b, 0) i v) := fun v => wu_ar (M := cM b t Y) hW (sh_3 hb) h6 (by decide)
        have w2 : ∀ (M : xMem) (v : Int32), XW M → xuI M (some (4, b, 0)) (nI i) v = some (xsi M (4, b, 0) i v) := fun M v h => wu_ar h (sh_4 hb) h6 (by decide)
        have w3 : ∀ (M : xMem) (v : Int32), XW M → xuI M (some (5, b, 0)) (nI i) v = some (xsi M (5, b, 0) i v) := fun M v h => wu_ar h (sh_5 hb) h6 (by decide)
        have w4 : ∀ (M : xMem) (v : Int32), XW M → xuI M (some (6, b, 0)) (nI i) v = some (xsi M (6, b, 0) i v) := fun M v h => wu_ar h (sh_6 hb) h6 (by decide)
        have w5 : ∀ (M : xMem) (v : Int64), XW M → xuL M (some (7, b, 0)) (nI i) v = some (xsl M (7, b, 0) i v) := fun M v h => xuL_w h (sh_7 hb) h6 (by decide)
        have w6 : ∀ (M : xMem) (v : Int64), XW M → xuL M (some (8, b, 0)) (nI i) v = some (xsl M (8, b, 0) i v) := fun M v h => xuL_w h (sh_8 hb) h6 (by decide)
        simp only [w1, Option.bind_some, xgR_xsi, xgR_xsl, cR_2_1 hW hb, cR_2_2 hW hb, cR_2_3 hW hb, cR_2_4 hW hb, cR_2_5 hW hb]
        have hW1 : XW (xsi (cM b t Y) (3, b, 0) i (nI c)) := hW
        have hW2 : XW (xsi (xsi (cM b t Y) (3, b, 0) i (nI c)) (4, b, 0) i (nI (t.1 10 c))) := hW
        have hW3 : XW (xsi (xsi (xsi (cM b t Y) (3, b, 0) i (nI c)) (4, b, 0) i (nI (t.1 10 c))) (5, b, 0) i (nI (t.1 1 c))) := hW
        have hW4 : XW (xsi (xsi (xsi (xsi (cM b t Y) (3, b, 0) i (nI c)) (4, b, 0) i (nI (t.1 10 c))) (5, b, 0) i (nI (t.1 1 c))) (6, b, 0) i (nI (qPer t c))) := hW
        have hW5 : XW (xsl (xsi (xsi (xsi (xsi (cM b t Y) (3, b, 0) i (nI c)) (4, b, 0) i (nI (t.1 10 c))) (5, b, 0) i (nI (t.1 1 c))) (6, b, 0) i (nI (qPer t c))) (7, b, 0) i (lN (msk (fun k => decide (k < qPer t c)) 62))) := hW
        rw [xgI_xsi (by simp), cg_14_10 hW hb hi, Option.bind_some, w2 _ _ hW1, Option.bind_some, xgR_xsi, xgR_xsi, cR_2_2 hW hb, Option.bind_some, xgI_xsi (by simp), xgI_xsi (by simp), cg_14_1 hW hb hi, Option.bind_some, w3 _ _ hW2, Option.bind_some]
        rw [xgR_xsi, xgR_xsi, xgR_xsi, cR_2_3 hW hb, Option.bind_some, xgI_xsi (by simp), xgI_xsi (by simp), xgI_xsi (by simp), cg_14_3 hW hb hi, Option.bind_some, w4 _ _ hW3, Option.bind_some]
        rw [xgR_xsi, xgR_xsi, xgR_xsi, xgR_xsi, cR_2_4 hW hb, Option.bind_some, xgI_xsi (by simp), xgI_xsi (by simp), xgI_xsi (by simp), xgI_xsi (by simp), cg_14_3 hW hb hi, Option.bind_some]
        unfold fA_allOf
        rw [Option.bind_some, mk_all h62, w5 _ _ hW4, Option.bind_some, xgR_xsl, xgR_xsi, xgR_xsi, xgR_xsi, xgR_xsi, cR_2_5 hW hb, Option.bind_some, w6 _ _ hW5, Option.bind_some, if_pos h6, en_lt h6]
        exact congrArg some (Prod.ext rfl (cM_slab hi h6 (fun _ _ => rfl)))
  unfold fA_beginSlab qPage
  rw [kl_0, key 32 0 xF (by omega) (by unfold xF; omega)]
theorem free_z {t : xS} {p : Nat} (h4 : t.1 13 p < 4) (h62 : qPer t (t.1 13 p) ≤ 62) (hp : p < 32) : (∀ k, k < 62 → fB t 0 p k = false) = ¬ qFreeIn t p < 1984 := by
  have e : qPers t p = qPer t (t.1 13 p) := if_pos h4
  refine propext ⟨fun h h2 => ?_, fun h k hk => ?_⟩
  · unfold qFreeIn at h2
    by_cases h3 : qFreeK t p < qPer t (t.1 13 p)
    · have h5 := fF_yes (P := fun k => t.1 17 (62 * p + k) == 0) (d := qPer t (t.1 13 p)) (i := 0) (by unfold qFreeK at h3; omega)
      have h6 := h (qFreeK t p) (by omega)
      unfold fB at h6
      rw [e, decide_eq_true h3, Bool.true_and] at h6
      have h7 : (t.1 17 (62 * p + qFreeK t p) == 0) = true := h5
      rw [h6] at h7; cases h7
    · rw [if_neg h3] at h2; omega
  · unfold fB
    rw [e]
    by_cases hk2 : k < qPer t (t.1 13 p)
    · rw [decide_eq_true hk2, Bool.true_and]
      have h3 : ¬ qFreeK t p < qPer t (t.1 13 p) := fun h3 => h (by unfold qFreeIn; rw [if_pos h3]; omega)
      exact fF_no (P := fun k => t.1 17 (62 * p + k) == 0) (d := qPer t (t.1 13 p)) (i := 0) (Nat.zero_le _) (by unfold qFreeK at h3; omega)
    · rw [decide_eq_false hk2, Bool.false_and]
theorem D_firstPage {b : Nat} {t : xS} {Y : xMem} {c : Nat} (hW : XW Y) (hb : b < 3) (hR : WR0 t) (hi : c < 4) : fA_firstPageWithFree (cM b t Y) (2, b, 0) (nI c) = some (en 32 m1 (qFirstP t c), cM b t Y) := by
  have key : ∀ e i n, i + e = 32 → e < n → fA_firstPageWithFree_2 n (cM b t Y) (some (2, b, 0)) (nI c) (nI i) = some (en 32 m1 (fF (fun p => t.1 13 p == c && decide (qFreeIn t p < 1984)) e i), cM b t Y) := by
    intro e
    induction e with
    | zero =>
      intro i n hi hn
      obtain ⟨n, rfl⟩ : ∃ m, n = m + 1 := ⟨n - 1, by omega⟩
      have h5 : 32 ≤ i := by omega
      have h6 : ¬ i < 32 := by omega
      simp (disch := first | assumption | omega | decide | with_unfolding_all exact hW) only [fA_firstPageWithFree_2, ↓km1, kl_0, kl_1, kl_2, kl_3, kl_4, kl_5, kl_6, kl_7, kl_8, kl_10, kl_13, kl_14, kl_15, kl_16, kl_24, kl_25, kl_26, kl_31, kl_32, kl_36, kl_40, kl_62, kl_99, kl_100, kl_255, kl_400, kl_992, kl_1023, kl_1024, kl_1984, kl_9200, kl_4600, kl_48, kl_57, kl_97, kl_122, kl_32767, nI_add, pk_mul, nI_leI, fF, h5, Nat.not_lt_zero, if_true, if_false, not_true, not_false_iff, and_true, true_and, and_false, false_and, Bool.false_eq_true, reduceCtorEq]
      rw [en_ge h6]
    | succ e ih =>
      intro i n hie hn
      obtain ⟨n, rfl⟩ : ∃ m, n = m + 1 := ⟨n - 1, by omega⟩
      have h5 : ¬ 32 ≤ i := by omega
      have h6 : i < 32 := by omega
      unfold fF
      simp (disch := first | assumption | omega | decide | with_unfolding_all exact hW) only [fA_firstPageWithFree_2, fA_firstPageWithFree_31, ↓km1, ↓cO_1b, ↓cO_2b, ↓cO_14b, ↓cO_17b, ↓cO_19b, ↓cO_21b, ↓cR_1_0b, ↓cR_1_1b, ↓cR_1_2b, ↓cR_1_3b, ↓cR_2_0b, ↓cR_2_1b, ↓cR_2_2b, ↓cR_2_3b, ↓cR_2_4b, ↓cR_2_5b, ↓cR_2_6b, ↓cR_2_7b, ↓cR_14_14b, ↓cR_14_15b, ↓cR_14_16b, ↓cR_14_17b, ↓cR_17_0b, ↓cR_19_0b, ↓cR_21_0b, ↓cA_11b, ↓cA_12b, ↓cg_1_4b, ↓cg_1_5b, ↓cg_1_6b, ↓cg_1_7b, ↓cg_14_0b, ↓cg_14_1b, ↓cg_14_2b, ↓cg_14_3b, ↓cg_14_4b, ↓cg_14_5b, ↓cg_14_6b, ↓cg_14_7b, ↓cg_14_8b, ↓cg_14_9b, ↓cg_14_10b, ↓cg_14_11b, ↓cg_14_12b, ↓cg_14_13b, ↓cg_17_1b, ↓cg_19_1b, ↓cg_21_1b, ↓ca_3b, ↓ca_4b, ↓ca_5b, ↓ca_6b, ↓ca_9b, ↓ca_15b, ↓ca_16b, ↓ca_18b, ↓ca_20b, ↓ca_22b, ↓ca_13b, ↓ca_7b, ↓ca_8b, ↓cp_1_4b, ↓cp_1_6b, ↓cp_1_7b, ↓cp_14_0b, ↓cp_14_2b, ↓cp_14_4b, ↓cp_14_5b, ↓cp_14_6b, ↓cp_14_7b, ↓cp_14_8b, ↓cp_14_9b, ↓cp_14_10b, ↓cp_14_11b, ↓cp_14_12b, ↓cp_14_13b, ↓cp_17_1b, ↓cp_19_1b, ↓cp_21_1b, ↓cu_4b, ↓cu_15b, ↓cn_15b, ↓cm_15b, ↓cu_16b, ↓cn_16b, ↓cm_16b, ↓cu_18b, ↓cu_20b, ↓cu_22b, ↓cu_9b, ↓cl_15b, ↓cl_16b, ↓cl_18b, ↓cl_20b, ↓cl_22b, ↓Option.bind_some, cO_1, cO_2, cO_14, cO_17, cO_19, cO_21, cR_1_0, cR_1_1, cR_1_2, cR_1_3, cR_2_0, cR_2_1, cR_2_2, cR_2_3, cR_2_4, cR_2_5, cR_2_6, cR_2_7, cR_14_14, cR_14_15, cR_14_16, cR_14_17, cR_17_0, cR_19_0, cR_21_0, cA_11, cA_12, cg_1_4, cg_1_5, cg_1_6, cg_1_7, cg_14_0, cg_14_1, cg_14_2, cg_14_3, cg_14_4, cg_14_5, cg_14_6, cg_14_7, cg_14_8, cg_14_9, cg_14_10, cg_14_11, cg_14_12, cg_14_13, cg_17_1, cg_19_1, cg_21_1, ca_3, ca_4, ca_5, ca_6, ca_9, ca_15, ca_16, ca_18, ca_20, ca_22, ca_13, ca_7, ca_8, cp_1_4, cp_1_6, cp_1_7, cp_14_0, cp_14_2, cp_14_4, cp_14_5, cp_14_6, cp_14_7, cp_14_8, cp_14_9, cp_14_10, cp_14_11, cp_14_12, cp_14_13, cp_17_1, cp_19_1, cp_21_1, cu_4, cu_15, cn_15, cm_15, cu_16, cn_16, cm_16, cu_18, cu_20, cu_22, cu_9, cl_15, cl_16, cl_18, cl_20, cl_22, Option.bind_some, kl_0, kl_1, kl_2, kl_3, kl_4, kl_5, kl_6, kl_7, kl_8, kl_10, kl_13, kl_14, kl_15, kl_16, kl_24, kl_25, kl_26, kl_31, kl_32, kl_36, kl_40, kl_62, kl_99, kl_100, kl_255, kl_400, kl_992, kl_1023, kl_1024, kl_1984, kl_9200, kl_4600, kl_48, kl_57, kl_97, kl_122, kl_32767, nI_add, pk_mul, nI_leI, h5, Nat.not_lt_zero, if_true, if_false, not_true, not_false_iff, and_true, true_and, and_false, false_and, Bool.false_eq_true, reduceCtorEq]
      have e4 : (en 4 m1 (t.1 13 i) = nI c) = (t.1 13 i = c) := en_eq (by decide) (by decide) hi
      simp only [mk_zn, e4]
      by_cases h0 : t.1 13 i = c
      · have h4 : t.1 13 i < 4 := by omega
        have hg := hR.pg h6 h4
        rw [if_pos h0]
        simp only [free_z h4 hg.2.2.2.1 h6]
        by_cases h1 : qFreeIn t i < 1984
        · simp only [h0, h1, Nat.not_lt_zero, if_true, if_false, not_true, not_false_iff, and_true, true_and, and_false, false_and, Bool.false_eq_true, reduceCtorEq, BEq.rfl, decide_true, Bool.and_self]
          rw [en_lt h6]
        · simp only [h0, h1, Nat.not_lt_zero, if_true, if_false, not_true, not_false_iff, and_true, true_and, and_false, false_and, Bool.false_eq_true, reduceCtorEq, BEq.rfl, decide_false, Bool.and_false]
          exact ih (i + 1) n (by omega) (by omega)
      · rw [if_neg h0]
        simp only [beq_eq_false_iff_ne.mpr h0, Bool.false_and, Nat.not_lt_zero, if_true, if_false, not_true, not_false_iff, and_true, true_and, and_false, false_and, Bool.false_eq_true, reduceCtorEq]
        exact ih (i + 1) n (by omega) (by omega)
  unfold fA_firstPageWithFree qFirstP
  rw [kl_0, key 32 0 xF (by omega) (by unfold xF; omega)]
theorem D_firstFree {b : Nat} {t : xS} {Y : xMem} {p : Nat} (hW : XW Y) (hb : b < 3) (hp : p < 32) (h4 : t.1 13 p < 4) (h62 : qPer t (t.1 13 p) ≤ 62) : fA_firstFreeIn (cM b t Y) (2, b, 0) (nI p) = some (en 1984 m1 (qFreeIn t p), cM b t Y) := by
  have hz := free_z h4 h62 hp
  have h5 : ¬ 32 ≤ p := by omega
  unfold fA_firstFreeIn
  simp (disch := first | assumption | omega | decide | with_unfolding_all exact hW) only [↓km1, ↓cO_1b, ↓cO_2b, ↓cO_14b, ↓cO_17b, ↓cO_19b, ↓cO_21b, ↓cR_1_0b, ↓cR_1_1b, ↓cR_1_2b, ↓cR_1_3b, ↓cR_2_0b, ↓cR_2_1b, ↓cR_2_2b, ↓cR_2_3b, ↓cR_2_4b, ↓cR_2_5b, ↓cR_2_6b, ↓cR_2_7b, ↓cR_14_14b, ↓cR_14_15b, ↓cR_14_16b, ↓cR_14_17b, ↓cR_17_0b, ↓cR_19_0b, ↓cR_21_0b, ↓cA_11b, ↓cA_12b, ↓cg_1_4b, ↓cg_1_5b, ↓cg_1_6b, ↓cg_1_7b, ↓cg_14_0b, ↓cg_14_1b, ↓cg_14_2b, ↓cg_14_3b, ↓cg_14_4b, ↓cg_14_5b, ↓cg_14_6b, ↓cg_14_7b, ↓cg_14_8b, ↓cg_14_9b, ↓cg_14_10b, ↓cg_14_11b, ↓cg_14_12b, ↓cg_14_13b, ↓cg_17_1b, ↓cg_19_1b, ↓cg_21_1b, ↓ca_3b, ↓ca_4b, ↓ca_5b, ↓ca_6b, ↓ca_9b, ↓ca_15b, ↓ca_16b, ↓ca_18b, ↓ca_20b, ↓ca_22b, ↓ca_13b, ↓ca_7b, ↓ca_8b, ↓cp_1_4b, ↓cp_1_6b, ↓cp_1_7b, ↓cp_14_0b, ↓cp_14_2b, ↓cp_14_4b, ↓cp_14_5b, ↓cp_14_6b, ↓cp_14_7b, ↓cp_14_8b, ↓cp_14_9b, ↓cp_14_10b, ↓cp_14_11b, ↓cp_14_12b, ↓cp_14_13b, ↓cp_17_1b, ↓cp_19_1b, ↓cp_21_1b, ↓cu_4b, ↓cu_15b, ↓cn_15b, ↓cm_15b, ↓cu_16b, ↓cn_16b, ↓cm_16b, ↓cu_18b, ↓cu_20b, ↓cu_22b, ↓cu_9b, ↓cl_15b, ↓cl_16b, ↓cl_18b, ↓cl_20b, ↓cl_22b, ↓Option.bind_some, cO_1, cO_2, cO_14, cO_17, cO_19, cO_21, cR_1_0, cR_1_1, cR_1_2, cR_1_3, cR_2_0, cR_2_1, cR_2_2, cR_2_3, cR_2_4, cR_2_5, cR_2_6, cR_2_7, cR_14_14, cR_14_15, cR_14_16, cR_14_17, cR_17_0, cR_19_0, cR_21_0, cA_11, cA_12, cg_1_4, cg_1_5, cg_1_6, cg_1_7, cg_14_0, cg_14_1, cg_14_2, cg_14_3, cg_14_4, cg_14_5, cg_14_6, cg_14_7, cg_14_8, cg_14_9, cg_14_10, cg_14_11, cg_14_12, cg_14_13, cg_17_1, cg_19_1, cg_21_1, ca_3, ca_4, ca_5, ca_6, ca_9, ca_15, ca_16, ca_18, ca_20, ca_22, ca_13, ca_7, ca_8, cp_1_4, cp_1_6, cp_1_7, cp_14_0, cp_14_2, cp_14_4, cp_14_5, cp_14_6, cp_14_7, cp_14_8, cp_14_9, cp_14_10, cp_14_11, cp_14_12, cp_14_13, cp_17_1, cp_19_1, cp_21_1, cu_4, cu_15, cn_15, cm_15, cu_16, cn_16, cm_16, cu_18, cu_20, cu_22, cu_9, cl_15, cl_16, cl_18, cl_20, cl_22, Option.bind_some, kl_0, kl_1, kl_2, kl_3, kl_4, kl_5, kl_6, kl_7, kl_8, kl_10, kl_13, kl_14, kl_15, kl_16, kl_24, kl_25, kl_26, kl_31, kl_32, kl_36, kl_40, kl_62, kl_99, kl_100, kl_255, kl_400, kl_992, kl_1023, kl_1024, kl_1984, kl_9200, kl_4600, kl_48, kl_57, kl_97, kl_122, kl_32767, nI_add, pk_mul, ↓km1, nI_m1, en_m1, m1_lt0, m1_eq, m1_0, nI_00, nI_10, nI_0le, nI_n0, nI_leI, h5, Nat.not_lt_zero, if_true, if_false, not_true, not_false_iff, and_true, true_and, and_false, false_and, Bool.false_eq_true, reduceCtorEq]
  simp only [mk_zn, hz]
  by_cases h : qFreeIn t p < 1984
  · have h3 : qFreeK t p < qPer t (t.1 13 p) := by
      unfold qFreeIn at h
      by_cases h3 : qFreeK t p < qPer t (t.1 13 p)
      · exact h3
      · rw [if_neg h3] at h; omega
    have e : qPers t p = qPer t (t.1 13 p) := if_pos h4
    have hy := fF_yes (P := fun k => t.1 17 (62 * p + k) == 0) (d := qPer t (t.1 13 p)) (i := 0) (by unfold qFreeK at h3; omega)
    have h1 : fB t 0 p (qFreeK t p) = true := by
      unfold fB
      rw [e, decide_eq_true h3, Bool.true_and]; exact hy
    have h2 : ∀ k, k < qFreeK t p → fB t 0 p k = false := fun k hk => by
      unfold fB
      rw [e, decide_eq_true (by omega), Bool.true_and]
      exact fF_no (P := fun k => t.1 17 (62 * p + k) == 0) (d := qPer t (t.1 13 p)) (i := 0) (Nat.zero_le _) hk
    rw [if_neg (fun q => q h), mk_low (by omega) h1 h2, J_bc, Option.bind_some, bc_low _ (by omega), en_lt h]
    have e2 : qFreeIn t p = 62 * p + qFreeK t p := if_pos h3
    rw [e2]
    simp only [kl_62, pk_mul, nI_add, Nat.mul_comm]
  · rw [if_pos h, en_ge h]
theorem qPers_m {t : xS} {q j v : Nat} {w : Int64} {x : Int32} {i : Nat} : qPers (sT t i w) = qPers t ∧ qPers (sW t i x) = qPers t := ⟨rfl, rfl⟩
theorem D_tf35 {b : Nat} {t : xS} {Y : xMem} {c p : Nat} (hW : XW Y) (hb : b < 3) (hi : c < 4) (hp : p < 32) (h4 : t.1 13 p = c) (h62 : qPer t c ≤ 62) (hk : t.1 0 c < 2 ^ 31) (hf : qFreeIn t p < 1984) (hR : qFreeIn t p / 62 = p ∧ qFreeIn t p % 62 < qPer t c) : fD_takeFree_35 (cM b t Y) (some (1, b, 0)) (some (14, b, c)) (nI p) = some (nI (qFreeIn t p), cM b (sMk t c (qFreeIn t p)) Y) := by
  have h4' : t.1 13 p < 4 := by omega
  have hv : qFreeIn t p % 62 < qPers t (qFreeIn t p / 62) := by
    unfold qPers; rw [hR.1, if_pos h4', h4]; exact hR.2
  have hff := D_firstFree (b := b) (Y := Y) hW hb hp h4' (by rw [h4]; exact h62)
  rw [en_lt hf] at hff
  have had := D_addressOf (b := b) (t := t) (Y := Y) (x := qFreeIn t p) hW hb hf (by rw [hR.1]; exact h4')
  have hmk := D_mark (b := b) (t := sW t (qFreeIn t p) (kM (t.1 0 c) (nI (qAddr t (qFreeIn t p))))) (Y := Y) (x := qFreeIn t p) (v := 1) hW hb hf hv (by decide)
  unfold fD_takeFree_35 sMk
  simp (disch := first | assumption | omega | decide | with_unfolding_all exact hW) only [↓km1, ↓cO_1b, ↓cO_2b, ↓cO_14b, ↓cO_17b, ↓cO_19b, ↓cO_21b, ↓cR_1_0b, ↓cR_1_1b, ↓cR_1_2b, ↓cR_1_3b, ↓cR_2_0b, ↓cR_2_1b, ↓cR_2_2b, ↓cR_2_3b, ↓cR_2_4b, ↓cR_2_5b, ↓cR_2_6b, ↓cR_2_7b, ↓cR_14_14b, ↓cR_14_15b, ↓cR_14_16b, ↓cR_14_17b, ↓cR_17_0b, ↓cR_19_0b, ↓cR_21_0b, ↓cA_11b, ↓cA_12b, ↓cg_1_4b, ↓cg_1_5b, ↓cg_1_6b, ↓cg_1_7b, ↓cg_14_0b, ↓cg_14_1b, ↓cg_14_2b, ↓cg_14_3b, ↓cg_14_4b, ↓cg_14_5b, ↓cg_14_6b, ↓cg_14_7b, ↓cg_14_8b, ↓cg_14_9b, ↓cg_14_10b, ↓cg_14_11b, ↓cg_14_12b, ↓cg_14_13b, ↓cg_17_1b, ↓cg_19_1b, ↓cg_21_1b, ↓ca_3b, ↓ca_4b, ↓ca_5b, ↓ca_6b, ↓ca_9b, ↓ca_15b, ↓ca_16b, ↓ca_18b, ↓ca_20b, ↓ca_22b, ↓ca_13b, ↓ca_7b, ↓ca_8b, ↓cp_1_4b, ↓cp_1_6b, ↓cp_1_7b, ↓cp_14_0b, ↓cp_14_2b, ↓cp_14_4b, ↓cp_14_5b, ↓cp_14_6b, ↓cp_14_7b, ↓cp_14_8b, ↓cp_14_9b, ↓cp_14_10b, ↓cp_14_11b, ↓cp_14_12b, ↓cp_14_13b, ↓cp_17_1b, ↓cp_19_1b, ↓cp_21_1b, ↓cu_4b, ↓cu_15b, ↓cn_15b, ↓cm_15b, ↓cu_16b, ↓cn_16b, ↓cm_16b, ↓cu_18b, ↓cu_20b, ↓cu_22b, ↓cu_9b, ↓cl_15b, ↓cl_16b, ↓cl_18b, ↓cl_20b, ↓cl_22b, ↓Option.bind_some, cO_1, cO_2, cO_14, cO_17, cO_19, cO_21, cR_1_0, cR_1_1, cR_1_2, cR_1_3, cR_2_0, cR_2_1, cR_2_2, cR_2_3, cR_2_4, cR_2_5, cR_2_6, cR_2_7, cR_14_14, cR_14_15, cR_14_16, cR_14_17, cR_17_0, cR_19_0, cR_21_0, cA_11, cA_12, cg_1_4, cg_1_5, cg_1_6, cg_1_7, cg_14_0, cg_14_1, cg_14_2, cg_14_3, cg_14_4, cg_14_5, cg_14_6, cg_14_7, cg_14_8, cg_14_9, cg_14_10, cg_14_11, cg_14_12, cg_14_13, cg_17_1, cg_19_1, cg_21_1, ca_3, ca_4, ca_5, ca_6, ca_9, ca_15, ca_16, ca_18, ca_20, ca_22, ca_13, ca_7, ca_8, cp_1_4, cp_1_6, cp_1_7, cp_14_0, cp_14_2, cp_14_4, cp_14_5, cp_14_6, cp_14_7, cp_14_8, cp_14_9, cp_14_10, cp_14_11, cp_14_12, cp_14_13, cp_17_1, cp_19_1, cp_21_1, cu_4, cu_15, cn_15, cm_15, cu_16, cn_16, cm_16, cu_18, cu_20, cu_22, cu_9, cl_15, cl_16, cl_18, cl_20, cl_22, Option.bind_some, kl_0, kl_1, kl_2, kl_3, kl_4, kl_5, kl_6, kl_7, kl_8, kl_10, kl_13, kl_14, kl_15, kl_16, kl_24, kl_25, kl_26, kl_31, kl_32, kl_36, kl_40, kl_62, kl_99, kl_100, kl_255, kl_400, kl_992, kl_1023, kl_1024, kl_1984, kl_9200, kl_4600, kl_48, kl_57, kl_97, kl_122, kl_32767, nI_add, pk_mul, hff, had, K_makes, D_setWord, hmk, sA_1, sW_1, Nat.not_lt_zero, if_true, if_false, not_true, not_false_iff, and_true, true_and, and_false, false_and, Bool.false_eq_true, reduceCtorEq, Nat.reduceEqDiff]
theorem qFree_new {t : xS} {c p : Nat} (hp : p < 32) (h0 : 0 < qPer t c) (h62 : qPer t c ≤ 62) : qFreeIn (sNew t c p) p = 62 * p := by
  have e13 : (sNew t c p).1 13 p = c := sNew_13
  have eP : qPer (sNew t c p) = qPer t := by
    funext x; unfold qPer; rw [sNew_0 (by decide) (by decide) (by decide) (by decide)]
  have e17 : (sNew t c p).1 17 (62 * p + 0) = 0 := by
    rw [sNew_b, sA_1, if_neg (by simp), sNb_1, if_pos ⟨rfl, by omega, by omega⟩]
  have hK : qFreeK (sNew t c p) p = 0 := by
    unfold qFreeK
    rw [e13, eP]
    exact fF_eq h0 (by simp only [e17]; rfl) (fun k hk => by omega)
  unfold qFreeIn
  rw [hK, e13, eP, if_pos h0]; rfl
theorem D_takeFree {b : Nat} {t : xS} {Y : xMem} {c : Nat} (hW : XW Y) (hb : b < 3) (hR : WR0 t) (hc : c < t.1 19 0) : fD_takeFree (cM b t Y) (1, b, 0) (nI c) (some (14, b, c)) = some (en 1984 m1 (sOut t c).1, cM b (sOut t c).2 Y) := by
  have hn := hR.n
  have hi : c < 4 := by omega
  have hq := hR.c hc
  have h62 := qPer_62 (s := t) (c := c) hq.2.1
  have h0 : 0 < qPer t c := by
    unfold qPer; exact Nat.div_pos (by omega) (by omega)
  unfold fD_takeFree sOut
  simp (disch := first | assumption | omega | decide | with_unfolding_all exact hW) only [↓km1, ↓cO_1b, ↓cO_2b, ↓cO_14b, ↓cO_17b, ↓cO_19b, ↓cO_21b, ↓cR_1_0b, ↓cR_1_1b, ↓cR_1_2b, ↓cR_1_3b, ↓cR_2_0b, ↓cR_2_1b, ↓cR_2_2b, ↓cR_2_3b, ↓cR_2_4b, ↓cR_2_5b, ↓cR_2_6b, ↓cR_2_7b, ↓cR_14_14b, ↓cR_14_15b, ↓cR_14_16b, ↓cR_14_17b, ↓cR_17_0b, ↓cR_19_0b, ↓cR_21_0b, ↓cA_11b, ↓cA_12b, ↓cg_1_4b, ↓cg_1_5b, ↓cg_1_6b, ↓cg_1_7b, ↓cg_14_0b, ↓cg_14_1b, ↓cg_14_2b, ↓cg_14_3b, ↓cg_14_4b, ↓cg_14_5b, ↓cg_14_6b, ↓cg_14_7b, ↓cg_14_8b, ↓cg_14_9b, ↓cg_14_10b, ↓cg_14_11b, ↓cg_14_12b, ↓cg_14_13b, ↓cg_17_1b, ↓cg_19_1b, ↓cg_21_1b, ↓ca_3b, ↓ca_4b, ↓ca_5b, ↓ca_6b, ↓ca_9b, ↓ca_15b, ↓ca_16b, ↓ca_18b, ↓ca_20b, ↓ca_22b, ↓ca_13b, ↓ca_7b, ↓ca_8b, ↓cp_1_4b, ↓cp_1_6b, ↓cp_1_7b, ↓cp_14_0b, ↓cp_14_2b, ↓cp_14_4b, ↓cp_14_5b, ↓cp_14_6b, ↓cp_14_7b, ↓cp_14_8b, ↓cp_14_9b, ↓cp_14_10b, ↓cp_14_11b, ↓cp_14_12b, ↓cp_14_13b, ↓cp_17_1b, ↓cp_19_1b, ↓cp_21_1b, ↓cu_4b, ↓cu_15b, ↓cn_15b, ↓cm_15b, ↓cu_16b, ↓cn_16b, ↓cm_16b, ↓cu_18b, ↓cu_20b, ↓cu_22b, ↓cu_9b, ↓cl_15b, ↓cl_16b, ↓cl_18b, ↓cl_20b, ↓cl_22b, ↓Option.bind_some, cO_1, cO_2, cO_14, cO_17, cO_19, cO_21, cR_1_0, cR_1_1, cR_1_2, cR_1_3, cR_2_0, cR_2_1, cR_2_2, cR_2_3, cR_2_4, cR_2_5, cR_2_6, cR_2_7, cR_14_14, cR_14_15, cR_14_16, cR_14_17, cR_17_0, cR_19_0, cR_21_0, cA_11, cA_12, cg_1_4, cg_1_5, cg_1_6, cg_1_7, cg_14_0, cg_14_1, cg_14_2, cg_14_3, cg_14_4, cg_14_5, cg_14_6, cg_14_7, cg_14_8, cg_14_9, cg_14_10, cg_14_11, cg_14_12, cg_14_13, cg_17_1, cg_19_1, cg_21_1, ca_3, ca_4, ca_5, ca_6, ca_9, ca_15, ca_16, ca_18, ca_20, ca_22, ca_13, ca_7, ca_8, cp_1_4, cp_1_6, cp_1_7, cp_14_0, cp_14_2, cp_14_4, cp_14_5, cp_14_6, cp_14_7, cp_14_8, cp_14_9, cp_14_10, cp_14_11, cp_14_12, cp_14_13, cp_17_1, cp_19_1, cp_21_1, cu_4, cu_15, cn_15, cm_15, cu_16, cn_16, cm_16, cu_18, cu_20, cu_22, cu_9, cl_15, cl_16, cl_18, cl_20, cl_22, Option.bind_some, kl_0, kl_1, kl_2, kl_3, kl_4, kl_5, kl_6, kl_7, kl_8, kl_10, kl_13, kl_14, kl_15, kl_16, kl_24, kl_25, kl_26, kl_31, kl_32, kl_36, kl_40, kl_62, kl_99, kl_100, kl_255, kl_400, kl_992, kl_1023, kl_1024, kl_1984, kl_9200, kl_4600, kl_48, kl_57, kl_97, kl_122, kl_32767, nI_add, pk_mul, D_firstPage, en_m1]
  by_cases h : qFirst t c < 1984
  · obtain ⟨a1, a2, a3, a4, a5⟩ := qFirst_ok hR hi h
    have e1 : qFirst t c = qFreeIn t (qFirstP t c) := if_pos a1
    rw [if_neg (fun q => q a1), if_pos h, en_lt a1]
    dsimp only
    rw [D_tf35 hW hb hi a1 a2 h62 (by omega) (by rw [← e1]; exact h) (by rw [← e1]; exact ⟨a3, a4⟩), ← e1, en_lt h]
  · have h1 : ¬ qFirstP t c < 32 := fun a1 => by
      have h2 := fF_yes (P := fun p => t.1 13 p == c && decide (qFreeIn t p < 1984)) (d := 32) (i := 0) (by unfold qFirstP at a1; omega)
      have h3 := (Bool.and_eq_true_iff.mp h2).2
      exact h (by unfold qFirst; rw [if_pos a1]; exact of_decide_eq_true h3)
    rw [if_pos h1, if_neg h, D_beginSlab hW hb hi h62, Option.bind_some]
    by_cases h2 : qPage t < 32
    · rw [if_pos h2, if_pos h2]
      have e10 : (sNb t c (qPage t)).1 10 = t.1 10 := sNb_q (by decide) (by decide) (by decide)
      have e1 : (sNb t c (qPage t)).1 1 = t.1 1 := sNb_q (by decide) (by decide) (by decide)
      have e2 : (sNb t c (qPage t)).1 2 = t.1 2 := sNb_q (by decide) (by decide) (by decide)
      have eC : qCol (sNb t c (qPage t)) c = qCol t c := by unfold qCol; rw [e10, e1, e2, sNb_per]
      have hmc := D_moveColour (b := b) (t := sNb t c (qPage t)) (Y := Y) hW hb hi (by rw [e10, sNb_per, e1]; exact hq.2.2.2.2.2.2.1) (by rw [e2]; exact hq.2.2.2.1)
      rw [eC, ← sNew_b] at hmc
      have hfn := qFree_new (t := t) (c := c) h2 h0 h62
      have eP : qPer (sNew t c (qPage t)) = qPer t := by
        funext x; unfold qPer; rw [sNew_0 (by decide) (by decide) (by decide) (by decide)]
      have h35 := D_tf35 (b := b) (t := sNew t c (qPage t)) (Y := Y) hW hb hi h2 sNew_13 (by rw [eP]; exact h62) (by rw [sNew_0 (by decide) (by decide) (by decide) (by decide)]; omega) (by rw [hfn]; omega) (by rw [hfn, eP]; omega)
      rw [hfn] at h35
      simp (disch := first | assumption | omega | decide | with_unfolding_all exact hW) only [en_lt h2, ↓km1, nI_m1, en_m1, m1_lt0, m1_eq, m1_0, nI_00, nI_10, nI_0le, nI_n0, Nat.not_lt_zero, if_true, if_false, not_true, not_false_iff, and_true, true_and, and_false, false_and, Bool.false_eq_true, reduceCtorEq, ↓km1, ↓cO_1b, ↓cO_2b, ↓cO_14b, ↓cO_17b, ↓cO_19b, ↓cO_21b, ↓cR_1_0b, ↓cR_1_1b, ↓cR_1_2b, ↓cR_1_3b, ↓cR_2_0b, ↓cR_2_1b, ↓cR_2_2b, ↓cR_2_3b, ↓cR_2_4b, ↓cR_2_5b, ↓cR_2_6b, ↓cR_2_7b, ↓cR_14_14b, ↓cR_14_15b, ↓cR_14_16b, ↓cR_14_17b, ↓cR_17_0b, ↓cR_19_0b, ↓cR_21_0b, ↓cA_11b, ↓cA_12b, ↓cg_1_4b, ↓cg_1_5b, ↓cg_1_6b, ↓cg_1_7b, ↓cg_14_0b, ↓cg_14_1b, ↓cg_14_2b, ↓cg_14_3b, ↓cg_14_4b, ↓cg_14_5b, ↓cg_14_6b, ↓cg_14_7b, ↓cg_14_8b, ↓cg_14_9b, ↓cg_14_10b, ↓cg_14_11b, ↓cg_14_12b, ↓cg_14_13b, ↓cg_17_1b, ↓cg_19_1b, ↓cg_21_1b, ↓ca_3b, ↓ca_4b, ↓ca_5b, ↓ca_6b, ↓ca_9b, ↓ca_15b, ↓ca_16b, ↓ca_18b, ↓ca_20b, ↓ca_22b, ↓ca_13b, ↓ca_7b, ↓ca_8b, ↓cp_1_4b, ↓cp_1_6b, ↓cp_1_7b, ↓cp_14_0b, ↓cp_14_2b, ↓cp_14_4b, ↓cp_14_5b, ↓cp_14_6b, ↓cp_14_7b, ↓cp_14_8b, ↓cp_14_9b, ↓cp_14_10b, ↓cp_14_11b, ↓cp_14_12b, ↓cp_14_13b, ↓cp_17_1b, ↓cp_19_1b, ↓cp_21_1b, ↓cu_4b, ↓cu_15b, ↓cn_15b, ↓cm_15b, ↓cu_16b, ↓cn_16b, ↓cm_16b, ↓cu_18b, ↓cu_20b, ↓cu_22b, ↓cu_9b, ↓cl_15b, ↓cl_16b, ↓cl_18b, ↓cl_20b, ↓cl_22b, ↓Option.bind_some, cO_1, cO_2, cO_14, cO_17, cO_19, cO_21, cR_1_0, cR_1_1, cR_1_2, cR_1_3, cR_2_0, cR_2_1, cR_2_2, cR_2_3, cR_2_4, cR_2_5, cR_2_6, cR_2_7, cR_14_14, cR_14_15, cR_14_16, cR_14_17, cR_17_0, cR_19_0, cR_21_0, cA_11, cA_12, cg_1_4, cg_1_5, cg_1_6, cg_1_7, cg_14_0, cg_14_1, cg_14_2, cg_14_3, cg_14_4, cg_14_5, cg_14_6, cg_14_7, cg_14_8, cg_14_9, cg_14_10, cg_14_11, cg_14_12, cg_14_13, cg_17_1, cg_19_1, cg_21_1, ca_3, ca_4, ca_5, ca_6, ca_9, ca_15, ca_16, ca_18, ca_20, ca_22, ca_13, ca_7, ca_8, cp_1_4, cp_1_6, cp_1_7, cp_14_0, cp_14_2, cp_14_4, cp_14_5, cp_14_6, cp_14_7, cp_14_8, cp_14_9, cp_14_10, cp_14_11, cp_14_12, cp_14_13, cp_17_1, cp_19_1, cp_21_1, cu_4, cu_15, cn_15, cm_15, cu_16, cn_16, cm_16, cu_18, cu_20, cu_22, cu_9, cl_15, cl_16, cl_18, cl_20, cl_22, Option.bind_some, kl_0, kl_1, kl_2, kl_3, kl_4, kl_5, kl_6, kl_7, kl_8, kl_10, kl_13, kl_14, kl_15, kl_16, kl_24, kl_25, kl_26, kl_31, kl_32, kl_36, kl_40, kl_62, kl_99, kl_100, kl_255, kl_400, kl_992, kl_1023, kl_1024, kl_1984, kl_9200, kl_4600, kl_48, kl_57, kl_97, kl_122, kl_32767, nI_add, pk_mul, hmc, h35]
      rw [en_lt (by omega)]
    · rw [if_neg h2, if_neg h2]
      simp (disch := first | assumption | omega | decide | with_unfolding_all exact hW) only [en_ge h2, ↓km1, nI_m1, en_m1, m1_lt0, m1_eq, m1_0, nI_00, nI_10, nI_0le, nI_n0, Nat.not_lt_zero, if_true, if_false, not_true, not_false_iff, and_true, true_and, and_false, false_and, Bool.false_eq_true, reduceCtorEq]
      rw [en_ge (by omega)]
