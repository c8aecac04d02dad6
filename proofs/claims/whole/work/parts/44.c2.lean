/-! the class's methods that write more than one cell for one place of the state -/
theorem cM_ext {b : Nat} {t' : xS} {Y M : xMem} (h1 : ∀ κ i k v, cI t' κ i k = some v → M.1 (κ, b, i) k = v) (h2 : ∀ κ b' i k, (b' ≠ b ∨ cI t' κ i k = none) → M.1 (κ, b', i) k = Y.1 (κ, b', i) k)
    (h3 : ∀ κ i k v, cL t' κ i k = some v → M.2.1 (κ, b, i) k = v) (h4 : ∀ κ b' i k, (b' ≠ b ∨ cL t' κ i k = none) → M.2.1 (κ, b', i) k = Y.2.1 (κ, b', i) k) (h5 : M.2.2 = Y.2.2) : M = cM b t' Y := by
  refine Prod.ext ?_ (Prod.ext ?_ h5)
  · funext a k
    obtain ⟨κ, b', i⟩ := a
    by_cases hb : b' = b
    · subst hb
      cases h : cI t' κ i k with
      | some v => rw [h1 κ i k v h, cM_r h]
      | none => rw [h2 κ b' i k (Or.inr h), cM_o (Or.inr h)]
    · rw [h2 κ b' i k (Or.inl hb), cM_o (Or.inl hb)]
  · funext a k
    obtain ⟨κ, b', i⟩ := a
    by_cases hb : b' = b
    · subst hb
      cases h : cL t' κ i k with
      | some v => rw [h3 κ i k v h, cM_rL h]
      | none => rw [h4 κ b' i k (Or.inr h), cM_oL (Or.inr h)]
    · rw [h4 κ b' i k (Or.inl hb), cM_oL (Or.inl hb)]
theorem cT_q {κ i k q j e : Nat} (h : cT κ i k = some (q, j, e)) : q ≠ 17 ∧ q ≠ 26 := by
  unfold cT at h
  split at h <;> (repeat' split at h) <;> first
    | (cases h; done)
    | (simp only [Option.some.injEq, Prod.mk.injEq] at h
       omega)
theorem cI_agree {t t' : xS} {κ i k : Nat} (h1 : ∀ q j e, cT κ i k = some (q, j, e) → t'.1 q j = t.1 q j) (h2 : cT κ i k = none → cD t' κ i k = cD t κ i k) : cI t' κ i k = cI t κ i k := by
  cases h : cT κ i k with
  | none => rw [cI_D h, cI_D h, h2 h]
  | some r => obtain ⟨q, j, e⟩ := r; rw [cI_T h, cI_T h, h1 q j e h]
/-- states that differ in places of the arena alone -/
theorem cI_17 {t : xS} {x v κ i k : Nat} : cI (sA t 17 x v) κ i k = cI t κ i k :=
  cI_agree (fun q j e h => by rw [sA_1, if_neg (fun e => (cT_q h).1 e.1)]) (fun _ => cD_c ⟨by decide, by decide, by decide, by decide⟩)
theorem cL_17 {t : xS} {x v κ i k : Nat} (h : ¬ ((κ = 7 ∨ κ = 8) ∧ i = 0 ∧ k = x / 62)) : cL (sA t 17 x v) κ i k = cL t κ i k := by
  have key : ∀ u, k ≠ x / 62 → msk (fB (sA t 17 x v) u k) 62 = msk (fB t u k) 62 := fun u hk => msk_cong (fun j hj => by
    unfold fB
    rw [qPers_c ⟨by decide, by decide⟩, sA_1, if_neg (by omega)])
  unfold cL
  split
  · by_cases h0 : i = 0 ∧ k < 32
    · rw [if_pos h0, if_pos h0, key 0 (fun e => h ⟨Or.inl rfl, h0.1, e⟩)]
    · rw [if_neg h0, if_neg h0]
  · by_cases h0 : i = 0 ∧ k < 32
    · rw [if_pos h0, if_pos h0, key 1 (fun e => h ⟨Or.inr rfl, h0.1, e⟩)]
    · rw [if_neg h0, if_neg h0]
  · rfl
  · rfl
theorem fB_17 {t : xS} {x v u j : Nat} (hv : x % 62 < qPers t (x / 62)) (hj : j < 62) : fB (sA t 17 x v) u (x / 62) j = if j = x % 62 then v == u else fB t u (x / 62) j := by
  unfold fB
  rw [qPers_c ⟨by decide, by decide⟩, sA_1]
  by_cases h : j = x % 62
  · rw [if_pos h, if_pos ⟨rfl, by rw [h]; exact Nat.div_add_mod x 62⟩, h, decide_eq_true hv, Bool.true_and]
  · rw [if_neg h, if_neg (fun e => h (by omega))]
theorem cM_mark {b : Nat} {t : xS} {Y : xMem} {x v : Nat} {f0 f1 : Nat → Bool} (hx : x < 1984) (hv : x % 62 < qPers t (x / 62)) (h0 : ∀ j, j < 62 → f0 j = if j = x % 62 then v == 0 else fB t 0 (x / 62) j) (h1 : ∀ j, j < 62 → f1 j = if j = x % 62 then v == 1 else fB t 1 (x / 62) j) :
    xsl (xsl (cM b t Y) (7, b, 0) (x / 62) (lN (msk f0 62))) (8, b, 0) (x / 62) (lN (msk f1 62)) = cM b (sA t 17 x v) Y := by
  have e0 : msk f0 62 = msk (fB (sA t 17 x v) 0 (x / 62)) 62 := msk_cong (fun j hj => by rw [h0 j hj, fB_17 hv hj])
  have e1 : msk f1 62 = msk (fB (sA t 17 x v) 1 (x / 62)) 62 := msk_cong (fun j hj => by rw [h1 j hj, fB_17 hv hj])
  have hp : x / 62 < 32 := by omega
  rw [e0, e1]
  refine cM_ext (fun κ i k w h => ?_) (fun κ b' i k h => ?_) (fun κ i k w h => ?_) (fun κ b' i k h => ?_) rfl
  · rw [cI_17] at h; exact cM_r h
  · rw [cI_17] at h; exact cM_o h
  · rw [xsl_2, xsl_2]
    by_cases a8 : κ = 8 ∧ i = 0 ∧ k = x / 62
    · obtain ⟨rfl, rfl, rfl⟩ := a8
      rw [if_pos ⟨rfl, rfl⟩]
      exact Option.some.inj ((if_pos ⟨rfl, hp⟩).symm.trans h)
    · rw [if_neg (fun e => a8 ⟨(Prod.mk.inj e.1).1, (Prod.mk.inj (Prod.mk.inj e.1).2).2, e.2⟩)]
      by_cases a7 : κ = 7 ∧ i = 0 ∧ k = x / 62
      · obtain ⟨rfl, rfl, rfl⟩ := a7
        rw [if_pos ⟨rfl, rfl⟩]
        exact Option.some.inj ((if_pos ⟨rfl, hp⟩).symm.trans h)
      · rw [if_neg (fun e => a7 ⟨(Prod.mk.inj e.1).1, (Prod.mk.inj (Prod.mk.inj e.1).2).2, e.2⟩)]
        rw [cL_17 (fun e => by
          rcases e.1 with e1 | e1
          · exact a7 ⟨e1, e.2⟩
          · exact a8 ⟨e1, e.2⟩)] at h
        exact cM_rL h
  · have hne : ∀ κ', (κ' = 7 ∨ κ' = 8) → ¬ ((κ, b', i) = (κ', b, 0) ∧ k = x / 62) := by
      rintro κ' hκ ⟨e1, rfl⟩
      obtain ⟨rfl, e2⟩ := Prod.mk.inj e1
      obtain ⟨rfl, rfl⟩ := Prod.mk.inj e2
      rcases h with h | h
      · exact h rfl
      · rcases hκ with rfl | rfl
        · have : cL (sA t 17 x v) 7 0 (x / 62) = some _ := if_pos ⟨rfl, hp⟩
          rw [this] at h; cases h
        · have : cL (sA t 17 x v) 8 0 (x / 62) = some _ := if_pos ⟨rfl, hp⟩
          rw [this] at h; cases h
    rw [xsl_2, xsl_2, if_neg (hne 8 (Or.inr rfl)), if_neg (hne 7 (Or.inl rfl))]
    rcases h with h | h
    · exact cM_oL (Or.inl h)
    · refine cM_oL (Or.inr ?_)
      have := cL_dom (t := sA t 17 x v) (t' := t) (κ := κ) (i := i) (k := k)
      rw [h] at this
      cases hq : cL t κ i k with
      | none => rfl
      | some w => rw [hq] at this; cases this
theorem D_mark {b : Nat} {t : xS} {Y : xMem} {x v : Nat} (hW : XW Y) (hb : b < 3) (hx : x < 1984) (hp : x % 62 < qPers t (x / 62)) (hv : v ≤ 2) : fA_mark (cM b t Y) (2, b, 0) (nI x) (nI v) = some (cM b (sA t 17 x v) Y) := by
  have h62 : x % 62 < 62 := Nat.mod_lt _ (by decide)
  have hp32 : x / 62 < 32 := by omega
  have r5 : ∀ w, xgR (xsl (cM b t Y) (7, b, 0) (x / 62) w) (some (2, b, 0)) 0 5 = some (some (8, b, 0)) := fun w => (xgR_w (M := xsl (cM b t Y) (7, b, 0) (x / 62) w) hW (sh_2 hb) (by decide) (by decide) rfl).trans rfl
  have r8 : ∀ w, xaL (xsl (cM b t Y) (7, b, 0) (x / 62) w) (some (8, b, 0)) (nI (x / 62)) = some (lN (msk (fB t 1 (x / 62)) 62)) := fun w => by
    rw [xaL_w (M := xsl (cM b t Y) (7, b, 0) (x / 62) w) hW (sh_8 hb) hp32 (by decide), xsl_2, if_neg (by simp)]
    exact congrArg some (cM_rL (if_pos ⟨rfl, hp32⟩))
  have w7 : ∀ w, xuL (cM b t Y) (some (7, b, 0)) (nI (x / 62)) w = some (xsl (cM b t Y) (7, b, 0) (x / 62) w) := fun w => xuL_w (M := cM b t Y) hW (sh_7 hb) hp32 (by decide)
  have w8 : ∀ u w, xuL (xsl (cM b t Y) (7, b, 0) (x / 62) u) (some (8, b, 0)) (nI (x / 62)) w = some (xsl (xsl (cM b t Y) (7, b, 0) (x / 62) u) (8, b, 0) (x / 62) w) := fun u w => xuL_w (M := xsl (cM b t Y) (7, b, 0) (x / 62) u) hW (sh_8 hb) hp32 (by decide)
  unfold fA_mark fA_mark_59 fA_mark_95
  simp (disch := first | assumption | omega | decide | with_unfolding_all exact hW) only [kl_0, kl_1, kl_2, kl_3, kl_4, kl_5, kl_6, kl_7, kl_8, kl_10, kl_13, kl_14, kl_15, kl_16, kl_24, kl_25, kl_26, kl_31, kl_32, kl_36, kl_40, kl_62, kl_99, kl_100, kl_255, kl_400, kl_992, kl_1023, kl_1024, kl_1984, kl_9200, kl_4600, kl_48, kl_57, kl_97, kl_122, kl_32767, ↓km1, nI_m1, en_m1, m1_lt0, m1_eq, m1_0, nI_00, nI_10, nI_0le, nI_n0, nI_ltI, nI_eq, pk_div, nI_remn, hx, mk_bit, Nat.not_lt_zero, if_true, if_false, not_true, not_false_iff, and_true, true_and, and_false, false_and, Bool.false_eq_true, reduceCtorEq]
  simp (disch := first | assumption | omega | decide | with_unfolding_all exact hW) only [↓km1, ↓cO_1b, ↓cO_2b, ↓cO_14b, ↓cO_17b, ↓cO_19b, ↓cO_21b, ↓cR_1_0b, ↓cR_1_1b, ↓cR_1_2b, ↓cR_1_3b, ↓cR_2_0b, ↓cR_2_1b, ↓cR_2_2b, ↓cR_2_3b, ↓cR_2_4b, ↓cR_2_5b, ↓cR_2_6b, ↓cR_2_7b, ↓cR_14_14b, ↓cR_14_15b, ↓cR_14_16b, ↓cR_14_17b, ↓cR_17_0b, ↓cR_19_0b, ↓cR_21_0b, ↓cA_11b, ↓cA_12b, ↓cg_1_4b, ↓cg_1_5b, ↓cg_1_6b, ↓cg_1_7b, ↓cg_14_0b, ↓cg_14_1b, ↓cg_14_2b, ↓cg_14_3b, ↓cg_14_4b, ↓cg_14_5b, ↓cg_14_6b, ↓cg_14_7b, ↓cg_14_8b, ↓cg_14_9b, ↓cg_14_10b, ↓cg_14_11b, ↓cg_14_12b, ↓cg_14_13b, ↓cg_17_1b, ↓cg_19_1b, ↓cg_21_1b, ↓ca_3b, ↓ca_4b, ↓ca_5b, ↓ca_6b, ↓ca_9b, ↓ca_15b, ↓ca_16b, ↓ca_18b, ↓ca_20b, ↓ca_22b, ↓ca_13b, ↓ca_7b, ↓ca_8b, ↓cp_1_4b, ↓cp_1_6b, ↓cp_1_7b, ↓cp_14_0b, ↓cp_14_2b, ↓cp_14_4b, ↓cp_14_5b, ↓cp_14_6b, ↓cp_14_7b, ↓cp_14_8b, ↓cp_14_9b, ↓cp_14_10b, ↓cp_14_11b, ↓cp_14_12b, ↓cp_14_13b, ↓cp_17_1b, ↓cp_19_1b, ↓cp_21_1b, ↓cu_4b, ↓cu_15b, ↓cn_15b, ↓cm_15b, ↓cu_16b, ↓cn_16b, ↓cm_16b, ↓cu_18b, ↓cu_20b, ↓cu_22b, ↓cu_9b, ↓cl_15b, ↓cl_16b, ↓cl_18b, ↓cl_20b, ↓cl_22b, ↓Option.bind_some, cO_1, cO_2, cO_14, cO_17, cO_19, cO_21, cR_1_0, cR_1_1, cR_1_2, cR_1_3, cR_2_0, cR_2_1, cR_2_2, cR_2_3, cR_2_4, cR_2_5, cR_2_6, cR_2_7, cR_14_14, cR_14_15, cR_14_16, cR_14_17, cR_17_0, cR_19_0, cR_21_0, cA_11, cA_12, cg_1_4, cg_1_5, cg_1_6, cg_1_7, cg_14_0, cg_14_1, cg_14_2, cg_14_3, cg_14_4, cg_14_5, cg_14_6, cg_14_7, cg_14_8, cg_14_9, cg_14_10, cg_14_11, cg_14_12, cg_14_13, cg_17_1, cg_19_1, cg_21_1, ca_3, ca_4, ca_5, ca_6, ca_9, ca_15, ca_16, ca_18, ca_20, ca_22, ca_13, ca_7, ca_8, cp_1_4, cp_1_6, cp_1_7, cp_14_0, cp_14_2, cp_14_4, cp_14_5, cp_14_6, cp_14_7, cp_14_8, cp_14_9, cp_14_10, cp_14_11, cp_14_12, cp_14_13, cp_17_1, cp_19_1, cp_21_1, cu_4, cu_15, cn_15, cm_15, cu_16, cn_16, cm_16, cu_18, cu_20, cu_22, cu_9, cl_15, cl_16, cl_18, cl_20, cl_22, Option.bind_some, kl_0, kl_1, kl_2, kl_3, kl_4, kl_5, kl_6, kl_7, kl_8, kl_10, kl_13, kl_14, kl_15, kl_16, kl_24, kl_25, kl_26, kl_31, kl_32, kl_36, kl_40, kl_62, kl_99, kl_100, kl_255, kl_400, kl_992, kl_1023, kl_1024, kl_1984, kl_9200, kl_4600, kl_48, kl_57, kl_97, kl_122, kl_32767, nI_add, pk_mul, nI_remn, mk_bit]
  rcases (by omega : v = 0 ∨ v = 1 ∨ v = 2) with rfl | rfl | rfl
  · simp (disch := first | assumption | omega | decide | with_unfolding_all exact hW) only [w7, r5, r8, w8, Option.bind_some, mk_or, mk_off, Nat.not_lt_zero, if_true, if_false, not_true, not_false_iff, and_true, true_and, and_false, false_and, Bool.false_eq_true, reduceCtorEq, Nat.reduceEqDiff]
    refine congrArg some (cM_mark hx hp (fun j hj => ?_) (fun j hj => ?_))
    · by_cases h : j = x % 62 <;> simp [h]
    · by_cases h : j = x % 62 <;> simp [h]
  · simp (disch := first | assumption | omega | decide | with_unfolding_all exact hW) only [w7, r5, r8, w8, Option.bind_some, mk_or, mk_off, Nat.not_lt_zero, if_true, if_false, not_true, not_false_iff, and_true, true_and, and_false, false_and, Bool.false_eq_true, reduceCtorEq, Nat.reduceEqDiff]
    refine congrArg some (cM_mark hx hp (fun j hj => ?_) (fun j hj => ?_))
    · by_cases h : j = x % 62 <;> simp [h]
    · by_cases h : j = x % 62 <;> simp [h]
  · simp (disch := first | assumption | omega | decide | with_unfolding_all exact hW) only [w7, r5, r8, w8, Option.bind_some, mk_or, mk_off, Nat.not_lt_zero, if_true, if_false, not_true, not_false_iff, and_true, true_and, and_false, false_and, Bool.false_eq_true, reduceCtorEq, Nat.reduceEqDiff]
    refine congrArg some (cM_mark hx hp (fun j hj => ?_) (fun j hj => ?_))
    · by_cases h : j = x % 62 <;> simp [h]
    · by_cases h : j = x % 62 <;> simp [h]
theorem D_endBuffer {b : Nat} {t : xS} {Y : xMem} {x c : Nat} (hW : XW Y) (hb : b < 3) (hx : x < 1984) (hp : x % 62 < qPers t (x / 62)) (hc : t.1 13 (x / 62) = c) (hi : c < 4) (hk : t.1 0 c < 2 ^ 31) : fD_endBuffer (cM b t Y) (1, b, 0) (some (14, b, c)) (nI x) = some (cM b (sEnd t x) Y) := by
  unfold fD_endBuffer sEnd
  rw [hc]
  simp (disch := first | assumption | omega | decide | with_unfolding_all exact hW) only [↓km1, ↓cO_1b, ↓cO_2b, ↓cO_14b, ↓cO_17b, ↓cO_19b, ↓cO_21b, ↓cR_1_0b, ↓cR_1_1b, ↓cR_1_2b, ↓cR_1_3b, ↓cR_2_0b, ↓cR_2_1b, ↓cR_2_2b, ↓cR_2_3b, ↓cR_2_4b, ↓cR_2_5b, ↓cR_2_6b, ↓cR_2_7b, ↓cR_14_14b, ↓cR_14_15b, ↓cR_14_16b, ↓cR_14_17b, ↓cR_17_0b, ↓cR_19_0b, ↓cR_21_0b, ↓cA_11b, ↓cA_12b, ↓cg_1_4b, ↓cg_1_5b, ↓cg_1_6b, ↓cg_1_7b, ↓cg_14_0b, ↓cg_14_1b, ↓cg_14_2b, ↓cg_14_3b, ↓cg_14_4b, ↓cg_14_5b, ↓cg_14_6b, ↓cg_14_7b, ↓cg_14_8b, ↓cg_14_9b, ↓cg_14_10b, ↓cg_14_11b, ↓cg_14_12b, ↓cg_14_13b, ↓cg_17_1b, ↓cg_19_1b, ↓cg_21_1b, ↓ca_3b, ↓ca_4b, ↓ca_5b, ↓ca_6b, ↓ca_9b, ↓ca_15b, ↓ca_16b, ↓ca_18b, ↓ca_20b, ↓ca_22b, ↓ca_13b, ↓ca_7b, ↓ca_8b, ↓cp_1_4b, ↓cp_1_6b, ↓cp_1_7b, ↓cp_14_0b, ↓cp_14_2b, ↓cp_14_4b, ↓cp_14_5b, ↓cp_14_6b, ↓cp_14_7b, ↓cp_14_8b, ↓cp_14_9b, ↓cp_14_10b, ↓cp_14_11b, ↓cp_14_12b, ↓cp_14_13b, ↓cp_17_1b, ↓cp_19_1b, ↓cp_21_1b, ↓cu_4b, ↓cu_15b, ↓cn_15b, ↓cm_15b, ↓cu_16b, ↓cn_16b, ↓cm_16b, ↓cu_18b, ↓cu_20b, ↓cu_22b, ↓cu_9b, ↓cl_15b, ↓cl_16b, ↓cl_18b, ↓cl_20b, ↓cl_22b, ↓Option.bind_some, cO_1, cO_2, cO_14, cO_17, cO_19, cO_21, cR_1_0, cR_1_1, cR_1_2, cR_1_3, cR_2_0, cR_2_1, cR_2_2, cR_2_3, cR_2_4, cR_2_5, cR_2_6, cR_2_7, cR_14_14, cR_14_15, cR_14_16, cR_14_17, cR_17_0, cR_19_0, cR_21_0, cA_11, cA_12, cg_1_4, cg_1_5, cg_1_6, cg_1_7, cg_14_0, cg_14_1, cg_14_2, cg_14_3, cg_14_4, cg_14_5, cg_14_6, cg_14_7, cg_14_8, cg_14_9, cg_14_10, cg_14_11, cg_14_12, cg_14_13, cg_17_1, cg_19_1, cg_21_1, ca_3, ca_4, ca_5, ca_6, ca_9, ca_15, ca_16, ca_18, ca_20, ca_22, ca_13, ca_7, ca_8, cp_1_4, cp_1_6, cp_1_7, cp_14_0, cp_14_2, cp_14_4, cp_14_5, cp_14_6, cp_14_7, cp_14_8, cp_14_9, cp_14_10, cp_14_11, cp_14_12, cp_14_13, cp_17_1, cp_19_1, cp_21_1, cu_4, cu_15, cn_15, cm_15, cu_16, cn_16, cm_16, cu_18, cu_20, cu_22, cu_9, cl_15, cl_16, cl_18, cl_20, cl_22, Option.bind_some, kl_0, kl_1, kl_2, kl_3, kl_4, kl_5, kl_6, kl_7, kl_8, kl_10, kl_13, kl_14, kl_15, kl_16, kl_24, kl_25, kl_26, kl_31, kl_32, kl_36, kl_40, kl_62, kl_99, kl_100, kl_255, kl_400, kl_992, kl_1023, kl_1024, kl_1984, kl_9200, kl_4600, kl_48, kl_57, kl_97, kl_122, kl_32767, nI_add, pk_mul, D_wordAt, K_ends, sT_1]
  rw [D_mark hW hb hx (by rw [qPers_c ⟨by decide, by decide⟩]; exact hp) (by decide), Option.bind_some, sA_comm (by decide)]
theorem qSum_upd {f : Nat → Nat} {m v : Nat} : ∀ {d i : Nat}, i ≤ m → m < i + d → qSum (fun k => if k = m then v else f k) d i + f m = qSum f d i + v := by
  have out : ∀ {d i : Nat}, m < i → qSum (fun k => if k = m then v else f k) d i = qSum f d i := by
    intro d
    induction d with
    | zero => intro i _; rfl
    | succ d ih =>
      intro i h
      show (if i = m then v else f i) + qSum _ d (i + 1) = f i + qSum f d (i + 1)
      rw [if_neg (by omega), ih (by omega)]
  intro d
  induction d with
  | zero => intro i h1 h2; omega
  | succ d ih =>
    intro i h1 h2
    show (if i = m then v else f i) + qSum _ d (i + 1) + f m = f i + qSum f d (i + 1) + v
    by_cases h : i = m
    · subst h
      rw [if_pos rfl, out (by omega)]; omega
    · rw [if_neg h]
      have := @ih (i + 1) (by omega) (by omega)
      omega
theorem qMade_u {t : xS} {m v : Nat} (hm : m < 24) : qMade (sA t 18 m v) + t.1 18 m = qMade t + v := by
  unfold qMade
  have e : (sA t 18 m v).1 18 = fun k => if k = m then v else t.1 18 k := by
    funext k
    rw [sA_1]
    by_cases h : k = m
    · rw [if_pos ⟨rfl, h⟩, if_pos h]
    · rw [if_neg (fun e => h e.2), if_neg h]
  rw [e]
  exact qSum_upd (Nat.zero_le _) (by omega)
theorem xsi_comm {M : xMem} {a a' : xId} {k k' : Nat} {v v' : Int32} (h : a ≠ a' ∨ k ≠ k') : xsi (xsi M a k v) a' k' v' = xsi (xsi M a' k' v') a k v := by
  refine Prod.ext ?_ rfl
  funext x j
  rw [xsi_1, xsi_1, xsi_1, xsi_1]
  by_cases h1 : x = a' ∧ j = k'
  · rw [if_pos h1, if_neg (fun e => ?_), if_pos h1]
    rcases h with h | h
    · exact h (e.1.symm.trans h1.1)
    · exact h (e.2.symm.trans h1.2)
  · rw [if_neg h1, if_neg h1]
theorem cM_18 {b : Nat} {t : xS} {Y : xMem} {m v : Nat} (hm : m < 24) : xsi (xsi (cM b t Y) (13, b, 0) m (nI v)) (1, b, 0) 5 (nI (qMade (sA t 18 m v))) = cM b (sA t 18 m v) Y := by
  have hT : cT 13 0 m = some (18, m, 0) := if_pos ⟨rfl, hm⟩
  have same : ∀ κ i k, ¬ (κ = 13 ∧ i = 0 ∧ k = m) → ¬ (κ = 1 ∧ i = 0 ∧ k = 5) → cI (sA t 18 m v) κ i k = cI t κ i k := fun κ i k h1 h2 => by
    refine cI_agree (fun q j e h => ?_) (fun _ => ?_)
    · rw [sA_1, if_neg]
      rintro ⟨rfl, rfl⟩
      have h3 := cT_V h
      rw [cT_V hT] at h3
      simp only [Prod.mk.injEq] at h3
      exact h1 ⟨h3.1.symm, h3.2.1.symm, h3.2.2.symm⟩
    · unfold cD
      rw [qSz_c ⟨by decide, by decide, by decide⟩, qPers_c ⟨by decide, by decide⟩, qPer_c (by decide), sA_2]
      split
      · by_cases h3 : i = 0 ∧ k = 5
        · exact absurd ⟨rfl, h3⟩ h2
        · rw [if_neg h3, if_neg h3]
      all_goals rfl
  refine cM_ext (fun κ i k w h => ?_) (fun κ b' i k h => ?_) (fun κ i k w h => ?_) (fun κ b' i k h => ?_) rfl
  · rw [xsi_1, xsi_1]
    by_cases a1 : κ = 1 ∧ i = 0 ∧ k = 5
    · obtain ⟨rfl, rfl, rfl⟩ := a1
      rw [if_pos ⟨rfl, rfl⟩]
      exact Option.some.inj h
    · rw [if_neg (fun e => a1 ⟨(Prod.mk.inj e.1).1, (Prod.mk.inj (Prod.mk.inj e.1).2).2, e.2⟩)]
      by_cases a2 : κ = 13 ∧ i = 0 ∧ k = m
      · obtain ⟨rfl, rfl, rfl⟩ := a2
        rw [if_pos ⟨rfl, rfl⟩]
        rw [cI_T hT, sA_1, if_pos ⟨rfl, rfl⟩] at h
        exact Option.some.inj h
      · rw [if_neg (fun e => a2 ⟨(Prod.mk.inj e.1).1, (Prod.mk.inj (Prod.mk.inj e.1).2).2, e.2⟩)]
        rw [same κ i k a2 a1] at h
        exact cM_r h
  · have h18 : cI (sA t 18 m v) 13 0 m ≠ none := by rw [cI_T hT]; simp
    have h5 : cI (sA t 18 m v) 1 0 5 ≠ none := by
      have : cI (sA t 18 m v) 1 0 5 = some (nI (qMade (sA t 18 m v))) := rfl
      rw [this]; simp
    have e1 : ¬ ((κ, b', i) = (1, b, 0) ∧ k = 5) := by
      rintro ⟨e, rfl⟩
      obtain ⟨rfl, e'⟩ := Prod.mk.inj e
      obtain ⟨rfl, rfl⟩ := Prod.mk.inj e'
      exact h.elim (fun h => h rfl) h5
    have e2 : ¬ ((κ, b', i) = (13, b, 0) ∧ k = m) := by
      rintro ⟨e, rfl⟩
      obtain ⟨rfl, e'⟩ := Prod.mk.inj e
      obtain ⟨rfl, rfl⟩ := Prod.mk.inj e'
      exact h.elim (fun h => h rfl) h18
    rw [xsi_1, xsi_1, if_neg e1, if_neg e2]
    rcases h with h | h
    · exact cM_o (Or.inl h)
    · refine cM_o (Or.inr ?_)
      have := cI_dom (t := sA t 18 m v) (t' := t) (κ := κ) (i := i) (k := k)
      rw [h] at this
      cases hq : cI t κ i k with
      | none => rfl
      | some w => rw [hq] at this; cases this
  · rw [cL_c ⟨by decide, by decide, by decide⟩] at h; exact cM_rL h
  · rw [cL_c ⟨by decide, by decide, by decide⟩] at h; exact cM_oL h
theorem nar_1 : vp_nar .boolean (nI 1) = nI 1 := by decide
theorem nar_0 : vp_nar .boolean (nI 0) = nI 0 := by decide
theorem D_madeMem {b : Nat} {t : xS} {Y : xMem} {m : Nat} (hm : m < 24) (h0 : t.1 18 m = 0) : xsi (xsi (xsi (cM b t Y) (13, b, 0) m (nI 1)) (21, b, m) 1 (nI 0)) (1, b, 0) 5 (nI (qMade t + 1)) = cM b (sA (sA t 18 m 1) 20 m 0) Y := by
  have e := qMade_u (t := t) (m := m) (v := 1) hm
  rw [h0] at e
  have e2 : qMade t + 1 = qMade (sA t 18 m 1) := by rw [Nat.add_zero] at e; exact e.symm
  rw [xsi_comm (by simp), e2, cM_18 hm]
  exact cM_wT (e := 0) (if_pos ⟨hm, rfl⟩) ⟨by decide, by decide, by decide, by decide, by decide⟩
theorem D_makeMag {b : Nat} {t : xS} {Y : xMem} (hW : XW Y) (hb : b < 3) (hm : ∀ m, m < 24 → t.1 18 m ≤ 1) : fD_makeMagazine (cM b t Y) (1, b, 0) = some (en 24 m1 (qNew t), cM b (sMade t) Y) := by
  have key : ∀ e i n, i + e = 24 → e < n → fD_makeMagazine_2 n (cM b t Y) (some (1, b, 0)) (nI i) = some (en 24 m1 (fF (fun m => !(t.1 18 m == 1)) e i), cM b (if fF (fun m => !(t.1 18 m == 1)) e i < 24 then sA (sA t 18 (fF (fun m => !(t.1 18 m == 1)) e i) 1) 20 (fF (fun m => !(t.1 18 m == 1)) e i) 0 else t) Y) := by
    intro e
    induction e with
    | zero =>
      intro i n hi hn
      obtain ⟨n, rfl⟩ : ∃ m, n = m + 1 := ⟨n - 1, by omega⟩
      have h5 : 24 ≤ i := by omega
      have h6 : ¬ i < 24 := by omega
      simp (disch := first | assumption | omega | decide | with_unfolding_all exact hW) only [fD_makeMagazine_2, ↓km1, kl_0, kl_1, kl_2, kl_3, kl_4, kl_5, kl_6, kl_7, kl_8, kl_10, kl_13, kl_14, kl_15, kl_16, kl_24, kl_25, kl_26, kl_31, kl_32, kl_36, kl_40, kl_62, kl_99, kl_100, kl_255, kl_400, kl_992, kl_1023, kl_1024, kl_1984, kl_9200, kl_4600, kl_48, kl_57, kl_97, kl_122, kl_32767, nI_add, pk_mul, nI_leI, fF, h5, h6, Nat.not_lt_zero, if_true, if_false, not_true, not_false_iff, and_true, true_and, and_false, false_and, Bool.false_eq_true, reduceCtorEq]
      rw [en_ge h6]
    | succ e ih =>
      intro i n hi hn
      obtain ⟨n, rfl⟩ : ∃ m, n = m + 1 := ⟨n - 1, by omega⟩
      have h5 : ¬ 24 ≤ i := by omega
      have h6 : i < 24 := by omega
      have h7 := hm i (by omega)
      simp (disch := first | assumption | omega | decide | with_unfolding_all exact hW) only [fD_makeMagazine_2, ↓km1, ↓cO_1b, ↓cO_2b, ↓cO_14b, ↓cO_17b, ↓cO_19b, ↓cO_21b, ↓cR_1_0b, ↓cR_1_1b, ↓cR_1_2b, ↓cR_1_3b, ↓cR_2_0b, ↓cR_2_1b, ↓cR_2_2b, ↓cR_2_3b, ↓cR_2_4b, ↓cR_2_5b, ↓cR_2_6b, ↓cR_2_7b, ↓cR_14_14b, ↓cR_14_15b, ↓cR_14_16b, ↓cR_14_17b, ↓cR_17_0b, ↓cR_19_0b, ↓cR_21_0b, ↓cA_11b, ↓cA_12b, ↓cg_1_4b, ↓cg_1_5b, ↓cg_1_6b, ↓cg_1_7b, ↓cg_14_0b, ↓cg_14_1b, ↓cg_14_2b, ↓cg_14_3b, ↓cg_14_4b, ↓cg_14_5b, ↓cg_14_6b, ↓cg_14_7b, ↓cg_14_8b, ↓cg_14_9b, ↓cg_14_10b, ↓cg_14_11b, ↓cg_14_12b, ↓cg_14_13b, ↓cg_17_1b, ↓cg_19_1b, ↓cg_21_1b, ↓ca_3b, ↓ca_4b, ↓ca_5b, ↓ca_6b, ↓ca_9b, ↓ca_15b, ↓ca_16b, ↓ca_18b, ↓ca_20b, ↓ca_22b, ↓ca_13b, ↓ca_7b, ↓ca_8b, ↓cp_1_4b, ↓cp_1_6b, ↓cp_1_7b, ↓cp_14_0b, ↓cp_14_2b, ↓cp_14_4b, ↓cp_14_5b, ↓cp_14_6b, ↓cp_14_7b, ↓cp_14_8b, ↓cp_14_9b, ↓cp_14_10b, ↓cp_14_11b, ↓cp_14_12b, ↓cp_14_13b, ↓cp_17_1b, ↓cp_19_1b, ↓cp_21_1b, ↓cu_4b, ↓cu_15b, ↓cn_15b, ↓cm_15b, ↓cu_16b, ↓cn_16b, ↓cm_16b, ↓cu_18b, ↓cu_20b, ↓cu_22b, ↓cu_9b, ↓cl_15b, ↓cl_16b, ↓cl_18b, ↓cl_20b, ↓cl_22b, ↓Option.bind_some, cO_1, cO_2, cO_14, cO_17, cO_19, cO_21, cR_1_0, cR_1_1, cR_1_2, cR_1_3, cR_2_0, cR_2_1, cR_2_2, cR_2_3, cR_2_4, cR_2_5, cR_2_6, cR_2_7, cR_14_14, cR_14_15, cR_14_16, cR_14_17, cR_17_0, cR_19_0, cR_21_0, cA_11, cA_12, cg_1_4, cg_1_5, cg_1_6, cg_1_7, cg_14_0, cg_14_1, cg_14_2, cg_14_3, cg_14_4, cg_14_5, cg_14_6, cg_14_7, cg_14_8, cg_14_9, cg_14_10, cg_14_11, cg_14_12, cg_14_13, cg_17_1, cg_19_1, cg_21_1, ca_3, ca_4, ca_5, ca_6, ca_9, ca_15, ca_16, ca_18, ca_20, ca_22, ca_13, ca_7, ca_8, cp_1_4, cp_1_6, cp_1_7, cp_14_0, cp_14_2, cp_14_4, cp_14_5, cp_14_6, cp_14_7, cp_14_8, cp_14_9, cp_14_10, cp_14_11, cp_14_12, cp_14_13, cp_17_1, cp_19_1, cp_21_1, cu_4, cu_15, cn_15, cm_15, cu_16, cn_16, cm_16, cu_18, cu_20, cu_22, cu_9, cl_15, cl_16, cl_18, cl_20, cl_22, Option.bind_some, kl_0, kl_1, kl_2, kl_3, kl_4, kl_5, kl_6, kl_7, kl_8, kl_10, kl_13, kl_14, kl_15, kl_16, kl_24, kl_25, kl_26, kl_31, kl_32, kl_36, kl_40, kl_62, kl_99, kl_100, kl_255, kl_400, kl_992, kl_1023, kl_1024, kl_1984, kl_9200, kl_4600, kl_48, kl_57, kl_97, kl_122, kl_32767, nI_add, pk_mul, nI_leI, nI_eq, h5, Nat.not_lt_zero, if_true, if_false, not_true, not_false_iff, and_true, true_and, and_false, false_and, Bool.false_eq_true, reduceCtorEq]
      unfold fF
      by_cases h0 : t.1 18 i = 1
      · have h8 : ¬ t.1 18 i = 0 := by omega
        simp only [h0, BEq.rfl, Bool.not_true, Nat.not_lt_zero, if_true, if_false, not_true, not_false_iff, and_true, true_and, and_false, false_and, Bool.false_eq_true, reduceCtorEq, Nat.reduceEqDiff]
        exact ih (i + 1) n (by omega) (by omega)
      · have h8 : t.1 18 i = 0 := by omega
        have w1 : xuZ (cM b t Y) (some (13, b, 0)) (nI i) (nI 1) = some (xsi (cM b t Y) (13, b, 0) i (nI 1)) := by
          rw [xuZ_w (M := cM b t Y) hW (sh_13 hb) h6 (by decide), nar_1]
        have hW4 : XW (xsi (cM b t Y) (13, b, 0) i (nI 1)) := hW
        have r2 : xgR (xsi (cM b t Y) (13, b, 0) i (nI 1)) (some (1, b, 0)) 3 2 = some (some (12, b, 0)) := (xgR_w hW4 (sh_1 hb) (by decide) (by decide) rfl).trans rfl
        have r3 : xaR (xsi (cM b t Y) (13, b, 0) i (nI 1)) 24 (some (12, b, 0)) (nI i) = some (some (21, b, i)) := by
          rw [xaR_w hW4 (sh_12 hb) (by decide) h6 (by decide) rfl]
          exact congrArg some (show (if i < 24 then some (21, b, i) else none) = some (21, b, i) from if_pos h6)
        have r4 : xob (xsi (cM b t Y) (13, b, 0) i (nI 1)) (some (21, b, i)) 4 = some (21, b, i) := xob_w hW4 (sh_21 hb h6)
        have r5 : fP_clear (xsi (cM b t Y) (13, b, 0) i (nI 1)) (21, b, i) = some (xsi (xsi (cM b t Y) (13, b, 0) i (nI 1)) (21, b, i) 1 (nI 0)) := by
          unfold fP_clear
          rw [kl_0, xpI_w hW4 (sh_21 hb h6)]; rfl
        have hW5 : XW (xsi (xsi (cM b t Y) (13, b, 0) i (nI 1)) (21, b, i) 1 (nI 0)) := hW
        have r6 : xgI (xsi (xsi (cM b t Y) (13, b, 0) i (nI 1)) (21, b, i) 1 (nI 0)) (some (1, b, 0)) 3 5 = some (nI (qMade t)) := by
          rw [xgI_w hW5 (sh_1 hb), xsi_1, if_neg (by simp), xsi_1, if_neg (by simp)]
          exact congrArg some (cM_rD rfl rfl)
        have r7 : ∀ v, xpI (xsi (xsi (cM b t Y) (13, b, 0) i (nI 1)) (21, b, i) 1 (nI 0)) (some (1, b, 0)) 3 5 v = some (xsi (xsi (xsi (cM b t Y) (13, b, 0) i (nI 1)) (21, b, i) 1 (nI 0)) (1, b, 0) 5 v) := fun v => xpI_w hW5 (sh_1 hb)
        simp only [h8, w1, r2, r3, r4, r5, r6, r7, Option.bind_some, nI_add, Nat.not_lt_zero, if_true, if_false, not_true, not_false_iff, and_true, true_and, and_false, false_and, Bool.false_eq_true, reduceCtorEq, Nat.reduceEqDiff, Nat.reduceBEq, Bool.not_false, h6]
        rw [en_lt h6, D_madeMem h6 h8]
  unfold fD_makeMagazine qNew sMade
  rw [kl_0, key 24 0 xF (by omega) (by unfold xF; omega)]
  rfl
