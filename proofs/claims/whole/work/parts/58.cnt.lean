/-! counts -/
def qC (P : Nat → Bool) : Nat → Nat → Nat
  | 0, _ => 0
  | d + 1, i => (if P i then 1 else 0) + qC P d (i + 1)
theorem qC_add {P : Nat → Bool} : ∀ {d e i : Nat}, qC P (d + e) i = qC P d i + qC P e (i + d) := by
  intro d
  induction d with
  | zero => intro e i; rw [Nat.zero_add]; show _ = 0 + qC P e (i + 0); rw [Nat.zero_add]; rfl
  | succ d ih =>
    intro e i
    rw [show d + 1 + e = (d + e) + 1 from by omega]
    show (if P i then 1 else 0) + qC P (d + e) (i + 1) = (if P i then 1 else 0) + qC P d (i + 1) + qC P e (i + (d + 1))
    rw [ih, show i + 1 + d = i + (d + 1) from by omega]; omega
theorem qC_le {P : Nat → Bool} : ∀ {d i : Nat}, qC P d i ≤ d := by
  intro d
  induction d with
  | zero => intro i; exact Nat.le_refl _
  | succ d ih => intro i; show (if P i then 1 else 0) + qC P d (i + 1) ≤ _; have := @ih (i + 1); split <;> omega
theorem qC_ct {P : Nat → Bool} : ∀ {d : Nat}, qC P d 0 = fb_ct P d := by
  intro d
  induction d with
  | zero => rfl
  | succ d ih =>
    rw [fb_ct_succ, ← ih, qC_add]
    show qC P d 0 + ((if P (0 + d) then 1 else 0) + 0) = _
    rw [Nat.zero_add]; rfl
theorem qC_sh {P : Nat → Bool} {a : Nat} : ∀ {d i : Nat}, qC P d (a + i) = qC (fun k => P (a + k)) d i := by
  intro d
  induction d with
  | zero => intro i; rfl
  | succ d ih => intro i; show (if P (a + i) then 1 else 0) + qC P d (a + i + 1) = (if P (a + i) then 1 else 0) + qC _ d (i + 1); rw [Nat.add_assoc, ih]
theorem qC_cong {P Q : Nat → Bool} : ∀ {d i : Nat}, (∀ k, i ≤ k → k < i + d → P k = Q k) → qC P d i = qC Q d i := by
  intro d
  induction d with
  | zero => intro i _; rfl
  | succ d ih => intro i h; show (if P i then 1 else 0) + _ = (if Q i then 1 else 0) + _; rw [h i (Nat.le_refl _) (by omega), ih (fun k h1 h2 => h k (by omega) (by omega))]
theorem qC_none {P : Nat → Bool} : ∀ {d i : Nat}, (∀ k, i ≤ k → k < i + d → P k = false) → qC P d i = 0 := by
  intro d
  induction d with
  | zero => intro i _; rfl
  | succ d ih => intro i h; show (if P i then 1 else 0) + _ = 0; rw [h i (Nat.le_refl _) (by omega), ih (fun k h1 h2 => h k (by omega) (by omega))]; rfl
/-- how many of a page are so -/
def qIn (t : xS) (p v : Nat) : Nat := qC (fun k => t.1 17 (62 * p + k) == v) (qPers t p) 0
theorem qC_62 {P : Nat → Bool} {q : Nat} (h : q ≤ 62) (hn : ∀ k, q ≤ k → k < 62 → P k = false) : qC P 62 0 = qC P q 0 := by
  obtain ⟨r, hr⟩ : ∃ r, 62 = q + r := ⟨62 - q, by omega⟩
  rw [hr, qC_add, qC_none (d := r), Nat.add_zero]
  intro k h1 h2
  exact hn k (by omega) (by omega)
theorem qIn_62 {t : xS} {p v : Nat} (h : qPers t p ≤ 62) : fb_ct (fB t v p) 62 = qIn t p v := by
  unfold qIn
  rw [← qC_ct, qC_62 h]
  · exact qC_cong (fun k _ hk => by unfold fB; rw [decide_eq_true (by omega), Bool.true_and])
  · intro k h1 h2
    unfold fB; rw [decide_eq_false (by omega), Bool.false_and]
theorem qC3 {f : Nat → Nat} : ∀ {d i : Nat}, (∀ k, i ≤ k → k < i + d → f k ≤ 2) → qC (fun k => f k == 0) d i + qC (fun k => f k == 1) d i + qC (fun k => f k == 2) d i = d := by
  intro d
  induction d with
  | zero => intro i _; rfl
  | succ d ih =>
    intro i h
    have h1 := ih (i := i + 1) (fun k h1 h2 => h k (by omega) (by omega))
    have h2 := h i (Nat.le_refl _) (by omega)
    show (if (f i == 0) = true then 1 else 0) + qC _ d (i + 1) + ((if (f i == 1) = true then 1 else 0) + qC _ d (i + 1)) + ((if (f i == 2) = true then 1 else 0) + qC _ d (i + 1)) = d + 1
    rcases (by omega : f i = 0 ∨ f i = 1 ∨ f i = 2) with e | e | e <;> (rw [e]; simp; omega)
theorem qPers_62 {t : xS} (hR : WR0 t) {p : Nat} (hp : p < 32) : qPers t p ≤ 62 := by
  unfold qPers
  split
  next h => exact (hR.pg hp h).2.2.2.1
  next => omega
theorem D_inPage {b : Nat} {t : xS} {Y : xMem} {p v : Nat} (hW : XW Y) (hb : b < 3) (hI : INV t) (hp : p < 32) (hv : v ≤ 2) : fA_inPage (cM b t Y) (2, b, 0) (nI p) (nI v) = some (nI (qIn t p v), cM b t Y) := by
  have h62 := qPers_62 hI.R hp
  have e0 := qIn_62 (v := 0) h62
  have e1 := qIn_62 (v := 1) h62
  have h3 := qC3 (f := fun k => t.1 17 (62 * p + k)) (d := qPers t p) (i := 0) (fun k _ hk => hI.S (by omega))
  have h0 : qIn t p 0 ≤ qPers t p := qC_le
  unfold fA_inPage
  simp (disch := first | assumption | omega | decide | with_unfolding_all exact hW) only [↓km1, ↓cO_1b, ↓cO_2b, ↓cO_14b, ↓cO_17b, ↓cO_19b, ↓cO_21b, ↓cR_1_0b, ↓cR_1_1b, ↓cR_1_2b, ↓cR_1_3b, ↓cR_2_0b, ↓cR_2_1b, ↓cR_2_2b, ↓cR_2_3b, ↓cR_2_4b, ↓cR_2_5b, ↓cR_2_6b, ↓cR_2_7b, ↓cR_14_14b, ↓cR_14_15b, ↓cR_14_16b, ↓cR_14_17b, ↓cR_17_0b, ↓cR_19_0b, ↓cR_21_0b, ↓cA_11b, ↓cA_12b, ↓cg_1_4b, ↓cg_1_5b, ↓cg_1_6b, ↓cg_1_7b, ↓cg_14_0b, ↓cg_14_1b, ↓cg_14_2b, ↓cg_14_3b, ↓cg_14_4b, ↓cg_14_5b, ↓cg_14_6b, ↓cg_14_7b, ↓cg_14_8b, ↓cg_14_9b, ↓cg_14_10b, ↓cg_14_11b, ↓cg_14_12b, ↓cg_14_13b, ↓cg_17_1b, ↓cg_19_1b, ↓cg_21_1b, ↓ca_3b, ↓ca_4b, ↓ca_5b, ↓ca_6b, ↓ca_9b, ↓ca_15b, ↓ca_16b, ↓ca_18b, ↓ca_20b, ↓ca_22b, ↓ca_13b, ↓ca_7b, ↓ca_8b, ↓cp_1_4b, ↓cp_1_6b, ↓cp_1_7b, ↓cp_14_0b, ↓cp_14_2b, ↓cp_14_4b, ↓cp_14_5b, ↓cp_14_6b, ↓cp_14_7b, ↓cp_14_8b, ↓cp_14_9b, ↓cp_14_10b, ↓cp_14_11b, ↓cp_14_12b, ↓cp_14_13b, ↓cp_17_1b, ↓cp_19_1b, ↓cp_21_1b, ↓cu_4b, ↓cu_15b, ↓cn_15b, ↓cm_15b, ↓cu_16b, ↓cn_16b, ↓cm_16b, ↓cu_18b, ↓cu_20b, ↓cu_22b, ↓cu_9b, ↓cl_15b, ↓cl_16b, ↓cl_18b, ↓cl_20b, ↓cl_22b, ↓Option.bind_some, cO_1, cO_2, cO_14, cO_17, cO_19, cO_21, cR_1_0, cR_1_1, cR_1_2, cR_1_3, cR_2_0, cR_2_1, cR_2_2, cR_2_3, cR_2_4, cR_2_5, cR_2_6, cR_2_7, cR_14_14, cR_14_15, cR_14_16, cR_14_17, cR_17_0, cR_19_0, cR_21_0, cA_11, cA_12, cg_1_4, cg_1_5, cg_1_6, cg_1_7, cg_14_0, cg_14_1, cg_14_2, cg_14_3, cg_14_4, cg_14_5, cg_14_6, cg_14_7, cg_14_8, cg_14_9, cg_14_10, cg_14_11, cg_14_12, cg_14_13, cg_17_1, cg_19_1, cg_21_1, ca_3, ca_4, ca_5, ca_6, ca_9, ca_15, ca_16, ca_18, ca_20, ca_22, ca_13, ca_7, ca_8, cp_1_4, cp_1_6, cp_1_7, cp_14_0, cp_14_2, cp_14_4, cp_14_5, cp_14_6, cp_14_7, cp_14_8, cp_14_9, cp_14_10, cp_14_11, cp_14_12, cp_14_13, cp_17_1, cp_19_1, cp_21_1, cu_4, cu_15, cn_15, cm_15, cu_16, cn_16, cm_16, cu_18, cu_20, cu_22, cu_9, cl_15, cl_16, cl_18, cl_20, cl_22, Option.bind_some, kl_0, kl_1, kl_2, kl_3, kl_4, kl_5, kl_6, kl_7, kl_8, kl_10, kl_13, kl_14, kl_15, kl_16, kl_24, kl_25, kl_26, kl_31, kl_32, kl_36, kl_40, kl_62, kl_99, kl_100, kl_255, kl_400, kl_992, kl_1023, kl_1024, kl_1984, kl_9200, kl_4600, kl_48, kl_57, kl_97, kl_122, kl_32767, nI_add, pk_mul, ↓km1, nI_m1, en_m1, m1_lt0, m1_eq, m1_0, nI_00, nI_10, nI_0le, nI_n0, nI_ltI, hp, Nat.not_lt_zero, if_true, if_false, not_true, not_false_iff, and_true, true_and, and_false, false_and, Bool.false_eq_true, reduceCtorEq, J_bc, bc_msk, e0, e1, nI_eq]
  rcases (by omega : v = 0 ∨ v = 1 ∨ v = 2) with rfl | rfl | rfl
  · simp
  · simp
  · simp only [Nat.reduceEqDiff, if_false]
    rw [pk_sub h0, pk_sub]
    · have : qPers t p - qIn t p 0 - qIn t p 1 = qIn t p 2 := by unfold qIn; omega
      rw [this]
    · unfold qIn at *; omega
/-- of pages that are told, all together -/
def qHow (t : xS) (S : Nat → Bool) (v : Nat) : Nat := qSum (fun p => if t.1 13 p < 4 ∧ S (t.1 13 p) = true then qIn t p v else 0) 32 0
theorem D_howMany {b : Nat} {t : xS} {Y : xMem} {v : Nat} {w : Int32} {S : Nat → Bool} (hW : XW Y) (hb : b < 3) (hI : INV t) (hv : v ≤ 2) (hw : ∀ x, x < 4 → (w = m1 ∨ nI x = w) = (S x = true)) : fA_howMany (cM b t Y) (2, b, 0) w (nI v) = some (nI (qHow t S v), cM b t Y) := by
  have key : ∀ e i n a, i + e = 32 → e < n → fA_howMany_5 n (cM b t Y) (some (2, b, 0)) w (nI v) (nI a) (nI i) = some (nI (a + qSum (fun p => if t.1 13 p < 4 ∧ S (t.1 13 p) = true then qIn t p v else 0) e i), cM b t Y) := by
    intro e
    induction e with
    | zero =>
      intro i n a hie hn
      obtain ⟨n, rfl⟩ : ∃ m, n = m + 1 := ⟨n - 1, by omega⟩
      have h5 : 32 ≤ i := by omega
      simp (disch := first | assumption | omega | decide | with_unfolding_all exact hW) only [fA_howMany_5, kl_0, kl_1, kl_2, kl_3, kl_4, kl_5, kl_6, kl_7, kl_8, kl_10, kl_13, kl_14, kl_15, kl_16, kl_24, kl_25, kl_26, kl_31, kl_32, kl_36, kl_40, kl_62, kl_99, kl_100, kl_255, kl_400, kl_992, kl_1023, kl_1024, kl_1984, kl_9200, kl_4600, kl_48, kl_57, kl_97, kl_122, kl_32767, nI_add, pk_mul, nI_leI, h5, Nat.not_lt_zero, if_true, if_false, not_true, not_false_iff, and_true, true_and, and_false, false_and, Bool.false_eq_true, reduceCtorEq]
      rfl
    | succ e ih =>
      intro i n a hie hn
      obtain ⟨n, rfl⟩ : ∃ m, n = m + 1 := ⟨n - 1, by omega⟩
      have h5 : ¬ 32 ≤ i := by omega
      have hi := D_inPage (b := b) (t := t) (Y := Y) (p := i) hW hb hI (by omega) hv
      have es : qSum (fun p => if t.1 13 p < 4 ∧ S (t.1 13 p) = true then qIn t p v else 0) (e + 1) i = (if t.1 13 i < 4 ∧ S (t.1 13 i) = true then qIn t i v else 0) + qSum (fun p => if t.1 13 p < 4 ∧ S (t.1 13 p) = true then qIn t p v else 0) e (i + 1) := rfl
      rw [es]
      simp (disch := first | assumption | omega | decide | with_unfolding_all exact hW) only [fA_howMany_5, fA_howMany_49, fA_howMany_39, ↓km1, ↓cO_1b, ↓cO_2b, ↓cO_14b, ↓cO_17b, ↓cO_19b, ↓cO_21b, ↓cR_1_0b, ↓cR_1_1b, ↓cR_1_2b, ↓cR_1_3b, ↓cR_2_0b, ↓cR_2_1b, ↓cR_2_2b, ↓cR_2_3b, ↓cR_2_4b, ↓cR_2_5b, ↓cR_2_6b, ↓cR_2_7b, ↓cR_14_14b, ↓cR_14_15b, ↓cR_14_16b, ↓cR_14_17b, ↓cR_17_0b, ↓cR_19_0b, ↓cR_21_0b, ↓cA_11b, ↓cA_12b, ↓cg_1_4b, ↓cg_1_5b, ↓cg_1_6b, ↓cg_1_7b, ↓cg_14_0b, ↓cg_14_1b, ↓cg_14_2b, ↓cg_14_3b, ↓cg_14_4b, ↓cg_14_5b, ↓cg_14_6b, ↓cg_14_7b, ↓cg_14_8b, ↓cg_14_9b, ↓cg_14_10b, ↓cg_14_11b, ↓cg_14_12b, ↓cg_14_13b, ↓cg_17_1b, ↓cg_19_1b, ↓cg_21_1b, ↓ca_3b, ↓ca_4b, ↓ca_5b, ↓ca_6b, ↓ca_9b, ↓ca_15b, ↓ca_16b, ↓ca_18b, ↓ca_20b, ↓ca_22b, ↓ca_13b, ↓ca_7b, ↓ca_8b, ↓cp_1_4b, ↓cp_1_6b, ↓cp_1_7b, ↓cp_14_0b, ↓cp_14_2b, ↓cp_14_4b, ↓cp_14_5b, ↓cp_14_6b, ↓cp_14_7b, ↓cp_14_8b, ↓cp_14_9b, ↓cp_14_10b, ↓cp_14_11b, ↓cp_14_12b, ↓cp_14_13b, ↓cp_17_1b, ↓cp_19_1b, ↓cp_21_1b, ↓cu_4b, ↓cu_15b, ↓cn_15b, ↓cm_15b, ↓cu_16b, ↓cn_16b, ↓cm_16b, ↓cu_18b, ↓cu_20b, ↓cu_22b, ↓cu_9b, ↓cl_15b, ↓cl_16b, ↓cl_18b, ↓cl_20b, ↓cl_22b, ↓Option.bind_some, cO_1, cO_2, cO_14, cO_17, cO_19, cO_21, cR_1_0, cR_1_1, cR_1_2, cR_1_3, cR_2_0, cR_2_1, cR_2_2, cR_2_3, cR_2_4, cR_2_5, cR_2_6, cR_2_7, cR_14_14, cR_14_15, cR_14_16, cR_14_17, cR_17_0, cR_19_0, cR_21_0, cA_11, cA_12, cg_1_4, cg_1_5, cg_1_6, cg_1_7, cg_14_0, cg_14_1, cg_14_2, cg_14_3, cg_14_4, cg_14_5, cg_14_6, cg_14_7, cg_14_8, cg_14_9, cg_14_10, cg_14_11, cg_14_12, cg_14_13, cg_17_1, cg_19_1, cg_21_1, ca_3, ca_4, ca_5, ca_6, ca_9, ca_15, ca_16, ca_18, ca_20, ca_22, ca_13, ca_7, ca_8, cp_1_4, cp_1_6, cp_1_7, cp_14_0, cp_14_2, cp_14_4, cp_14_5, cp_14_6, cp_14_7, cp_14_8, cp_14_9, cp_14_10, cp_14_11, cp_14_12, cp_14_13, cp_17_1, cp_19_1, cp_21_1, cu_4, cu_15, cn_15, cm_15, cu_16, cn_16, cm_16, cu_18, cu_20, cu_22, cu_9, cl_15, cl_16, cl_18, cl_20, cl_22, Option.bind_some, kl_0, kl_1, kl_2, kl_3, kl_4, kl_5, kl_6, kl_7, kl_8, kl_10, kl_13, kl_14, kl_15, kl_16, kl_24, kl_25, kl_26, kl_31, kl_32, kl_36, kl_40, kl_62, kl_99, kl_100, kl_255, kl_400, kl_992, kl_1023, kl_1024, kl_1984, kl_9200, kl_4600, kl_48, kl_57, kl_97, kl_122, kl_32767, nI_add, pk_mul, nI_leI, h5, ↓km1, nI_m1, en_m1, m1_lt0, m1_eq, m1_0, nI_00, nI_10, nI_0le, nI_n0, Nat.not_lt_zero, if_true, if_false, not_true, not_false_iff, and_true, true_and, and_false, false_and, Bool.false_eq_true, reduceCtorEq, hi]
      by_cases h4 : t.1 13 i < 4
      · have hwi := hw _ h4
        rw [if_neg (fun e => e h4), en_lt h4]
        by_cases hS : S (t.1 13 i) = true
        · have e3 : (if t.1 13 i < 4 ∧ S (t.1 13 i) = true then qIn t i v else 0) = qIn t i v := if_pos ⟨h4, hS⟩
          rw [e3, ← Nat.add_assoc]
          rw [hS, eq_self, eq_iff_iff, iff_true] at hwi
          by_cases h7 : w = m1
          · rw [if_pos h7]; exact ih (i + 1) n _ (by omega) (by omega)
          · rw [if_neg h7, if_pos (hwi.resolve_left h7)]; exact ih (i + 1) n _ (by omega) (by omega)
        · have e3 : (if t.1 13 i < 4 ∧ S (t.1 13 i) = true then qIn t i v else 0) = 0 := if_neg (fun e => hS e.2)
          rw [e3, Nat.zero_add]
          have h8 : ¬ (w = m1 ∨ nI (t.1 13 i) = w) := by rw [hwi]; exact hS
          rw [if_neg (fun e => h8 (Or.inl e)), if_neg (fun e => h8 (Or.inr e))]; exact ih (i + 1) n _ (by omega) (by omega)
      · have e3 : (if t.1 13 i < 4 ∧ S (t.1 13 i) = true then qIn t i v else 0) = 0 := if_neg (fun e => h4 e.1)
        rw [if_pos h4, e3, Nat.zero_add]; exact ih (i + 1) n _ (by omega) (by omega)
  unfold fA_howMany
  rw [kl_0, key 32 0 xF 0 (by omega) (by unfold xF; omega), Nat.zero_add]
  rfl
theorem qIn_all {t : xS} (hI : INV t) {p v : Nat} (hp : p < 32) (hv : v ≠ 0) : qC (fun k => t.1 17 (62 * p + k) == v) 62 0 = if t.1 13 p < 4 then qIn t p v else 0 := by
  have h62 := qPers_62 hI.R hp
  have key : ∀ k, k < 62 → qPers t p ≤ k → (t.1 17 (62 * p + k) == v) = false := fun k hk h => by
    rw [beq_eq_false_iff_ne]
    intro e
    have h1 := hI.V (x := 62 * p + k) (by omega) (by omega)
    rw [show (62 * p + k) / 62 = p from by omega, show (62 * p + k) % 62 = k from by omega] at h1
    unfold qPers at h
    rw [if_pos h1.1] at h; omega
  have e : qC (fun k => t.1 17 (62 * p + k) == v) 62 0 = qIn t p v := by
    unfold qIn
    exact qC_62 h62 (fun k h1 h2 => key k h2 h1)
  rw [e]
  split
  · rfl
  next h4 =>
    unfold qIn qPers
    rw [if_neg h4]; rfl
theorem qHow_all {t : xS} (hI : INV t) {S : Nat → Bool} {v : Nat} (hv : v ≠ 0) : qC (fun x => t.1 17 x == v && S (t.1 13 (x / 62))) 1984 0 = qHow t S v := by
  have page : ∀ i, i < 32 → qC (fun x => t.1 17 x == v && S (t.1 13 (x / 62))) 62 (62 * i) = if t.1 13 i < 4 ∧ S (t.1 13 i) = true then qIn t i v else 0 := by
    intro i hi
    have e1 := qC_sh (P := fun x => t.1 17 x == v && S (t.1 13 (x / 62))) (a := 62 * i) (d := 62) (i := 0)
    rw [Nat.add_zero] at e1
    rw [e1]
    by_cases hS : S (t.1 13 i) = true
    · rw [qC_cong (Q := fun k => t.1 17 (62 * i + k) == v) (fun k _ hk => by rw [show (62 * i + k) / 62 = i from by omega, hS, Bool.and_true]), qIn_all hI (by omega) hv]
      by_cases h4 : t.1 13 i < 4
      · rw [if_pos h4, if_pos ⟨h4, hS⟩]
      · rw [if_neg h4, if_neg (fun e => h4 e.1)]
    · rw [if_neg (fun e => hS e.2), qC_none]
      intro k _ hk
      rw [show (62 * i + k) / 62 = i from by omega]
      cases hs : S (t.1 13 i) with
      | true => exact absurd hs hS
      | false => rw [Bool.and_false]
  have key : ∀ d i, i + d ≤ 32 → qC (fun x => t.1 17 x == v && S (t.1 13 (x / 62))) (62 * d) (62 * i) = qSum (fun p => if t.1 13 p < 4 ∧ S (t.1 13 p) = true then qIn t p v else 0) d i := by
    intro d
    induction d with
    | zero => intro i _; rfl
    | succ d ih =>
      intro i hi
      have es : qSum (fun p => if t.1 13 p < 4 ∧ S (t.1 13 p) = true then qIn t p v else 0) (d + 1) i = (if t.1 13 i < 4 ∧ S (t.1 13 i) = true then qIn t i v else 0) + qSum (fun p => if t.1 13 p < 4 ∧ S (t.1 13 p) = true then qIn t p v else 0) d (i + 1) := rfl
      rw [es, show 62 * (d + 1) = 62 + 62 * d from by omega, qC_add, show 62 * i + 62 = 62 * (i + 1) from by omega, ih (i + 1) (by omega), page i (by omega)]
  have h32 := key 32 0 (by omega)
  rw [show 62 * 32 = 1984 from rfl, Nat.mul_zero] at h32
  unfold qHow
  exact h32
/-! the model's counts -/
theorem M_manyIn {d : Int32} {s : xS} {X : xMem} {p v : Nat} (hW : XW X) (hI : INV s) (hp : p < 32) (h4 : s.1 13 p < 4) (hv : v ≤ 2) : fM_manyIn (mM d s X) (44, 0, 0) (nI p) (nI v) = some (nI (qIn s p v), mM d s X) := by
  have hg := hI.R.pg hp h4
  have eP : qPers s p = qPer s (s.1 13 p) := if_pos h4
  have key : ∀ e i n a, i + e = qPer s (s.1 13 p) → e < n → fM_manyIn_5 n (mM d s X) (some (44, 0, 0)) (nI p) (nI v) (nI a) (nI i) = some (nI (a + qC (fun k => s.1 17 (62 * p + k) == v) e i), mM d s X) := by
    intro e
    induction e with
    | zero =>
      intro i n a hie hn
      obtain ⟨n, rfl⟩ : ∃ m, n = m + 1 := ⟨n - 1, by omega⟩
      have h5 : qPer s (s.1 13 p) ≤ i := by omega
      simp (disch := first | assumption | omega | decide | with_unfolding_all exact hW) only [fM_manyIn_5, ↓gR_0b, ↓gR_1b, ↓gR_2b, ↓gR_3b, ↓gR_4b, ↓gR_5b, ↓gR_6b, ↓gR_7b, ↓gR_8b, ↓gR_9b, ↓gR_10b, ↓gR_11b, ↓gR_12b, ↓gR_16b, ↓gR_17b, ↓gR_18b, ↓gR_19b, ↓gR_20b, ↓gR_21b, ↓gR_22b, ↓gR_23b, ↓gR_24b, ↓gR_25b, ↓gR_26b, ↓gR_27b, ↓gR_28b, ↓gR_29b, ↓gR_30b, ↓gR_31b, ↓gR_35b, ↓gR_38b, ↓gR_39b, ↓gR_40b, ↓gR_41b, ↓gR_52b, ↓gR_53b, ↓gR_54b, ↓aI_45b, ↓uI_45b, ↓aI_46b, ↓uI_46b, ↓aI_47b, ↓uI_47b, ↓aI_48b, ↓uI_48b, ↓aI_49b, ↓uI_49b, ↓aI_50b, ↓uI_50b, ↓aI_51b, ↓uI_51b, ↓aI_52b, ↓uI_52b, ↓aI_53b, ↓uI_53b, ↓aI_54b, ↓uI_54b, ↓aI_55b, ↓uI_55b, ↓aI_56b, ↓uI_56b, ↓aI_58b, ↓uI_58b, ↓uN_58b, ↓uM_58b, ↓aI_59b, ↓uI_59b, ↓aI_60b, ↓uI_60b, ↓aI_62b, ↓uI_62b, ↓uN_62b, ↓uM_62b, ↓aI_63b, ↓uI_63b, ↓uN_63b, ↓uM_63b, ↓aI_64b, ↓uI_64b, ↓aI_65b, ↓uI_65b, ↓aI_66b, ↓uI_66b, ↓aI_67b, ↓uI_67b, ↓aI_68b, ↓uI_68b, ↓aI_69b, ↓uI_69b, ↓aI_70b, ↓uI_70b, ↓aI_61b, ↓uI_61b, ↓aL_57b, ↓uL_57b, ↓aI_71b, ↓uI_71b, ↓aI_72b, ↓uI_72b, ↓aI_74b, ↓uI_74b, ↓aI_75b, ↓uI_75b, ↓aI_76b, ↓uI_76b, ↓aI_77b, ↓uI_77b, ↓aI_78b, ↓uI_78b, ↓aI_79b, ↓uI_79b, ↓aI_80b, ↓uI_80b, ↓aI_81b, ↓uI_81b, ↓gI_13b, ↓pI_13b, ↓gI_14b, ↓pI_14b, ↓gI_15b, ↓pI_15b, ↓gI_32b, ↓pI_32b, ↓gI_33b, ↓pI_33b, ↓gI_34b, ↓pI_34b, ↓gI_36b, ↓pI_36b, ↓gI_37b, ↓pI_37b, ↓gI_42b, ↓pI_42b, ↓gI_43b, ↓pI_43b, ↓gI_44b, ↓pI_44b, ↓gI_45b, ↓pI_45b, ↓gI_46b, ↓pI_46b, ↓gI_47b, ↓pI_47b, ↓gI_48b, ↓pI_48b, ↓gI_49b, ↓pI_49b, ↓gI_50b, ↓pI_50b, ↓gI_51b, ↓pI_51b, ↓pZ_32b, ↓pZ_33b, ↓pZ_46b, ↓xob_44b, ↓Option.bind_some, xob_44, gR_0, gR_1, gR_2, gR_3, gR_4, gR_5, gR_6, gR_7, gR_8, gR_9, gR_10, gR_11, gR_12, gR_16, gR_17, gR_18, gR_19, gR_20, gR_21, gR_22, gR_23, gR_24, gR_25, gR_26, gR_27, gR_28, gR_29, gR_30, gR_31, gR_35, gR_38, gR_39, gR_40, gR_41, gR_52, gR_53, gR_54, aI_45, aI_46, aI_47, aI_48, aI_49, aI_50, aI_51, aI_52, aI_53, aI_54, aI_55, aI_56, aI_58, aI_59, aI_60, aI_62, aI_63, aI_64, aI_65, aI_66, aI_67, aI_68, aI_69, aI_70, aI_61, aL_57, aI_71, aI_72, aI_74, aI_75, aI_76, aI_77, aI_78, aI_79, aI_80, aI_81, uI_45, uI_46, uI_47, uI_48, uI_49, uI_50, uI_51, uI_52, uI_53, uI_54, uI_55, uI_56, uI_58, uN_58, uM_58, uI_59, uI_60, uI_62, uN_62, uM_62, uI_63, uN_63, uM_63, uI_64, uI_65, uI_66, uI_67, uI_68, uI_69, uI_70, uI_61, uL_57, uI_71, uI_72, uI_74, uI_75, uI_76, uI_77, uI_78, uI_79, uI_80, uI_81, gI_13, gI_14, gI_15, gI_32, gI_33, gI_34, gI_36, gI_37, gI_42, gI_43, gI_44, gI_45, gI_46, gI_47, gI_48, gI_49, gI_50, gI_51, pI_13, pI_14, pI_15, pI_32, pI_33, pI_34, pI_36, pI_37, pI_42, pI_43, pI_44, pI_45, pI_46, pI_47, pI_48, pI_49, pI_50, pI_51, pZ_32, pZ_33, pZ_46, Option.bind_some, kl_0, kl_1, kl_2, kl_3, kl_4, kl_5, kl_6, kl_7, kl_8, kl_10, kl_13, kl_14, kl_15, kl_16, kl_24, kl_25, kl_26, kl_31, kl_32, kl_36, kl_40, kl_62, kl_99, kl_100, kl_255, kl_400, kl_992, kl_1023, kl_1024, kl_1984, kl_9200, kl_4600, kl_48, kl_57, kl_97, kl_122, kl_32767, nI_add, pk_mul, en_lt h4, M_per, nI_leI, h5, Nat.not_lt_zero, if_true, if_false, not_true, not_false_iff, and_true, true_and, and_false, false_and, Bool.false_eq_true, reduceCtorEq]
      rfl
    | succ e ih =>
      intro i n a hie hn
      obtain ⟨n, rfl⟩ : ∃ m, n = m + 1 := ⟨n - 1, by omega⟩
      have h5 : ¬ qPer s (s.1 13 p) ≤ i := by omega
      have hs := hI.S (x := 62 * p + i) (by omega)
      have es : qC (fun k => s.1 17 (62 * p + k) == v) (e + 1) i = (if (s.1 17 (62 * p + i) == v) = true then 1 else 0) + qC (fun k => s.1 17 (62 * p + k) == v) e (i + 1) := rfl
      rw [es]
      simp (disch := first | assumption | omega | decide | with_unfolding_all exact hW) only [fM_manyIn_5, fM_manyIn_42, ↓gR_0b, ↓gR_1b, ↓gR_2b, ↓gR_3b, ↓gR_4b, ↓gR_5b, ↓gR_6b, ↓gR_7b, ↓gR_8b, ↓gR_9b, ↓gR_10b, ↓gR_11b, ↓gR_12b, ↓gR_16b, ↓gR_17b, ↓gR_18b, ↓gR_19b, ↓gR_20b, ↓gR_21b, ↓gR_22b, ↓gR_23b, ↓gR_24b, ↓gR_25b, ↓gR_26b, ↓gR_27b, ↓gR_28b, ↓gR_29b, ↓gR_30b, ↓gR_31b, ↓gR_35b, ↓gR_38b, ↓gR_39b, ↓gR_40b, ↓gR_41b, ↓gR_52b, ↓gR_53b, ↓gR_54b, ↓aI_45b, ↓uI_45b, ↓aI_46b, ↓uI_46b, ↓aI_47b, ↓uI_47b, ↓aI_48b, ↓uI_48b, ↓aI_49b, ↓uI_49b, ↓aI_50b, ↓uI_50b, ↓aI_51b, ↓uI_51b, ↓aI_52b, ↓uI_52b, ↓aI_53b, ↓uI_53b, ↓aI_54b, ↓uI_54b, ↓aI_55b, ↓uI_55b, ↓aI_56b, ↓uI_56b, ↓aI_58b, ↓uI_58b, ↓uN_58b, ↓uM_58b, ↓aI_59b, ↓uI_59b, ↓aI_60b, ↓uI_60b, ↓aI_62b, ↓uI_62b, ↓uN_62b, ↓uM_62b, ↓aI_63b, ↓uI_63b, ↓uN_63b, ↓uM_63b, ↓aI_64b, ↓uI_64b, ↓aI_65b, ↓uI_65b, ↓aI_66b, ↓uI_66b, ↓aI_67b, ↓uI_67b, ↓aI_68b, ↓uI_68b, ↓aI_69b, ↓uI_69b, ↓aI_70b, ↓uI_70b, ↓aI_61b, ↓uI_61b, ↓aL_57b, ↓uL_57b, ↓aI_71b, ↓uI_71b, ↓aI_72b, ↓uI_72b, ↓aI_74b, ↓uI_74b, ↓aI_75b, ↓uI_75b, ↓aI_76b, ↓uI_76b, ↓aI_77b, ↓uI_77b, ↓aI_78b, ↓uI_78b, ↓aI_79b, ↓uI_79b, ↓aI_80b, ↓uI_80b, ↓aI_81b, ↓uI_81b, ↓gI_13b, ↓pI_13b, ↓gI_14b, ↓pI_14b, ↓gI_15b, ↓pI_15b, ↓gI_32b, ↓pI_32b, ↓gI_33b, ↓pI_33b, ↓gI_34b, ↓pI_34b, ↓gI_36b, ↓pI_36b, ↓gI_37b, ↓pI_37b, ↓gI_42b, ↓pI_42b, ↓gI_43b, ↓pI_43b, ↓gI_44b, ↓pI_44b, ↓gI_45b, ↓pI_45b, ↓gI_46b, ↓pI_46b, ↓gI_47b, ↓pI_47b, ↓gI_48b, ↓pI_48b, ↓gI_49b, ↓pI_49b, ↓gI_50b, ↓pI_50b, ↓gI_51b, ↓pI_51b, ↓pZ_32b, ↓pZ_33b, ↓pZ_46b, ↓xob_44b, ↓Option.bind_some, xob_44, gR_0, gR_1, gR_2, gR_3, gR_4, gR_5, gR_6, gR_7, gR_8, gR_9, gR_10, gR_11, gR_12, gR_16, gR_17, gR_18, gR_19, gR_20, gR_21, gR_22, gR_23, gR_24, gR_25, gR_26, gR_27, gR_28, gR_29, gR_30, gR_31, gR_35, gR_38, gR_39, gR_40, gR_41, gR_52, gR_53, gR_54, aI_45, aI_46, aI_47, aI_48, aI_49, aI_50, aI_51, aI_52, aI_53, aI_54, aI_55, aI_56, aI_58, aI_59, aI_60, aI_62, aI_63, aI_64, aI_65, aI_66, aI_67, aI_68, aI_69, aI_70, aI_61, aL_57, aI_71, aI_72, aI_74, aI_75, aI_76, aI_77, aI_78, aI_79, aI_80, aI_81, uI_45, uI_46, uI_47, uI_48, uI_49, uI_50, uI_51, uI_52, uI_53, uI_54, uI_55, uI_56, uI_58, uN_58, uM_58, uI_59, uI_60, uI_62, uN_62, uM_62, uI_63, uN_63, uM_63, uI_64, uI_65, uI_66, uI_67, uI_68, uI_69, uI_70, uI_61, uL_57, uI_71, uI_72, uI_74, uI_75, uI_76, uI_77, uI_78, uI_79, uI_80, uI_81, gI_13, gI_14, gI_15, gI_32, gI_33, gI_34, gI_36, gI_37, gI_42, gI_43, gI_44, gI_45, gI_46, gI_47, gI_48, gI_49, gI_50, gI_51, pI_13, pI_14, pI_15, pI_32, pI_33, pI_34, pI_36, pI_37, pI_42, pI_43, pI_44, pI_45, pI_46, pI_47, pI_48, pI_49, pI_50, pI_51, pZ_32, pZ_33, pZ_46, Option.bind_some, kl_0, kl_1, kl_2, kl_3, kl_4, kl_5, kl_6, kl_7, kl_8, kl_10, kl_13, kl_14, kl_15, kl_16, kl_24, kl_25, kl_26, kl_31, kl_32, kl_36, kl_40, kl_62, kl_99, kl_100, kl_255, kl_400, kl_992, kl_1023, kl_1024, kl_1984, kl_9200, kl_4600, kl_48, kl_57, kl_97, kl_122, kl_32767, nI_add, pk_mul, en_lt h4, M_per, nI_leI, nI_eq, h5, Nat.not_lt_zero, if_true, if_false, not_true, not_false_iff, and_true, true_and, and_false, false_and, Bool.false_eq_true, reduceCtorEq]
      by_cases h : s.1 17 (62 * p + i) = v
      · rw [if_pos h, ih (i + 1) n _ (by omega) (by omega), if_pos (by rw [h]; simp), Nat.add_assoc]
      · rw [if_neg h, ih (i + 1) n _ (by omega) (by omega), if_neg (by simpa using h), Nat.zero_add]; rfl
  unfold fM_manyIn
  rw [kl_0, key (qPer s (s.1 13 p)) 0 xF 0 (by omega) (by unfold xF; omega), Nat.zero_add]
  unfold qIn
  rw [eP]
theorem M_liveNow {d : Int32} {s : xS} {X : xMem} (hW : XW X) (hI : INV s) : fM_liveNow (mM d s X) (44, 0, 0) = some (nI (qHow s (fun _ => true) 1), mM d s X) := by
  have key : ∀ e i n a, i + e = 1984 → e < n → fM_liveNow_4 n (mM d s X) (some (44, 0, 0)) (nI a) (nI i) = some (nI (a + qC (fun x => s.1 17 x == 1 && (fun _ => true) (s.1 13 (x / 62))) e i), mM d s X) := by
    intro e
    induction e with
    | zero =>
      intro i n a hie hn
      obtain ⟨n, rfl⟩ : ∃ m, n = m + 1 := ⟨n - 1, by omega⟩
      have h5 : 1984 ≤ i := by omega
      simp (disch := first | assumption | omega | decide | with_unfolding_all exact hW) only [fM_liveNow_4, ↓gR_0b, ↓gR_1b, ↓gR_2b, ↓gR_3b, ↓gR_4b, ↓gR_5b, ↓gR_6b, ↓gR_7b, ↓gR_8b, ↓gR_9b, ↓gR_10b, ↓gR_11b, ↓gR_12b, ↓gR_16b, ↓gR_17b, ↓gR_18b, ↓gR_19b, ↓gR_20b, ↓gR_21b, ↓gR_22b, ↓gR_23b, ↓gR_24b, ↓gR_25b, ↓gR_26b, ↓gR_27b, ↓gR_28b, ↓gR_29b, ↓gR_30b, ↓gR_31b, ↓gR_35b, ↓gR_38b, ↓gR_39b, ↓gR_40b, ↓gR_41b, ↓gR_52b, ↓gR_53b, ↓gR_54b, ↓aI_45b, ↓uI_45b, ↓aI_46b, ↓uI_46b, ↓aI_47b, ↓uI_47b, ↓aI_48b, ↓uI_48b, ↓aI_49b, ↓uI_49b, ↓aI_50b, ↓uI_50b, ↓aI_51b, ↓uI_51b, ↓aI_52b, ↓uI_52b, ↓aI_53b, ↓uI_53b, ↓aI_54b, ↓uI_54b, ↓aI_55b, ↓uI_55b, ↓aI_56b, ↓uI_56b, ↓aI_58b, ↓uI_58b, ↓uN_58b, ↓uM_58b, ↓aI_59b, ↓uI_59b, ↓aI_60b, ↓uI_60b, ↓aI_62b, ↓uI_62b, ↓uN_62b, ↓uM_62b, ↓aI_63b, ↓uI_63b, ↓uN_63b, ↓uM_63b, ↓aI_64b, ↓uI_64b, ↓aI_65b, ↓uI_65b, ↓aI_66b, ↓uI_66b, ↓aI_67b, ↓uI_67b, ↓aI_68b, ↓uI_68b, ↓aI_69b, ↓uI_69b, ↓aI_70b, ↓uI_70b, ↓aI_61b, ↓uI_61b, ↓aL_57b, ↓uL_57b, ↓aI_71b, ↓uI_71b, ↓aI_72b, ↓uI_72b, ↓aI_74b, ↓uI_74b, ↓aI_75b, ↓uI_75b, ↓aI_76b, ↓uI_76b, ↓aI_77b, ↓uI_77b, ↓aI_78b, ↓uI_78b, ↓aI_79b, ↓uI_79b, ↓aI_80b, ↓uI_80b, ↓aI_81b, ↓uI_81b, ↓gI_13b, ↓pI_13b, ↓gI_14b, ↓pI_14b, ↓gI_15b, ↓pI_15b, ↓gI_32b, ↓pI_32b, ↓gI_33b, ↓pI_33b, ↓gI_34b, ↓pI_34b, ↓gI_36b, ↓pI_36b, ↓gI_37b, ↓pI_37b, ↓gI_42b, ↓pI_42b, ↓gI_43b, ↓pI_43b, ↓gI_44b, ↓pI_44b, ↓gI_45b, ↓pI_45b, ↓gI_46b, ↓pI_46b, ↓gI_47b, ↓pI_47b, ↓gI_48b, ↓pI_48b, ↓gI_49b, ↓pI_49b, ↓gI_50b, ↓pI_50b, ↓gI_51b, ↓pI_51b, ↓pZ_32b, ↓pZ_33b, ↓pZ_46b, ↓xob_44b, ↓Option.bind_some, xob_44, gR_0, gR_1, gR_2, gR_3, gR_4, gR_5, gR_6, gR_7, gR_8, gR_9, gR_10, gR_11, gR_12, gR_16, gR_17, gR_18, gR_19, gR_20, gR_21, gR_22, gR_23, gR_24, gR_25, gR_26, gR_27, gR_28, gR_29, gR_30, gR_31, gR_35, gR_38, gR_39, gR_40, gR_41, gR_52, gR_53, gR_54, aI_45, aI_46, aI_47, aI_48, aI_49, aI_50, aI_51, aI_52, aI_53, aI_54, aI_55, aI_56, aI_58, aI_59, aI_60, aI_62, aI_63, aI_64, aI_65, aI_66, aI_67, aI_68, aI_69, aI_70, aI_61, aL_57, aI_71, aI_72, aI_74, aI_75, aI_76, aI_77, aI_78, aI_79, aI_80, aI_81, uI_45, uI_46, uI_47, uI_48, uI_49, uI_50, uI_51, uI_52, uI_53, uI_54, uI_55, uI_56, uI_58, uN_58, uM_58, uI_59, uI_60, uI_62, uN_62, uM_62, uI_63, uN_63, uM_63, uI_64, uI_65, uI_66, uI_67, uI_68, uI_69, uI_70, uI_61, uL_57, uI_71, uI_72, uI_74, uI_75, uI_76, uI_77, uI_78, uI_79, uI_80, uI_81, gI_13, gI_14, gI_15, gI_32, gI_33, gI_34, gI_36, gI_37, gI_42, gI_43, gI_44, gI_45, gI_46, gI_47, gI_48, gI_49, gI_50, gI_51, pI_13, pI_14, pI_15, pI_32, pI_33, pI_34, pI_36, pI_37, pI_42, pI_43, pI_44, pI_45, pI_46, pI_47, pI_48, pI_49, pI_50, pI_51, pZ_32, pZ_33, pZ_46, Option.bind_some, kl_0, kl_1, kl_2, kl_3, kl_4, kl_5, kl_6, kl_7, kl_8, kl_10, kl_13, kl_14, kl_15, kl_16, kl_24, kl_25, kl_26, kl_31, kl_32, kl_36, kl_40, kl_62, kl_99, kl_100, kl_255, kl_400, kl_992, kl_1023, kl_1024, kl_1984, kl_9200, kl_4600, kl_48, kl_57, kl_97, kl_122, kl_32767, nI_add, pk_mul, nI_leI, h5, Nat.not_lt_zero, if_true, if_false, not_true, not_false_iff, and_true, true_and, and_false, false_and, Bool.false_eq_true, reduceCtorEq]
      rfl
    | succ e ih =>
      intro i n a hie hn
      obtain ⟨n, rfl⟩ : ∃ m, n = m + 1 := ⟨n - 1, by omega⟩
      have h5 : ¬ 1984 ≤ i := by omega
      have hs := hI.S (x := i) (by omega)
      have es : qC (fun x => s.1 17 x == 1 && (fun _ => true) (s.1 13 (x / 62))) (e + 1) i = (if (s.1 17 i == 1 && true) = true then 1 else 0) + qC (fun x => s.1 17 x == 1 && (fun _ => true) (s.1 13 (x / 62))) e (i + 1) := rfl
      rw [es, Bool.and_true]
      simp (disch := first | assumption | omega | decide | with_unfolding_all exact hW) only [fM_liveNow_4, fM_liveNow_27, ↓gR_0b, ↓gR_1b, ↓gR_2b, ↓gR_3b, ↓gR_4b, ↓gR_5b, ↓gR_6b, ↓gR_7b, ↓gR_8b, ↓gR_9b, ↓gR_10b, ↓gR_11b, ↓gR_12b, ↓gR_16b, ↓gR_17b, ↓gR_18b, ↓gR_19b, ↓gR_20b, ↓gR_21b, ↓gR_22b, ↓gR_23b, ↓gR_24b, ↓gR_25b, ↓gR_26b, ↓gR_27b, ↓gR_28b, ↓gR_29b, ↓gR_30b, ↓gR_31b, ↓gR_35b, ↓gR_38b, ↓gR_39b, ↓gR_40b, ↓gR_41b, ↓gR_52b, ↓gR_53b, ↓gR_54b, ↓aI_45b, ↓uI_45b, ↓aI_46b, ↓uI_46b, ↓aI_47b, ↓uI_47b, ↓aI_48b, ↓uI_48b, ↓aI_49b, ↓uI_49b, ↓aI_50b, ↓uI_50b, ↓aI_51b, ↓uI_51b, ↓aI_52b, ↓uI_52b, ↓aI_53b, ↓uI_53b, ↓aI_54b, ↓uI_54b, ↓aI_55b, ↓uI_55b, ↓aI_56b, ↓uI_56b, ↓aI_58b, ↓uI_58b, ↓uN_58b, ↓uM_58b, ↓aI_59b, ↓uI_59b, ↓aI_60b, ↓uI_60b, ↓aI_62b, ↓uI_62b, ↓uN_62b, ↓uM_62b, ↓aI_63b, ↓uI_63b, ↓uN_63b, ↓uM_63b, ↓aI_64b, ↓uI_64b, ↓aI_65b, ↓uI_65b, ↓aI_66b, ↓uI_66b, ↓aI_67b, ↓uI_67b, ↓aI_68b, ↓uI_68b, ↓aI_69b, ↓uI_69b, ↓aI_70b, ↓uI_70b, ↓aI_61b, ↓uI_61b, ↓aL_57b, ↓uL_57b, ↓aI_71b, ↓uI_71b, ↓aI_72b, ↓uI_72b, ↓aI_74b, ↓uI_74b, ↓aI_75b, ↓uI_75b, ↓aI_76b, ↓uI_76b, ↓aI_77b, ↓uI_77b, ↓aI_78b, ↓uI_78b, ↓aI_79b, ↓uI_79b, ↓aI_80b, ↓uI_80b, ↓aI_81b, ↓uI_81b, ↓gI_13b, ↓pI_13b, ↓gI_14b, ↓pI_14b, ↓gI_15b, ↓pI_15b, ↓gI_32b, ↓pI_32b, ↓gI_33b, ↓pI_33b, ↓gI_34b, ↓pI_34b, ↓gI_36b, ↓pI_36b, ↓gI_37b, ↓pI_37b, ↓gI_42b, ↓pI_42b, ↓gI_43b, ↓pI_43b, ↓gI_44b, ↓pI_44b, ↓gI_45b, ↓pI_45b, ↓gI_46b, ↓pI_46b, ↓gI_47b, ↓pI_47b, ↓gI_48b, ↓pI_48b, ↓gI_49b, ↓pI_49b, ↓gI_50b, ↓pI_50b, ↓gI_51b, ↓pI_51b, ↓pZ_32b, ↓pZ_33b, ↓pZ_46b, ↓xob_44b, ↓Option.bind_some, xob_44, gR_0, gR_1, gR_2, gR_3, gR_4, gR_5, gR_6, gR_7, gR_8, gR_9, gR_10, gR_11, gR_12, gR_16, gR_17, gR_18, gR_19, gR_20, gR_21, gR_22, gR_23, gR_24, gR_25, gR_26, gR_27, gR_28, gR_29, gR_30, gR_31, gR_35, gR_38, gR_39, gR_40, gR_41, gR_52, gR_53, gR_54, aI_45, aI_46, aI_47, aI_48, aI_49, aI_50, aI_51, aI_52, aI_53, aI_54, aI_55, aI_56, aI_58, aI_59, aI_60, aI_62, aI_63, aI_64, aI_65, aI_66, aI_67, aI_68, aI_69, aI_70, aI_61, aL_57, aI_71, aI_72, aI_74, aI_75, aI_76, aI_77, aI_78, aI_79, aI_80, aI_81, uI_45, uI_46, uI_47, uI_48, uI_49, uI_50, uI_51, uI_52, uI_53, uI_54, uI_55, uI_56, uI_58, uN_58, uM_58, uI_59, uI_60, uI_62, uN_62, uM_62, uI_63, uN_63, uM_63, uI_64, uI_65, uI_66, uI_67, uI_68, uI_69, uI_70, uI_61, uL_57, uI_71, uI_72, uI_74, uI_75, uI_76, uI_77, uI_78, uI_79, uI_80, uI_81, gI_13, gI_14, gI_15, gI_32, gI_33, gI_34, gI_36, gI_37, gI_42, gI_43, gI_44, gI_45, gI_46, gI_47, gI_48, gI_49, gI_50, gI_51, pI_13, pI_14, pI_15, pI_32, pI_33, pI_34, pI_36, pI_37, pI_42, pI_43, pI_44, pI_45, pI_46, pI_47, pI_48, pI_49, pI_50, pI_51, pZ_32, pZ_33, pZ_46, Option.bind_some, kl_0, kl_1, kl_2, kl_3, kl_4, kl_5, kl_6, kl_7, kl_8, kl_10, kl_13, kl_14, kl_15, kl_16, kl_24, kl_25, kl_26, kl_31, kl_32, kl_36, kl_40, kl_62, kl_99, kl_100, kl_255, kl_400, kl_992, kl_1023, kl_1024, kl_1984, kl_9200, kl_4600, kl_48, kl_57, kl_97, kl_122, kl_32767, nI_add, pk_mul, nI_leI, nI_eq, h5, Nat.not_lt_zero, if_true, if_false, not_true, not_false_iff, and_true, true_and, and_false, false_and, Bool.false_eq_true, reduceCtorEq]
      by_cases h : s.1 17 i = 1
      · rw [if_pos h, ih (i + 1) n _ (by omega) (by omega), if_pos (by rw [h]; simp), Nat.add_assoc]
      · rw [if_neg h, ih (i + 1) n _ (by omega) (by omega), if_neg (by simpa using h), Nat.zero_add]; rfl
  have hq := qHow_all (S := fun _ => true) (v := 1) hI (by decide)
  unfold fM_liveNow
  rw [kl_0, key 1984 0 xF 0 (by omega) (by unfold xF; omega), Nat.zero_add]
  exact congrArg (fun z => some (nI z, mM d s X)) hq
theorem M_manyHeld {d : Int32} {s : xS} {X : xMem} {w : Int32} {S : Nat → Bool} (hW : XW X) (hI : INV s) (hw : ∀ x, x < 4 → (w < nI 0 ∨ nI x = w) = (S x = true)) : fM_manyHeld (mM d s X) (44, 0, 0) w = some (nI (qHow s S 2), mM d s X) := by
  have key : ∀ e i n a, i + e = 1984 → e < n → fM_manyHeld_4 n (mM d s X) (some (44, 0, 0)) w (nI a) (nI i) = some (nI (a + qC (fun x => s.1 17 x == 2 && S (s.1 13 (x / 62))) e i), mM d s X) := by
    intro e
    induction e with
    | zero =>
      intro i n a hie hn
      obtain ⟨n, rfl⟩ : ∃ m, n = m + 1 := ⟨n - 1, by omega⟩
      have h5 : 1984 ≤ i := by omega
      simp (disch := first | assumption | omega | decide | with_unfolding_all exact hW) only [fM_manyHeld_4, ↓gR_0b, ↓gR_1b, ↓gR_2b, ↓gR_3b, ↓gR_4b, ↓gR_5b, ↓gR_6b, ↓gR_7b, ↓gR_8b, ↓gR_9b, ↓gR_10b, ↓gR_11b, ↓gR_12b, ↓gR_16b, ↓gR_17b, ↓gR_18b, ↓gR_19b, ↓gR_20b, ↓gR_21b, ↓gR_22b, ↓gR_23b, ↓gR_24b, ↓gR_25b, ↓gR_26b, ↓gR_27b, ↓gR_28b, ↓gR_29b, ↓gR_30b, ↓gR_31b, ↓gR_35b, ↓gR_38b, ↓gR_39b, ↓gR_40b, ↓gR_41b, ↓gR_52b, ↓gR_53b, ↓gR_54b, ↓aI_45b, ↓uI_45b, ↓aI_46b, ↓uI_46b, ↓aI_47b, ↓uI_47b, ↓aI_48b, ↓uI_48b, ↓aI_49b, ↓uI_49b, ↓aI_50b, ↓uI_50b, ↓aI_51b, ↓uI_51b, ↓aI_52b, ↓uI_52b, ↓aI_53b, ↓uI_53b, ↓aI_54b, ↓uI_54b, ↓aI_55b, ↓uI_55b, ↓aI_56b, ↓uI_56b, ↓aI_58b, ↓uI_58b, ↓uN_58b, ↓uM_58b, ↓aI_59b, ↓uI_59b, ↓aI_60b, ↓uI_60b, ↓aI_62b, ↓uI_62b, ↓uN_62b, ↓uM_62b, ↓aI_63b, ↓uI_63b, ↓uN_63b, ↓uM_63b, ↓aI_64b, ↓uI_64b, ↓aI_65b, ↓uI_65b, ↓aI_66b, ↓uI_66b, ↓aI_67b, ↓uI_67b, ↓aI_68b, ↓uI_68b, ↓aI_69b, ↓uI_69b, ↓aI_70b, ↓uI_70b, ↓aI_61b, ↓uI_61b, ↓aL_57b, ↓uL_57b, ↓aI_71b, ↓uI_71b, ↓aI_72b, ↓uI_72b, ↓aI_74b, ↓uI_74b, ↓aI_75b, ↓uI_75b, ↓aI_76b, ↓uI_76b, ↓aI_77b, ↓uI_77b, ↓aI_78b, ↓uI_78b, ↓aI_79b, ↓uI_79b, ↓aI_80b, ↓uI_80b, ↓aI_81b, ↓uI_81b, ↓gI_13b, ↓pI_13b, ↓gI_14b, ↓pI_14b, ↓gI_15b, ↓pI_15b, ↓gI_32b, ↓pI_32b, ↓gI_33b, ↓pI_33b, ↓gI_34b, ↓pI_34b, ↓gI_36b, ↓pI_36b, ↓gI_37b, ↓pI_37b, ↓gI_42b, ↓pI_42b, ↓gI_43b, ↓pI_43b, ↓gI_44b, ↓pI_44b, ↓gI_45b, ↓pI_45b, ↓gI_46b, ↓pI_46b, ↓gI_47b, ↓pI_47b, ↓gI_48b, ↓pI_48b, ↓gI_49b, ↓pI_49b, ↓gI_50b, ↓pI_50b, ↓gI_51b, ↓pI_51b, ↓pZ_32b, ↓pZ_33b, ↓pZ_46b, ↓xob_44b, ↓Option.bind_some, xob_44, gR_0, gR_1, gR_2, gR_3, gR_4, gR_5, gR_6, gR_7, gR_8, gR_9, gR_10, gR_11, gR_12, gR_16, gR_17, gR_18, gR_19, gR_20, gR_21, gR_22, gR_23, gR_24, gR_25, gR_26, gR_27, gR_28, gR_29, gR_30, gR_31, gR_35, gR_38, gR_39, gR_40, gR_41, gR_52, gR_53, gR_54, aI_45, aI_46, aI_47, aI_48, aI_49, aI_50, aI_51, aI_52, aI_53, aI_54, aI_55, aI_56, aI_58, aI_59, aI_60, aI_62, aI_63, aI_64, aI_65, aI_66, aI_67, aI_68, aI_69, aI_70, aI_61, aL_57, aI_71, aI_72, aI_74, aI_75, aI_76, aI_77, aI_78, aI_79, aI_80, aI_81, uI_45, uI_46, uI_47, uI_48, uI_49, uI_50, uI_51, uI_52, uI_53, uI_54, uI_55, uI_56, uI_58, uN_58, uM_58, uI_59, uI_60, uI_62, uN_62, uM_62, uI_63, uN_63, uM_63, uI_64, uI_65, uI_66, uI_67, uI_68, uI_69, uI_70, uI_61, uL_57, uI_71, uI_72, uI_74, uI_75, uI_76, uI_77, uI_78, uI_79, uI_80, uI_81, gI_13, gI_14, gI_15, gI_32, gI_33, gI_34, gI_36, gI_37, gI_42, gI_43, gI_44, gI_45, gI_46, gI_47, gI_48, gI_49, gI_50, gI_51, pI_13, pI_14, pI_15, pI_32, pI_33, pI_34, pI_36, pI_37, pI_42, pI_43, pI_44, pI_45, pI_46, pI_47, pI_48, pI_49, pI_50, pI_51, pZ_32, pZ_33, pZ_46, Option.bind_some, kl_0, kl_1, kl_2, kl_3, kl_4, kl_5, kl_6, kl_7, kl_8, kl_10, kl_13, kl_14, kl_15, kl_16, kl_24, kl_25, kl_26, kl_31, kl_32, kl_36, kl_40, kl_62, kl_99, kl_100, kl_255, kl_400, kl_992, kl_1023, kl_1024, kl_1984, kl_9200, kl_4600, kl_48, kl_57, kl_97, kl_122, kl_32767, nI_add, pk_mul, nI_leI, h5, Nat.not_lt_zero, if_true, if_false, not_true, not_false_iff, and_true, true_and, and_false, false_and, Bool.false_eq_true, reduceCtorEq]
      rfl
    | succ e ih =>
      intro i n a hie hn
      obtain ⟨n, rfl⟩ : ∃ m, n = m + 1 := ⟨n - 1, by omega⟩
      have h5 : ¬ 1984 ≤ i := by omega
      have hs := hI.S (x := i) (by omega)
      have es : qC (fun x => s.1 17 x == 2 && S (s.1 13 (x / 62))) (e + 1) i = (if (s.1 17 i == 2 && S (s.1 13 (i / 62))) = true then 1 else 0) + qC (fun x => s.1 17 x == 2 && S (s.1 13 (x / 62))) e (i + 1) := rfl
      rw [es]
      simp (disch := first | assumption | omega | decide | with_unfolding_all exact hW) only [fM_manyHeld_4, fM_manyHeld_40, fM_manyHeld_35, fM_manyHeld_39, M_cacheOf, ↓gR_0b, ↓gR_1b, ↓gR_2b, ↓gR_3b, ↓gR_4b, ↓gR_5b, ↓gR_6b, ↓gR_7b, ↓gR_8b, ↓gR_9b, ↓gR_10b, ↓gR_11b, ↓gR_12b, ↓gR_16b, ↓gR_17b, ↓gR_18b, ↓gR_19b, ↓gR_20b, ↓gR_21b, ↓gR_22b, ↓gR_23b, ↓gR_24b, ↓gR_25b, ↓gR_26b, ↓gR_27b, ↓gR_28b, ↓gR_29b, ↓gR_30b, ↓gR_31b, ↓gR_35b, ↓gR_38b, ↓gR_39b, ↓gR_40b, ↓gR_41b, ↓gR_52b, ↓gR_53b, ↓gR_54b, ↓aI_45b, ↓uI_45b, ↓aI_46b, ↓uI_46b, ↓aI_47b, ↓uI_47b, ↓aI_48b, ↓uI_48b, ↓aI_49b, ↓uI_49b, ↓aI_50b, ↓uI_50b, ↓aI_51b, ↓uI_51b, ↓aI_52b, ↓uI_52b, ↓aI_53b, ↓uI_53b, ↓aI_54b, ↓uI_54b, ↓aI_55b, ↓uI_55b, ↓aI_56b, ↓uI_56b, ↓aI_58b, ↓uI_58b, ↓uN_58b, ↓uM_58b, ↓aI_59b, ↓uI_59b, ↓aI_60b, ↓uI_60b, ↓aI_62b, ↓uI_62b, ↓uN_62b, ↓uM_62b, ↓aI_63b, ↓uI_63b, ↓uN_63b, ↓uM_63b, ↓aI_64b, ↓uI_64b, ↓aI_65b, ↓uI_65b, ↓aI_66b, ↓uI_66b, ↓aI_67b, ↓uI_67b, ↓aI_68b, ↓uI_68b, ↓aI_69b, ↓uI_69b, ↓aI_70b, ↓uI_70b, ↓aI_61b, ↓uI_61b, ↓aL_57b, ↓uL_57b, ↓aI_71b, ↓uI_71b, ↓aI_72b, ↓uI_72b, ↓aI_74b, ↓uI_74b, ↓aI_75b, ↓uI_75b, ↓aI_76b, ↓uI_76b, ↓aI_77b, ↓uI_77b, ↓aI_78b, ↓uI_78b, ↓aI_79b, ↓uI_79b, ↓aI_80b, ↓uI_80b, ↓aI_81b, ↓uI_81b, ↓gI_13b, ↓pI_13b, ↓gI_14b, ↓pI_14b, ↓gI_15b, ↓pI_15b, ↓gI_32b, ↓pI_32b, ↓gI_33b, ↓pI_33b, ↓gI_34b, ↓pI_34b, ↓gI_36b, ↓pI_36b, ↓gI_37b, ↓pI_37b, ↓gI_42b, ↓pI_42b, ↓gI_43b, ↓pI_43b, ↓gI_44b, ↓pI_44b, ↓gI_45b, ↓pI_45b, ↓gI_46b, ↓pI_46b, ↓gI_47b, ↓pI_47b, ↓gI_48b, ↓pI_48b, ↓gI_49b, ↓pI_49b, ↓gI_50b, ↓pI_50b, ↓gI_51b, ↓pI_51b, ↓pZ_32b, ↓pZ_33b, ↓pZ_46b, ↓xob_44b, ↓Option.bind_some, xob_44, gR_0, gR_1, gR_2, gR_3, gR_4, gR_5, gR_6, gR_7, gR_8, gR_9, gR_10, gR_11, gR_12, gR_16, gR_17, gR_18, gR_19, gR_20, gR_21, gR_22, gR_23, gR_24, gR_25, gR_26, gR_27, gR_28, gR_29, gR_30, gR_31, gR_35, gR_38, gR_39, gR_40, gR_41, gR_52, gR_53, gR_54, aI_45, aI_46, aI_47, aI_48, aI_49, aI_50, aI_51, aI_52, aI_53, aI_54, aI_55, aI_56, aI_58, aI_59, aI_60, aI_62, aI_63, aI_64, aI_65, aI_66, aI_67, aI_68, aI_69, aI_70, aI_61, aL_57, aI_71, aI_72, aI_74, aI_75, aI_76, aI_77, aI_78, aI_79, aI_80, aI_81, uI_45, uI_46, uI_47, uI_48, uI_49, uI_50, uI_51, uI_52, uI_53, uI_54, uI_55, uI_56, uI_58, uN_58, uM_58, uI_59, uI_60, uI_62, uN_62, uM_62, uI_63, uN_63, uM_63, uI_64, uI_65, uI_66, uI_67, uI_68, uI_69, uI_70, uI_61, uL_57, uI_71, uI_72, uI_74, uI_75, uI_76, uI_77, uI_78, uI_79, uI_80, uI_81, gI_13, gI_14, gI_15, gI_32, gI_33, gI_34, gI_36, gI_37, gI_42, gI_43, gI_44, gI_45, gI_46, gI_47, gI_48, gI_49, gI_50, gI_51, pI_13, pI_14, pI_15, pI_32, pI_33, pI_34, pI_36, pI_37, pI_42, pI_43, pI_44, pI_45, pI_46, pI_47, pI_48, pI_49, pI_50, pI_51, pZ_32, pZ_33, pZ_46, Option.bind_some, kl_0, kl_1, kl_2, kl_3, kl_4, kl_5, kl_6, kl_7, kl_8, kl_10, kl_13, kl_14, kl_15, kl_16, kl_24, kl_25, kl_26, kl_31, kl_32, kl_36, kl_40, kl_62, kl_99, kl_100, kl_255, kl_400, kl_992, kl_1023, kl_1024, kl_1984, kl_9200, kl_4600, kl_48, kl_57, kl_97, kl_122, kl_32767, nI_add, pk_mul, nI_leI, nI_eq, h5, Nat.not_lt_zero, if_true, if_false, not_true, not_false_iff, and_true, true_and, and_false, false_and, Bool.false_eq_true, reduceCtorEq]
      by_cases h : s.1 17 i = 2
      · have hV := hI.V (x := i) (by omega) (by omega)
        have hwi := hw _ hV.1
        rw [if_pos h, en_lt hV.1]
        by_cases hS : S (s.1 13 (i / 62)) = true
        · rw [hS, eq_self, eq_iff_iff, iff_true] at hwi
          have e2 : (if (s.1 17 i == 2 && S (s.1 13 (i / 62))) = true then 1 else 0) = 1 := by rw [h, hS]; rfl
          rw [e2]
          by_cases h7 : w < nI 0
          · rw [if_pos h7, ih (i + 1) n _ (by omega) (by omega), Nat.add_assoc]
          · rw [if_neg h7, if_pos (hwi.resolve_left h7), ih (i + 1) n _ (by omega) (by omega), Nat.add_assoc]
        · have h8 : ¬ (w < nI 0 ∨ nI (s.1 13 (i / 62)) = w) := by rw [hwi]; exact hS
          have e2 : (if (s.1 17 i == 2 && S (s.1 13 (i / 62))) = true then 1 else 0) = 0 := if_neg (fun e => hS (Bool.and_eq_true_iff.mp e).2)
          rw [e2, if_neg (fun e => h8 (Or.inl e)), if_neg (fun e => h8 (Or.inr e)), ih (i + 1) n _ (by omega) (by omega), Nat.zero_add]; rfl
      · have e2 : (if (s.1 17 i == 2 && S (s.1 13 (i / 62))) = true then 1 else 0) = 0 := if_neg (fun e => h (eq_of_beq (Bool.and_eq_true_iff.mp e).1))
        rw [if_neg h, e2, ih (i + 1) n _ (by omega) (by omega), Nat.zero_add]; rfl
  unfold fM_manyHeld
  rw [kl_0, key 1984 0 xF 0 (by omega) (by unfold xF; omega), Nat.zero_add, qHow_all hI (by decide)]
theorem EQs.pers {s t : xS} (h : EQs s t) (hR : WR0 s) {p : Nat} (hp : p < 32) : qPers t p = qPers s p := by
  unfold qPers
  rw [h.p (Or.inl rfl) hp]
  split
  next h4 => rw [h.per (hR.pg hp h4).1]
  next => rfl
theorem EQs.inn {s t : xS} (h : EQs s t) (hR : WR0 s) {p v : Nat} (hp : p < 32) : qIn t p v = qIn s p v := by
  have h62 := qPers_62 hR hp
  unfold qIn
  rw [h.pers hR hp]
  exact qC_cong (fun k _ hk => by rw [h.x (by omega)])
theorem EQs.how {s t : xS} (h : EQs s t) (hR : WR0 s) {S : Nat → Bool} {v : Nat} : qHow t S v = qHow s S v := by
  have key : ∀ d i, i + d ≤ 32 → qSum (fun p => if t.1 13 p < 4 ∧ S (t.1 13 p) = true then qIn t p v else 0) d i = qSum (fun p => if s.1 13 p < 4 ∧ S (s.1 13 p) = true then qIn s p v else 0) d i := by
    intro d
    induction d with
    | zero => intro i _; rfl
    | succ d ih =>
      intro i hi
      show (if t.1 13 i < 4 ∧ S (t.1 13 i) = true then qIn t i v else 0) + _ = (if s.1 13 i < 4 ∧ S (s.1 13 i) = true then qIn s i v else 0) + _
      rw [h.p (Or.inl rfl) (by omega), h.inn hR (by omega), ih (i + 1) (by omega)]
  exact key 32 0 (by omega)
