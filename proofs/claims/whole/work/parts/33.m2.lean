/-! what holds at all times (ranges), and the model's takes and gives -/
def fF (P : Nat → Bool) : Nat → Nat → Nat
  | 0, i => i
  | d + 1, i => if P i then i else fF P d (i + 1)
theorem fF_le {P : Nat → Bool} : ∀ {d i : Nat}, fF P d i ≤ i + d := by
  intro d
  induction d with
  | zero => intro i; exact Nat.le_refl _
  | succ d ih =>
    intro i
    unfold fF
    split
    · omega
    · have := @ih (i + 1); omega
theorem fF_ge {P : Nat → Bool} : ∀ {d i : Nat}, i ≤ fF P d i := by
  intro d
  induction d with
  | zero => intro i; exact Nat.le_refl _
  | succ d ih =>
    intro i
    unfold fF
    split
    · omega
    · have := @ih (i + 1); omega
theorem fF_yes {P : Nat → Bool} : ∀ {d i : Nat}, fF P d i < i + d → P (fF P d i) = true := by
  intro d
  induction d with
  | zero => intro i h; exact absurd h (by unfold fF; omega)
  | succ d ih =>
    intro i h
    by_cases hp : P i = true
    · unfold fF; rw [if_pos hp]; exact hp
    · unfold fF at h ⊢; rw [if_neg hp] at h ⊢; exact ih (by omega)
theorem fF_no {P : Nat → Bool} : ∀ {d i j : Nat}, i ≤ j → j < fF P d i → P j = false := by
  intro d
  induction d with
  | zero => intro i j h1 h2; exact absurd h2 (by unfold fF; omega)
  | succ d ih =>
    intro i j h1 h2
    by_cases hp : P i = true
    · unfold fF at h2; rw [if_pos hp] at h2; omega
    · unfold fF at h2; rw [if_neg hp] at h2
      by_cases hj : j = i
      · subst hj; simpa using hp
      · exact ih (by omega) h2
theorem fF_eq {P : Nat → Bool} {N j : Nat} (hj : j < N) (h1 : P j = true) (h2 : ∀ k, k < j → P k = false) : fF P N 0 = j := by
  have h3 : fF P N 0 ≤ j := Nat.le_of_not_lt (fun h => by have := fF_no (P := P) (d := N) (i := 0) (j := j) (Nat.zero_le _) h; rw [h1] at this; cases this)
  by_cases h4 : fF P N 0 = j
  · exact h4
  · have h5 := fF_yes (P := P) (d := N) (i := 0) (by omega)
    rw [h2 _ (by omega)] at h5; cases h5
theorem fF_none {P : Nat → Bool} {N : Nat} (h2 : ∀ k, k < N → P k = false) : fF P N 0 = N := by
  have h3 : fF P N 0 ≤ 0 + N := fF_le
  by_cases h4 : fF P N 0 = N
  · exact h4
  · have h5 := fF_yes (P := P) (d := N) (i := 0) (by omega)
    rw [h2 _ (by omega)] at h5; cases h5
def WR0 (s : xS) : Prop := s.1 19 0 ≤ 4
  ∧ (∀ c, c < s.1 19 0 → s.1 0 c < 6 ∧ 16 ≤ s.1 1 c ∧ s.1 1 c ≤ 400 ∧ s.1 2 c ≤ 64 ∧ 1 ≤ s.1 4 c ∧ s.1 4 c ≤ 8 ∧ s.1 10 c + qPer s c * s.1 1 c ≤ 992 ∧ s.1 22 c ≤ 24 ∧ s.1 24 c ≤ 24)
  ∧ (∀ p, p < 32 → s.1 14 p ≤ 992 ∧ (s.1 13 p < 4 → s.1 13 p < s.1 19 0 ∧ s.1 14 p + qPer s (s.1 13 p) * s.1 1 (s.1 13 p) ≤ 992))
  ∧ (∀ m, m < 24 → s.1 20 m ≤ 8 ∧ ∀ k, k < s.1 20 m → s.1 21 (8 * m + k) < 1984 ∧ s.1 13 (s.1 21 (8 * m + k) / 62) < s.1 19 0)
  ∧ (∀ c, c < s.1 19 0 → ∀ k, (k < s.1 22 c → s.1 23 (24 * c + k) < 24) ∧ (k < s.1 24 c → s.1 25 (24 * c + k) < 24))
theorem qPer_62 {s : xS} {c : Nat} (h : 16 ≤ s.1 1 c) : qPer s c ≤ 62 := by
  unfold qPer
  exact Nat.le_trans (Nat.div_le_div_left h (by omega)) (by decide)
theorem WR0.n {s : xS} (h : WR0 s) : s.1 19 0 ≤ 4 := h.1
theorem WR0.c {s : xS} (h : WR0 s) {c : Nat} (hc : c < s.1 19 0) : s.1 0 c < 6 ∧ 16 ≤ s.1 1 c ∧ s.1 1 c ≤ 400 ∧ s.1 2 c ≤ 64 ∧ 1 ≤ s.1 4 c ∧ s.1 4 c ≤ 8 ∧ s.1 10 c + qPer s c * s.1 1 c ≤ 992 ∧ s.1 22 c ≤ 24 ∧ s.1 24 c ≤ 24 := h.2.1 c hc
theorem WR0.p {s : xS} (h : WR0 s) {p : Nat} (hp : p < 32) : s.1 14 p ≤ 992 ∧ (s.1 13 p < 4 → s.1 13 p < s.1 19 0 ∧ s.1 14 p + qPer s (s.1 13 p) * s.1 1 (s.1 13 p) ≤ 992) := h.2.2.1 p hp
theorem WR0.m {s : xS} (h : WR0 s) {m : Nat} (hm : m < 24) : s.1 20 m ≤ 8 ∧ ∀ k, k < s.1 20 m → s.1 21 (8 * m + k) < 1984 ∧ s.1 13 (s.1 21 (8 * m + k) / 62) < s.1 19 0 := h.2.2.2.1 m hm
theorem WR0.f {s : xS} (h : WR0 s) {c k : Nat} (hc : c < s.1 19 0) (hk : k < s.1 22 c) : s.1 23 (24 * c + k) < 24 := (h.2.2.2.2 c hc k).1 hk
theorem WR0.e {s : xS} (h : WR0 s) {c k : Nat} (hc : c < s.1 19 0) (hk : k < s.1 24 c) : s.1 25 (24 * c + k) < 24 := (h.2.2.2.2 c hc k).2 hk
/-- of a page that a cache has -/
theorem WR0.pg {s : xS} (h : WR0 s) {p : Nat} (hp : p < 32) (h4 : s.1 13 p < 4) : s.1 13 p < s.1 19 0 ∧ 16 ≤ s.1 1 (s.1 13 p) ∧ s.1 1 (s.1 13 p) ≤ 400 ∧ qPer s (s.1 13 p) ≤ 62 ∧ s.1 0 (s.1 13 p) < 6 := by
  have h1 := (h.p hp).2 h4
  have h2 := h.c h1.1
  exact ⟨h1.1, h2.2.1, h2.2.2.1, qPer_62 h2.2.1, h2.1⟩
/-! the buffer at an address -/
def qBeg (s : xS) (a : Nat) : Nat := if s.1 13 (a / 1024) < 4 ∧ 32 + s.1 14 (a / 1024) ≤ a % 1024 ∧ (a % 1024 - 32 - s.1 14 (a / 1024)) % s.1 1 (s.1 13 (a / 1024)) = 0 ∧ (a % 1024 - 32 - s.1 14 (a / 1024)) / s.1 1 (s.1 13 (a / 1024)) < qPer s (s.1 13 (a / 1024)) then a / 1024 * 62 + (a % 1024 - 32 - s.1 14 (a / 1024)) / s.1 1 (s.1 13 (a / 1024)) else 1984
def qBeI (s : xS) (a : Int32) : Nat := if cN 32768 a < 32768 then qBeg s (cN 32768 a) else 1984
theorem sub3_neg {a b c : Nat} (ha : a < 2 ^ 28) (hb : b < 2 ^ 28) (hc : c < 2 ^ 28) : (nI a - nI b - nI c).toInt = (a : Int) - b - c := by
  rw [Int32.toInt_sub, pk_sub_toInt (by omega) (by omega), nI_toInt (by omega)]
  rw [Int.bmod_def]; omega
theorem sub3_lt {a b c : Nat} (ha : a < 2 ^ 28) (hb : b < 2 ^ 28) (hc : c < 2 ^ 28) : (nI a - nI b - nI c < nI 0) = (a < b + c) := by
  refine propext ?_
  rw [Int32.lt_iff_toInt_lt, sub3_neg ha hb hc, nI_toInt (by omega)]; omega
theorem sub3_ge {a b c : Nat} (ha : a < 2 ^ 28) (h : b + c ≤ a) : nI a - nI b - nI c = nI (a - b - c) := by
  rw [pk_sub (by omega), pk_sub (by omega)]
theorem qBeg_lt {s : xS} {a : Nat} (hR : WR0 s) (ha : a < 32768) : qBeg s a ≤ 1984 := by
  unfold qBeg
  split
  next h => have := (hR.pg (p := a / 1024) (by omega) h.1).2.2.2.1; omega
  next => exact Nat.le_refl _
theorem M_beginsAt {d : Int32} {s : xS} {X : xMem} {a : Int32} (hW : XW X) (hR : WR0 s) : fM_beginsAt (mM d s X) (44, 0, 0) a = some (en 1984 (-9) (qBeI s a), mM d s X) := by
  unfold qBeI fM_beginsAt fM_beginsAt_89
  rw [kl_0, kl_32767, isIn_m (by decide)]
  rcases cN_cases 32768 a (by decide) with ⟨h1, h2⟩ | ⟨h1, h2⟩
  · rw [h1, decide_eq_false (by omega), Option.bind_some, if_pos (by rfl), if_neg (by omega), en_ge (by omega)]
  · generalize cN 32768 a = j at h1 h2 ⊢
    subst h2
    rw [decide_eq_true h1, Option.bind_some, if_neg (by show ¬ bI true = nI 0; decide), if_pos h1]
    simp (disch := first | assumption | omega | decide | with_unfolding_all exact hW) only [kl_0, kl_1, kl_2, kl_3, kl_4, kl_5, kl_6, kl_7, kl_8, kl_10, kl_13, kl_14, kl_15, kl_16, kl_24, kl_25, kl_26, kl_31, kl_32, kl_36, kl_40, kl_62, kl_99, kl_100, kl_255, kl_400, kl_992, kl_1023, kl_1024, kl_1984, kl_9200, kl_4600, kl_48, kl_57, kl_97, kl_122, kl_32767, nI_add, pk_mul, pk_div, nI_remn]
    simp (disch := first | assumption | omega | decide | with_unfolding_all exact hW) only [↓gR_0b, ↓gR_1b, ↓gR_2b, ↓gR_3b, ↓gR_4b, ↓gR_5b, ↓gR_6b, ↓gR_7b, ↓gR_8b, ↓gR_9b, ↓gR_10b, ↓gR_11b, ↓gR_12b, ↓gR_16b, ↓gR_17b, ↓gR_18b, ↓gR_19b, ↓gR_20b, ↓gR_21b, ↓gR_22b, ↓gR_23b, ↓gR_24b, ↓gR_25b, ↓gR_26b, ↓gR_27b, ↓gR_28b, ↓gR_29b, ↓gR_30b, ↓gR_31b, ↓gR_35b, ↓gR_38b, ↓gR_39b, ↓gR_40b, ↓gR_41b, ↓gR_52b, ↓gR_53b, ↓gR_54b, ↓aI_45b, ↓uI_45b, ↓aI_46b, ↓uI_46b, ↓aI_47b, ↓uI_47b, ↓aI_48b, ↓uI_48b, ↓aI_49b, ↓uI_49b, ↓aI_50b, ↓uI_50b, ↓aI_51b, ↓uI_51b, ↓aI_52b, ↓uI_52b, ↓aI_53b, ↓uI_53b, ↓aI_54b, ↓uI_54b, ↓aI_55b, ↓uI_55b, ↓aI_56b, ↓uI_56b, ↓aI_58b, ↓uI_58b, ↓uN_58b, ↓uM_58b, ↓aI_59b, ↓uI_59b, ↓aI_60b, ↓uI_60b, ↓aI_62b, ↓uI_62b, ↓uN_62b, ↓uM_62b, ↓aI_63b, ↓uI_63b, ↓uN_63b, ↓uM_63b, ↓aI_64b, ↓uI_64b, ↓aI_65b, ↓uI_65b, ↓aI_66b, ↓uI_66b, ↓aI_67b, ↓uI_67b, ↓aI_68b, ↓uI_68b, ↓aI_69b, ↓uI_69b, ↓aI_70b, ↓uI_70b, ↓aI_61b, ↓uI_61b, ↓aL_57b, ↓uL_57b, ↓aI_71b, ↓uI_71b, ↓aI_72b, ↓uI_72b, ↓aI_74b, ↓uI_74b, ↓aI_75b, ↓uI_75b, ↓aI_76b, ↓uI_76b, ↓aI_77b, ↓uI_77b, ↓aI_78b, ↓uI_78b, ↓aI_79b, ↓uI_79b, ↓aI_80b, ↓uI_80b, ↓aI_81b, ↓uI_81b, ↓gI_13b, ↓pI_13b, ↓gI_14b, ↓pI_14b, ↓gI_15b, ↓pI_15b, ↓gI_32b, ↓pI_32b, ↓gI_33b, ↓pI_33b, ↓gI_34b, ↓pI_34b, ↓gI_36b, ↓pI_36b, ↓gI_37b, ↓pI_37b, ↓gI_42b, ↓pI_42b, ↓gI_43b, ↓pI_43b, ↓gI_44b, ↓pI_44b, ↓gI_45b, ↓pI_45b, ↓gI_46b, ↓pI_46b, ↓gI_47b, ↓pI_47b, ↓gI_48b, ↓pI_48b, ↓gI_49b, ↓pI_49b, ↓gI_50b, ↓pI_50b, ↓gI_51b, ↓pI_51b, ↓pZ_32b, ↓pZ_33b, ↓pZ_46b, ↓xob_44b, ↓Option.bind_some, xob_44, gR_0, gR_1, gR_2, gR_3, gR_4, gR_5, gR_6, gR_7, gR_8, gR_9, gR_10, gR_11, gR_12, gR_16, gR_17, gR_18, gR_19, gR_20, gR_21, gR_22, gR_23, gR_24, gR_25, gR_26, gR_27, gR_28, gR_29, gR_30, gR_31, gR_35, gR_38, gR_39, gR_40, gR_41, gR_52, gR_53, gR_54, aI_45, aI_46, aI_47, aI_48, aI_49, aI_50, aI_51, aI_52, aI_53, aI_54, aI_55, aI_56, aI_58, aI_59, aI_60, aI_62, aI_63, aI_64, aI_65, aI_66, aI_67, aI_68, aI_69, aI_70, aI_61, aL_57, aI_71, aI_72, aI_74, aI_75, aI_76, aI_77, aI_78, aI_79, aI_80, aI_81, uI_45, uI_46, uI_47, uI_48, uI_49, uI_50, uI_51, uI_52, uI_53, uI_54, uI_55, uI_56, uI_58, uN_58, uM_58, uI_59, uI_60, uI_62, uN_62, uM_62, uI_63, uN_63, uM_63, uI_64, uI_65, uI_66, uI_67, uI_68, uI_69, uI_70, uI_61, uL_57, uI_71, uI_72, uI_74, uI_75, uI_76, uI_77, uI_78, uI_79, uI_80, uI_81, gI_13, gI_14, gI_15, gI_32, gI_33, gI_34, gI_36, gI_37, gI_42, gI_43, gI_44, gI_45, gI_46, gI_47, gI_48, gI_49, gI_50, gI_51, pI_13, pI_14, pI_15, pI_32, pI_33, pI_34, pI_36, pI_37, pI_42, pI_43, pI_44, pI_45, pI_46, pI_47, pI_48, pI_49, pI_50, pI_51, pZ_32, pZ_33, pZ_46, Option.bind_some, kl_0, kl_1, kl_2, kl_3, kl_4, kl_5, kl_6, kl_7, kl_8, kl_10, kl_13, kl_14, kl_15, kl_16, kl_24, kl_25, kl_26, kl_31, kl_32, kl_36, kl_40, kl_62, kl_99, kl_100, kl_255, kl_400, kl_992, kl_1023, kl_1024, kl_1984, kl_9200, kl_4600, kl_48, kl_57, kl_97, kl_122, kl_32767, nI_add, pk_mul, en_0le]
    by_cases h4 : s.1 13 (j / 1024) < 4
    · have hg := hR.pg (p := j / 1024) (by omega) h4
      have hb := (hR.p (p := j / 1024) (by omega)).1
      rw [if_pos h4]
      by_cases h5 : j % 1024 < 32 + s.1 14 (j / 1024)
      · simp (disch := first | assumption | omega | decide | with_unfolding_all exact hW) only [sub3_lt, h5, if_true]
        unfold qBeg
        rw [if_neg (by omega), en_ge (by omega)]
      · have h0 : ¬ nI (s.1 1 (s.1 13 (j / 1024))) = nI 0 := nI_ne0 (by omega) (by omega)
        simp (disch := first | assumption | omega | decide | with_unfolding_all exact hW) only [en_lt h4, sub3_lt, h5, sub3_ge, ↓gR_0b, ↓gR_1b, ↓gR_2b, ↓gR_3b, ↓gR_4b, ↓gR_5b, ↓gR_6b, ↓gR_7b, ↓gR_8b, ↓gR_9b, ↓gR_10b, ↓gR_11b, ↓gR_12b, ↓gR_16b, ↓gR_17b, ↓gR_18b, ↓gR_19b, ↓gR_20b, ↓gR_21b, ↓gR_22b, ↓gR_23b, ↓gR_24b, ↓gR_25b, ↓gR_26b, ↓gR_27b, ↓gR_28b, ↓gR_29b, ↓gR_30b, ↓gR_31b, ↓gR_35b, ↓gR_38b, ↓gR_39b, ↓gR_40b, ↓gR_41b, ↓gR_52b, ↓gR_53b, ↓gR_54b, ↓aI_45b, ↓uI_45b, ↓aI_46b, ↓uI_46b, ↓aI_47b, ↓uI_47b, ↓aI_48b, ↓uI_48b, ↓aI_49b, ↓uI_49b, ↓aI_50b, ↓uI_50b, ↓aI_51b, ↓uI_51b, ↓aI_52b, ↓uI_52b, ↓aI_53b, ↓uI_53b, ↓aI_54b, ↓uI_54b, ↓aI_55b, ↓uI_55b, ↓aI_56b, ↓uI_56b, ↓aI_58b, ↓uI_58b, ↓uN_58b, ↓uM_58b, ↓aI_59b, ↓uI_59b, ↓aI_60b, ↓uI_60b, ↓aI_62b, ↓uI_62b, ↓uN_62b, ↓uM_62b, ↓aI_63b, ↓uI_63b, ↓uN_63b, ↓uM_63b, ↓aI_64b, ↓uI_64b, ↓aI_65b, ↓uI_65b, ↓aI_66b, ↓uI_66b, ↓aI_67b, ↓uI_67b, ↓aI_68b, ↓uI_68b, ↓aI_69b, ↓uI_69b, ↓aI_70b, ↓uI_70b, ↓aI_61b, ↓uI_61b, ↓aL_57b, ↓uL_57b, ↓aI_71b, ↓uI_71b, ↓aI_72b, ↓uI_72b, ↓aI_74b, ↓uI_74b, ↓aI_75b, ↓uI_75b, ↓aI_76b, ↓uI_76b, ↓aI_77b, ↓uI_77b, ↓aI_78b, ↓uI_78b, ↓aI_79b, ↓uI_79b, ↓aI_80b, ↓uI_80b, ↓aI_81b, ↓uI_81b, ↓gI_13b, ↓pI_13b, ↓gI_14b, ↓pI_14b, ↓gI_15b, ↓pI_15b, ↓gI_32b, ↓pI_32b, ↓gI_33b, ↓pI_33b, ↓gI_34b, ↓pI_34b, ↓gI_36b, ↓pI_36b, ↓gI_37b, ↓pI_37b, ↓gI_42b, ↓pI_42b, ↓gI_43b, ↓pI_43b, ↓gI_44b, ↓pI_44b, ↓gI_45b, ↓pI_45b, ↓gI_46b, ↓pI_46b, ↓gI_47b, ↓pI_47b, ↓gI_48b, ↓pI_48b, ↓gI_49b, ↓pI_49b, ↓gI_50b, ↓pI_50b, ↓gI_51b, ↓pI_51b, ↓pZ_32b, ↓pZ_33b, ↓pZ_46b, ↓xob_44b, ↓Option.bind_some, xob_44, gR_0, gR_1, gR_2, gR_3, gR_4, gR_5, gR_6, gR_7, gR_8, gR_9, gR_10, gR_11, gR_12, gR_16, gR_17, gR_18, gR_19, gR_20, gR_21, gR_22, gR_23, gR_24, gR_25, gR_26, gR_27, gR_28, gR_29, gR_30, gR_31, gR_35, gR_38, gR_39, gR_40, gR_41, gR_52, gR_53, gR_54, aI_45, aI_46, aI_47, aI_48, aI_49, aI_50, aI_51, aI_52, aI_53, aI_54, aI_55, aI_56, aI_58, aI_59, aI_60, aI_62, aI_63, aI_64, aI_65, aI_66, aI_67, aI_68, aI_69, aI_70, aI_61, aL_57, aI_71, aI_72, aI_74, aI_75, aI_76, aI_77, aI_78, aI_79, aI_80, aI_81, uI_45, uI_46, uI_47, uI_48, uI_49, uI_50, uI_51, uI_52, uI_53, uI_54, uI_55, uI_56, uI_58, uN_58, uM_58, uI_59, uI_60, uI_62, uN_62, uM_62, uI_63, uN_63, uM_63, uI_64, uI_65, uI_66, uI_67, uI_68, uI_69, uI_70, uI_61, uL_57, uI_71, uI_72, uI_74, uI_75, uI_76, uI_77, uI_78, uI_79, uI_80, uI_81, gI_13, gI_14, gI_15, gI_32, gI_33, gI_34, gI_36, gI_37, gI_42, gI_43, gI_44, gI_45, gI_46, gI_47, gI_48, gI_49, gI_50, gI_51, pI_13, pI_14, pI_15, pI_32, pI_33, pI_34, pI_36, pI_37, pI_42, pI_43, pI_44, pI_45, pI_46, pI_47, pI_48, pI_49, pI_50, pI_51, pZ_32, pZ_33, pZ_46, Option.bind_some, kl_0, kl_1, kl_2, kl_3, kl_4, kl_5, kl_6, kl_7, kl_8, kl_10, kl_13, kl_14, kl_15, kl_16, kl_24, kl_25, kl_26, kl_31, kl_32, kl_36, kl_40, kl_62, kl_99, kl_100, kl_255, kl_400, kl_992, kl_1023, kl_1024, kl_1984, kl_9200, kl_4600, kl_48, kl_57, kl_97, kl_122, kl_32767, nI_add, pk_mul, Nat.not_lt_zero, if_true, if_false, not_true, not_false_iff, and_true, true_and, and_false, false_and, Bool.false_eq_true, reduceCtorEq, pk_div, nI_remn, h0, M_per, nI_eq, nI_ltI]
        have ht : ((j % 1024 - 32 - s.1 14 (j / 1024)) % s.1 1 (s.1 13 (j / 1024)) < 2 ^ 31) := Nat.lt_of_le_of_lt (Nat.mod_le _ _) (by omega)
        have ht2 : ((j % 1024 - 32 - s.1 14 (j / 1024)) / s.1 1 (s.1 13 (j / 1024)) < 2 ^ 31) := Nat.lt_of_le_of_lt (Nat.div_le_self _ _) (by omega)
        simp (disch := first | assumption | omega | decide | with_unfolding_all exact hW) only [nI_eq, nI_ltI]
        by_cases h6 : (j % 1024 - 32 - s.1 14 (j / 1024)) % s.1 1 (s.1 13 (j / 1024)) = 0
        · by_cases h7 : (j % 1024 - 32 - s.1 14 (j / 1024)) / s.1 1 (s.1 13 (j / 1024)) < qPer s (s.1 13 (j / 1024))
          · have hq : qBeg s j = j / 1024 * 62 + (j % 1024 - 32 - s.1 14 (j / 1024)) / s.1 1 (s.1 13 (j / 1024)) := if_pos ⟨h4, by omega, h6, h7⟩
            rw [if_pos h6, if_pos h7, hq, en_lt (by omega)]
          · have hq : qBeg s j = 1984 := if_neg (fun e => h7 e.2.2.2)
            rw [if_pos h6, if_neg h7, hq, en_ge (by omega)]
        · have hq : qBeg s j = 1984 := if_neg (fun e => h6 e.2.2.1)
          rw [if_neg h6, hq, en_ge (by omega)]
    · unfold qBeg
      rw [if_neg h4, if_neg (fun h => h4 h.1), en_ge (by omega)]
def qLive (s : xS) (a : Int32) : Nat := if qBeI s a < 1984 ∧ s.1 17 (qBeI s a) = 1 then qBeI s a else 1984
theorem M_liveAt {d : Int32} {s : xS} {X : xMem} {a : Int32} (hW : XW X) (hR : WR0 s) (hS : ∀ b, b < 1984 → s.1 17 b ≤ 2) : fM_liveAt (mM d s X) (44, 0, 0) a = some (en 1984 (-9) (qLive s a), mM d s X) := by
  unfold qLive fM_liveAt
  by_cases h : qBeI s a < 1984
  · have := hS _ h
    simp (disch := first | assumption | omega | decide | with_unfolding_all exact hW) only [M_beginsAt, en_lt h, ↓gR_0b, ↓gR_1b, ↓gR_2b, ↓gR_3b, ↓gR_4b, ↓gR_5b, ↓gR_6b, ↓gR_7b, ↓gR_8b, ↓gR_9b, ↓gR_10b, ↓gR_11b, ↓gR_12b, ↓gR_16b, ↓gR_17b, ↓gR_18b, ↓gR_19b, ↓gR_20b, ↓gR_21b, ↓gR_22b, ↓gR_23b, ↓gR_24b, ↓gR_25b, ↓gR_26b, ↓gR_27b, ↓gR_28b, ↓gR_29b, ↓gR_30b, ↓gR_31b, ↓gR_35b, ↓gR_38b, ↓gR_39b, ↓gR_40b, ↓gR_41b, ↓gR_52b, ↓gR_53b, ↓gR_54b, ↓aI_45b, ↓uI_45b, ↓aI_46b, ↓uI_46b, ↓aI_47b, ↓uI_47b, ↓aI_48b, ↓uI_48b, ↓aI_49b, ↓uI_49b, ↓aI_50b, ↓uI_50b, ↓aI_51b, ↓uI_51b, ↓aI_52b, ↓uI_52b, ↓aI_53b, ↓uI_53b, ↓aI_54b, ↓uI_54b, ↓aI_55b, ↓uI_55b, ↓aI_56b, ↓uI_56b, ↓aI_58b, ↓uI_58b, ↓uN_58b, ↓uM_58b, ↓aI_59b, ↓uI_59b, ↓aI_60b, ↓uI_60b, ↓aI_62b, ↓uI_62b, ↓uN_62b, ↓uM_62b, ↓aI_63b, ↓uI_63b, ↓uN_63b, ↓uM_63b, ↓aI_64b, ↓uI_64b, ↓aI_65b, ↓uI_65b, ↓aI_66b, ↓uI_66b, ↓aI_67b, ↓uI_67b, ↓aI_68b, ↓uI_68b, ↓aI_69b, ↓uI_69b, ↓aI_70b, ↓uI_70b, ↓aI_61b, ↓uI_61b, ↓aL_57b, ↓uL_57b, ↓aI_71b, ↓uI_71b, ↓aI_72b, ↓uI_72b, ↓aI_74b, ↓uI_74b, ↓aI_75b, ↓uI_75b, ↓aI_76b, ↓uI_76b, ↓aI_77b, ↓uI_77b, ↓aI_78b, ↓uI_78b, ↓aI_79b, ↓uI_79b, ↓aI_80b, ↓uI_80b, ↓aI_81b, ↓uI_81b, ↓gI_13b, ↓pI_13b, ↓gI_14b, ↓pI_14b, ↓gI_15b, ↓pI_15b, ↓gI_32b, ↓pI_32b, ↓gI_33b, ↓pI_33b, ↓gI_34b, ↓pI_34b, ↓gI_36b, ↓pI_36b, ↓gI_37b, ↓pI_37b, ↓gI_42b, ↓pI_42b, ↓gI_43b, ↓pI_43b, ↓gI_44b, ↓pI_44b, ↓gI_45b, ↓pI_45b, ↓gI_46b, ↓pI_46b, ↓gI_47b, ↓pI_47b, ↓gI_48b, ↓pI_48b, ↓gI_49b, ↓pI_49b, ↓gI_50b, ↓pI_50b, ↓gI_51b, ↓pI_51b, ↓pZ_32b, ↓pZ_33b, ↓pZ_46b, ↓xob_44b, ↓Option.bind_some, xob_44, gR_0, gR_1, gR_2, gR_3, gR_4, gR_5, gR_6, gR_7, gR_8, gR_9, gR_10, gR_11, gR_12, gR_16, gR_17, gR_18, gR_19, gR_20, gR_21, gR_22, gR_23, gR_24, gR_25, gR_26, gR_27, gR_28, gR_29, gR_30, gR_31, gR_35, gR_38, gR_39, gR_40, gR_41, gR_52, gR_53, gR_54, aI_45, aI_46, aI_47, aI_48, aI_49, aI_50, aI_51, aI_52, aI_53, aI_54, aI_55, aI_56, aI_58, aI_59, aI_60, aI_62, aI_63, aI_64, aI_65, aI_66, aI_67, aI_68, aI_69, aI_70, aI_61, aL_57, aI_71, aI_72, aI_74, aI_75, aI_76, aI_77, aI_78, aI_79, aI_80, aI_81, uI_45, uI_46, uI_47, uI_48, uI_49, uI_50, uI_51, uI_52, uI_53, uI_54, uI_55, uI_56, uI_58, uN_58, uM_58, uI_59, uI_60, uI_62, uN_62, uM_62, uI_63, uN_63, uM_63, uI_64, uI_65, uI_66, uI_67, uI_68, uI_69, uI_70, uI_61, uL_57, uI_71, uI_72, uI_74, uI_75, uI_76, uI_77, uI_78, uI_79, uI_80, uI_81, gI_13, gI_14, gI_15, gI_32, gI_33, gI_34, gI_36, gI_37, gI_42, gI_43, gI_44, gI_45, gI_46, gI_47, gI_48, gI_49, gI_50, gI_51, pI_13, pI_14, pI_15, pI_32, pI_33, pI_34, pI_36, pI_37, pI_42, pI_43, pI_44, pI_45, pI_46, pI_47, pI_48, pI_49, pI_50, pI_51, pZ_32, pZ_33, pZ_46, Option.bind_some, kl_0, kl_1, kl_2, kl_3, kl_4, kl_5, kl_6, kl_7, kl_8, kl_10, kl_13, kl_14, kl_15, kl_16, kl_24, kl_25, kl_26, kl_31, kl_32, kl_36, kl_40, kl_62, kl_99, kl_100, kl_255, kl_400, kl_992, kl_1023, kl_1024, kl_1984, kl_9200, kl_4600, kl_48, kl_57, kl_97, kl_122, kl_32767, nI_add, pk_mul, en_neg0, en_0le, nI_0le, nI_n0, m9_0le, m9_neg, nI_eq, h, Nat.not_lt_zero, if_true, if_false, not_true, not_false_iff, and_true, true_and, and_false, false_and, Bool.false_eq_true, reduceCtorEq]
    by_cases h1 : s.1 17 (qBeI s a) = 1
    · simp only [h1, if_true, en_lt h]
    · simp only [h1, if_false]; rw [en_ge (by omega)]
  · simp (disch := first | assumption | omega | decide | with_unfolding_all exact hW) only [M_beginsAt, ↓gR_0b, ↓gR_1b, ↓gR_2b, ↓gR_3b, ↓gR_4b, ↓gR_5b, ↓gR_6b, ↓gR_7b, ↓gR_8b, ↓gR_9b, ↓gR_10b, ↓gR_11b, ↓gR_12b, ↓gR_16b, ↓gR_17b, ↓gR_18b, ↓gR_19b, ↓gR_20b, ↓gR_21b, ↓gR_22b, ↓gR_23b, ↓gR_24b, ↓gR_25b, ↓gR_26b, ↓gR_27b, ↓gR_28b, ↓gR_29b, ↓gR_30b, ↓gR_31b, ↓gR_35b, ↓gR_38b, ↓gR_39b, ↓gR_40b, ↓gR_41b, ↓gR_52b, ↓gR_53b, ↓gR_54b, ↓aI_45b, ↓uI_45b, ↓aI_46b, ↓uI_46b, ↓aI_47b, ↓uI_47b, ↓aI_48b, ↓uI_48b, ↓aI_49b, ↓uI_49b, ↓aI_50b, ↓uI_50b, ↓aI_51b, ↓uI_51b, ↓aI_52b, ↓uI_52b, ↓aI_53b, ↓uI_53b, ↓aI_54b, ↓uI_54b, ↓aI_55b, ↓uI_55b, ↓aI_56b, ↓uI_56b, ↓aI_58b, ↓uI_58b, ↓uN_58b, ↓uM_58b, ↓aI_59b, ↓uI_59b, ↓aI_60b, ↓uI_60b, ↓aI_62b, ↓uI_62b, ↓uN_62b, ↓uM_62b, ↓aI_63b, ↓uI_63b, ↓uN_63b, ↓uM_63b, ↓aI_64b, ↓uI_64b, ↓aI_65b, ↓uI_65b, ↓aI_66b, ↓uI_66b, ↓aI_67b, ↓uI_67b, ↓aI_68b, ↓uI_68b, ↓aI_69b, ↓uI_69b, ↓aI_70b, ↓uI_70b, ↓aI_61b, ↓uI_61b, ↓aL_57b, ↓uL_57b, ↓aI_71b, ↓uI_71b, ↓aI_72b, ↓uI_72b, ↓aI_74b, ↓uI_74b, ↓aI_75b, ↓uI_75b, ↓aI_76b, ↓uI_76b, ↓aI_77b, ↓uI_77b, ↓aI_78b, ↓uI_78b, ↓aI_79b, ↓uI_79b, ↓aI_80b, ↓uI_80b, ↓aI_81b, ↓uI_81b, ↓gI_13b, ↓pI_13b, ↓gI_14b, ↓pI_14b, ↓gI_15b, ↓pI_15b, ↓gI_32b, ↓pI_32b, ↓gI_33b, ↓pI_33b, ↓gI_34b, ↓pI_34b, ↓gI_36b, ↓pI_36b, ↓gI_37b, ↓pI_37b, ↓gI_42b, ↓pI_42b, ↓gI_43b, ↓pI_43b, ↓gI_44b, ↓pI_44b, ↓gI_45b, ↓pI_45b, ↓gI_46b, ↓pI_46b, ↓gI_47b, ↓pI_47b, ↓gI_48b, ↓pI_48b, ↓gI_49b, ↓pI_49b, ↓gI_50b, ↓pI_50b, ↓gI_51b, ↓pI_51b, ↓pZ_32b, ↓pZ_33b, ↓pZ_46b, ↓xob_44b, ↓Option.bind_some, xob_44, gR_0, gR_1, gR_2, gR_3, gR_4, gR_5, gR_6, gR_7, gR_8, gR_9, gR_10, gR_11, gR_12, gR_16, gR_17, gR_18, gR_19, gR_20, gR_21, gR_22, gR_23, gR_24, gR_25, gR_26, gR_27, gR_28, gR_29, gR_30, gR_31, gR_35, gR_38, gR_39, gR_40, gR_41, gR_52, gR_53, gR_54, aI_45, aI_46, aI_47, aI_48, aI_49, aI_50, aI_51, aI_52, aI_53, aI_54, aI_55, aI_56, aI_58, aI_59, aI_60, aI_62, aI_63, aI_64, aI_65, aI_66, aI_67, aI_68, aI_69, aI_70, aI_61, aL_57, aI_71, aI_72, aI_74, aI_75, aI_76, aI_77, aI_78, aI_79, aI_80, aI_81, uI_45, uI_46, uI_47, uI_48, uI_49, uI_50, uI_51, uI_52, uI_53, uI_54, uI_55, uI_56, uI_58, uN_58, uM_58, uI_59, uI_60, uI_62, uN_62, uM_62, uI_63, uN_63, uM_63, uI_64, uI_65, uI_66, uI_67, uI_68, uI_69, uI_70, uI_61, uL_57, uI_71, uI_72, uI_74, uI_75, uI_76, uI_77, uI_78, uI_79, uI_80, uI_81, gI_13, gI_14, gI_15, gI_32, gI_33, gI_34, gI_36, gI_37, gI_42, gI_43, gI_44, gI_45, gI_46, gI_47, gI_48, gI_49, gI_50, gI_51, pI_13, pI_14, pI_15, pI_32, pI_33, pI_34, pI_36, pI_37, pI_42, pI_43, pI_44, pI_45, pI_46, pI_47, pI_48, pI_49, pI_50, pI_51, pZ_32, pZ_33, pZ_46, Option.bind_some, kl_0, kl_1, kl_2, kl_3, kl_4, kl_5, kl_6, kl_7, kl_8, kl_10, kl_13, kl_14, kl_15, kl_16, kl_24, kl_25, kl_26, kl_31, kl_32, kl_36, kl_40, kl_62, kl_99, kl_100, kl_255, kl_400, kl_992, kl_1023, kl_1024, kl_1984, kl_9200, kl_4600, kl_48, kl_57, kl_97, kl_122, kl_32767, nI_add, pk_mul, en_neg0, en_0le, nI_0le, nI_n0, m9_0le, m9_neg, h, Nat.not_lt_zero, if_true, if_false, not_true, not_false_iff, and_true, true_and, and_false, false_and, Bool.false_eq_true, reduceCtorEq]; rw [en_ge (by omega)]
/-! free ones -/
def qFreeK (s : xS) (p : Nat) : Nat := fF (fun k => s.1 17 (62 * p + k) == 0) (qPer s (s.1 13 p)) 0
def qFreeIn (s : xS) (p : Nat) : Nat := if qFreeK s p < qPer s (s.1 13 p) then 62 * p + qFreeK s p else 1984
theorem M_freeIn {d : Int32} {s : xS} {X : xMem} {p : Nat} (hW : XW X) (hR : WR0 s) (hS : ∀ b, b < 1984 → s.1 17 b ≤ 2) (hp : p < 32) (h4 : s.1 13 p < 4) : fM_freeIn (mM d s X) (44, 0, 0) (nI p) = some (en 1984 (-9) (qFreeIn s p), mM d s X) := by
  have hg := hR.pg hp h4
  have key : ∀ e i n, i + e = qPer s (s.1 13 p) → e < n → fM_freeIn_2 n (mM d s X) (some (44, 0, 0)) (nI p) (nI i) = some (if fF (fun k => s.1 17 (62 * p + k) == 0) e i < qPer s (s.1 13 p) then nI (62 * p + fF (fun k => s.1 17 (62 * p + k) == 0) e i) else -9, mM d s X) := by
    intro e
    induction e with
    | zero =>
      intro i n hi hn
      obtain ⟨n, rfl⟩ : ∃ m, n = m + 1 := ⟨n - 1, by omega⟩
      have h5 : qPer s (s.1 13 p) ≤ i := by omega
      have h6 : ¬ i < qPer s (s.1 13 p) := by omega
      simp (disch := first | assumption | omega | decide | with_unfolding_all exact hW) only [fM_freeIn_2, ↓gR_0b, ↓gR_1b, ↓gR_2b, ↓gR_3b, ↓gR_4b, ↓gR_5b, ↓gR_6b, ↓gR_7b, ↓gR_8b, ↓gR_9b, ↓gR_10b, ↓gR_11b, ↓gR_12b, ↓gR_16b, ↓gR_17b, ↓gR_18b, ↓gR_19b, ↓gR_20b, ↓gR_21b, ↓gR_22b, ↓gR_23b, ↓gR_24b, ↓gR_25b, ↓gR_26b, ↓gR_27b, ↓gR_28b, ↓gR_29b, ↓gR_30b, ↓gR_31b, ↓gR_35b, ↓gR_38b, ↓gR_39b, ↓gR_40b, ↓gR_41b, ↓gR_52b, ↓gR_53b, ↓gR_54b, ↓aI_45b, ↓uI_45b, ↓aI_46b, ↓uI_46b, ↓aI_47b, ↓uI_47b, ↓aI_48b, ↓uI_48b, ↓aI_49b, ↓uI_49b, ↓aI_50b, ↓uI_50b, ↓aI_51b, ↓uI_51b, ↓aI_52b, ↓uI_52b, ↓aI_53b, ↓uI_53b, ↓aI_54b, ↓uI_54b, ↓aI_55b, ↓uI_55b, ↓aI_56b, ↓uI_56b, ↓aI_58b, ↓uI_58b, ↓uN_58b, ↓uM_58b, ↓aI_59b, ↓uI_59b, ↓aI_60b, ↓uI_60b, ↓aI_62b, ↓uI_62b, ↓uN_62b, ↓uM_62b, ↓aI_63b, ↓uI_63b, ↓uN_63b, ↓uM_63b, ↓aI_64b, ↓uI_64b, ↓aI_65b, ↓uI_65b, ↓aI_66b, ↓uI_66b, ↓aI_67b, ↓uI_67b, ↓aI_68b, ↓uI_68b, ↓aI_69b, ↓uI_69b, ↓aI_70b, ↓uI_70b, ↓aI_61b, ↓uI_61b, ↓aL_57b, ↓uL_57b, ↓aI_71b, ↓uI_71b, ↓aI_72b, ↓uI_72b, ↓aI_74b, ↓uI_74b, ↓aI_75b, ↓uI_75b, ↓aI_76b, ↓uI_76b, ↓aI_77b, ↓uI_77b, ↓aI_78b, ↓uI_78b, ↓aI_79b, ↓uI_79b, ↓aI_80b, ↓uI_80b, ↓aI_81b, ↓uI_81b, ↓gI_13b, ↓pI_13b, ↓gI_14b, ↓pI_14b, ↓gI_15b, ↓pI_15b, ↓gI_32b, ↓pI_32b, ↓gI_33b, ↓pI_33b, ↓gI_34b, ↓pI_34b, ↓gI_36b, ↓pI_36b, ↓gI_37b, ↓pI_37b, ↓gI_42b, ↓pI_42b, ↓gI_43b, ↓pI_43b, ↓gI_44b, ↓pI_44b, ↓gI_45b, ↓pI_45b, ↓gI_46b, ↓pI_46b, ↓gI_47b, ↓pI_47b, ↓gI_48b, ↓pI_48b, ↓gI_49b, ↓pI_49b, ↓gI_50b, ↓pI_50b, ↓gI_51b, ↓pI_51b, ↓pZ_32b, ↓pZ_33b, ↓pZ_46b, ↓xob_44b, ↓Option.bind_some, xob_44, gR_0, gR_1, gR_2, gR_3, gR_4, gR_5, gR_6, gR_7, gR_8, gR_9, gR_10, gR_11, gR_12, gR_16, gR_17, gR_18, gR_19, gR_20, gR_21, gR_22, gR_23, gR_24, gR_25, gR_26, gR_27, gR_28, gR_29, gR_30, gR_31, gR_35, gR_38, gR_39, gR_40, gR_41, gR_52, gR_53, gR_54, aI_45, aI_46, aI_47, aI_48, aI_49, aI_50, aI_51, aI_52, aI_53, aI_54, aI_55, aI_56, aI_58, aI_59, aI_60, aI_62, aI_63, aI_64, aI_65, aI_66, aI_67, aI_68, aI_69, aI_70, aI_61, aL_57, aI_71, aI_72, aI_74, aI_75, aI_76, aI_77, aI_78, aI_79, aI_80, aI_81, uI_45, uI_46, uI_47, uI_48, uI_49, uI_50, uI_51, uI_52, uI_53, uI_54, uI_55, uI_56, uI_58, uN_58, uM_58, uI_59, uI_60, uI_62, uN_62, uM_62, uI_63, uN_63, uM_63, uI_64, uI_65, uI_66, uI_67, uI_68, uI_69, uI_70, uI_61, uL_57, uI_71, uI_72, uI_74, uI_75, uI_76, uI_77, uI_78, uI_79, uI_80, uI_81, gI_13, gI_14, gI_15, gI_32, gI_33, gI_34, gI_36, gI_37, gI_42, gI_43, gI_44, gI_45, gI_46, gI_47, gI_48, gI_49, gI_50, gI_51, pI_13, pI_14, pI_15, pI_32, pI_33, pI_34, pI_36, pI_37, pI_42, pI_43, pI_44, pI_45, pI_46, pI_47, pI_48, pI_49, pI_50, pI_51, pZ_32, pZ_33, pZ_46, Option.bind_some, kl_0, kl_1, kl_2, kl_3, kl_4, kl_5, kl_6, kl_7, kl_8, kl_10, kl_13, kl_14, kl_15, kl_16, kl_24, kl_25, kl_26, kl_31, kl_32, kl_36, kl_40, kl_62, kl_99, kl_100, kl_255, kl_400, kl_992, kl_1023, kl_1024, kl_1984, kl_9200, kl_4600, kl_48, kl_57, kl_97, kl_122, kl_32767, nI_add, pk_mul, en_lt h4, M_per, nI_leI, fF, h5, h6, Nat.not_lt_zero, if_true, if_false, not_true, not_false_iff, and_true, true_and, and_false, false_and, Bool.false_eq_true, reduceCtorEq]
    | succ e ih =>
      intro i n hi hn
      obtain ⟨n, rfl⟩ : ∃ m, n = m + 1 := ⟨n - 1, by omega⟩
      have := hS (62 * p + i) (by omega)
      have h5 : ¬ qPer s (s.1 13 p) ≤ i := by omega
      simp (disch := first | assumption | omega | decide | with_unfolding_all exact hW) only [fM_freeIn_2, ↓gR_0b, ↓gR_1b, ↓gR_2b, ↓gR_3b, ↓gR_4b, ↓gR_5b, ↓gR_6b, ↓gR_7b, ↓gR_8b, ↓gR_9b, ↓gR_10b, ↓gR_11b, ↓gR_12b, ↓gR_16b, ↓gR_17b, ↓gR_18b, ↓gR_19b, ↓gR_20b, ↓gR_21b, ↓gR_22b, ↓gR_23b, ↓gR_24b, ↓gR_25b, ↓gR_26b, ↓gR_27b, ↓gR_28b, ↓gR_29b, ↓gR_30b, ↓gR_31b, ↓gR_35b, ↓gR_38b, ↓gR_39b, ↓gR_40b, ↓gR_41b, ↓gR_52b, ↓gR_53b, ↓gR_54b, ↓aI_45b, ↓uI_45b, ↓aI_46b, ↓uI_46b, ↓aI_47b, ↓uI_47b, ↓aI_48b, ↓uI_48b, ↓aI_49b, ↓uI_49b, ↓aI_50b, ↓uI_50b, ↓aI_51b, ↓uI_51b, ↓aI_52b, ↓uI_52b, ↓aI_53b, ↓uI_53b, ↓aI_54b, ↓uI_54b, ↓aI_55b, ↓uI_55b, ↓aI_56b, ↓uI_56b, ↓aI_58b, ↓uI_58b, ↓uN_58b, ↓uM_58b, ↓aI_59b, ↓uI_59b, ↓aI_60b, ↓uI_60b, ↓aI_62b, ↓uI_62b, ↓uN_62b, ↓uM_62b, ↓aI_63b, ↓uI_63b, ↓uN_63b, ↓uM_63b, ↓aI_64b, ↓uI_64b, ↓aI_65b, ↓uI_65b, ↓aI_66b, ↓uI_66b, ↓aI_67b, ↓uI_67b, ↓aI_68b, ↓uI_68b, ↓aI_69b, ↓uI_69b, ↓aI_70b, ↓uI_70b, ↓aI_61b, ↓uI_61b, ↓aL_57b, ↓uL_57b, ↓aI_71b, ↓uI_71b, ↓aI_72b, ↓uI_72b, ↓aI_74b, ↓uI_74b, ↓aI_75b, ↓uI_75b, ↓aI_76b, ↓uI_76b, ↓aI_77b, ↓uI_77b, ↓aI_78b, ↓uI_78b, ↓aI_79b, ↓uI_79b, ↓aI_80b, ↓uI_80b, ↓aI_81b, ↓uI_81b, ↓gI_13b, ↓pI_13b, ↓gI_14b, ↓pI_14b, ↓gI_15b, ↓pI_15b, ↓gI_32b, ↓pI_32b, ↓gI_33b, ↓pI_33b, ↓gI_34b, ↓pI_34b, ↓gI_36b, ↓pI_36b, ↓gI_37b, ↓pI_37b, ↓gI_42b, ↓pI_42b, ↓gI_43b, ↓pI_43b, ↓gI_44b, ↓pI_44b, ↓gI_45b, ↓pI_45b, ↓gI_46b, ↓pI_46b, ↓gI_47b, ↓pI_47b, ↓gI_48b, ↓pI_48b, ↓gI_49b, ↓pI_49b, ↓gI_50b, ↓pI_50b, ↓gI_51b, ↓pI_51b, ↓pZ_32b, ↓pZ_33b, ↓pZ_46b, ↓xob_44b, ↓Option.bind_some, xob_44, gR_0, gR_1, gR_2, gR_3, gR_4, gR_5, gR_6, gR_7, gR_8, gR_9, gR_10, gR_11, gR_12, gR_16, gR_17, gR_18, gR_19, gR_20, gR_21, gR_22, gR_23, gR_24, gR_25, gR_26, gR_27, gR_28, gR_29, gR_30, gR_31, gR_35, gR_38, gR_39, gR_40, gR_41, gR_52, gR_53, gR_54, aI_45, aI_46, aI_47, aI_48, aI_49, aI_50, aI_51, aI_52, aI_53, aI_54, aI_55, aI_56, aI_58, aI_59, aI_60, aI_62, aI_63, aI_64, aI_65, aI_66, aI_67, aI_68, aI_69, aI_70, aI_61, aL_57, aI_71, aI_72, aI_74, aI_75, aI_76, aI_77, aI_78, aI_79, aI_80, aI_81, uI_45, uI_46, uI_47, uI_48, uI_49, uI_50, uI_51, uI_52, uI_53, uI_54, uI_55, uI_56, uI_58, uN_58, uM_58, uI_59, uI_60, uI_62, uN_62, uM_62, uI_63, uN_63, uM_63, uI_64, uI_65, uI_66, uI_67, uI_68, uI_69, uI_70, uI_61, uL_57, uI_71, uI_72, uI_74, uI_75, uI_76, uI_77, uI_78, uI_79, uI_80, uI_81, gI_13, gI_14, gI_15, gI_32, gI_33, gI_34, gI_36, gI_37, gI_42, gI_43, gI_44, gI_45, gI_46, gI_47, gI_48, gI_49, gI_50, gI_51, pI_13, pI_14, pI_15, pI_32, pI_33, pI_34, pI_36, pI_37, pI_42, pI_43, pI_44, pI_45, pI_46, pI_47, pI_48, pI_49, pI_50, pI_51, pZ_32, pZ_33, pZ_46, Option.bind_some, kl_0, kl_1, kl_2, kl_3, kl_4, kl_5, kl_6, kl_7, kl_8, kl_10, kl_13, kl_14, kl_15, kl_16, kl_24, kl_25, kl_26, kl_31, kl_32, kl_36, kl_40, kl_62, kl_99, kl_100, kl_255, kl_400, kl_992, kl_1023, kl_1024, kl_1984, kl_9200, kl_4600, kl_48, kl_57, kl_97, kl_122, kl_32767, nI_add, pk_mul, en_lt h4, M_per, nI_leI, nI_eq, h5, Nat.not_lt_zero, if_true, if_false, not_true, not_false_iff, and_true, true_and, and_false, false_and, Bool.false_eq_true, reduceCtorEq]
      unfold fF
      by_cases h0 : s.1 17 (62 * p + i) = 0
      · simp only [h0, BEq.rfl, if_true]; rw [if_pos (by omega)]
      · simp only [h0, if_false, beq_iff_eq]
        exact ih (i + 1) n (by omega) (by omega)
  unfold fM_freeIn qFreeIn qFreeK
  rw [kl_0, key (qPer s (s.1 13 p)) 0 xF (by omega) (by unfold xF; omega)]
  split
  next h => rw [en_lt (by omega)]
  next => rw [en_ge (by omega)]
def qFirstP (s : xS) (c : Nat) : Nat := fF (fun p => s.1 13 p == c && decide (qFreeIn s p < 1984)) 32 0
def qFirst (s : xS) (c : Nat) : Nat := if qFirstP s c < 32 then qFreeIn s (qFirstP s c) else 1984
theorem M_firstFree {d : Int32} {s : xS} {X : xMem} {c : Nat} (hW : XW X) (hR : WR0 s) (hS : ∀ b, b < 1984 → s.1 17 b ≤ 2) (hc : c < 4) : fM_firstFree (mM d s X) (44, 0, 0) (nI c) = some (en 1984 (-9) (qFirst s c), mM d s X) := by
  have key : ∀ e i n, i + e = 32 → e < n → fM_firstFree_2 n (mM d s X) (some (44, 0, 0)) (nI c) (nI i) = some (if fF (fun p => s.1 13 p == c && decide (qFreeIn s p < 1984)) e i < 32 then en 1984 (-9) (qFreeIn s (fF (fun p => s.1 13 p == c && decide (qFreeIn s p < 1984)) e i)) else -9, mM d s X) := by
    intro e
    induction e with
    | zero =>
      intro i n hi hn
      obtain ⟨n, rfl⟩ : ∃ m, n = m + 1 := ⟨n - 1, by omega⟩
      have h5 : 32 ≤ i := by omega
      have h6 : ¬ i < 32 := by omega
      simp (disch := first | assumption | omega | decide | with_unfolding_all exact hW) only [fM_firstFree_2, ↓gR_0b, ↓gR_1b, ↓gR_2b, ↓gR_3b, ↓gR_4b, ↓gR_5b, ↓gR_6b, ↓gR_7b, ↓gR_8b, ↓gR_9b, ↓gR_10b, ↓gR_11b, ↓gR_12b, ↓gR_16b, ↓gR_17b, ↓gR_18b, ↓gR_19b, ↓gR_20b, ↓gR_21b, ↓gR_22b, ↓gR_23b, ↓gR_24b, ↓gR_25b, ↓gR_26b, ↓gR_27b, ↓gR_28b, ↓gR_29b, ↓gR_30b, ↓gR_31b, ↓gR_35b, ↓gR_38b, ↓gR_39b, ↓gR_40b, ↓gR_41b, ↓gR_52b, ↓gR_53b, ↓gR_54b, ↓aI_45b, ↓uI_45b, ↓aI_46b, ↓uI_46b, ↓aI_47b, ↓uI_47b, ↓aI_48b, ↓uI_48b, ↓aI_49b, ↓uI_49b, ↓aI_50b, ↓uI_50b, ↓aI_51b, ↓uI_51b, ↓aI_52b, ↓uI_52b, ↓aI_53b, ↓uI_53b, ↓aI_54b, ↓uI_54b, ↓aI_55b, ↓uI_55b, ↓aI_56b, ↓uI_56b, ↓aI_58b, ↓uI_58b, ↓uN_58b, ↓uM_58b, ↓aI_59b, ↓uI_59b, ↓aI_60b, ↓uI_60b, ↓aI_62b, ↓uI_62b, ↓uN_62b, ↓uM_62b, ↓aI_63b, ↓uI_63b, ↓uN_63b, ↓uM_63b, ↓aI_64b, ↓uI_64b, ↓aI_65b, ↓uI_65b, ↓aI_66b, ↓uI_66b, ↓aI_67b, ↓uI_67b, ↓aI_68b, ↓uI_68b, ↓aI_69b, ↓uI_69b, ↓aI_70b, ↓uI_70b, ↓aI_61b, ↓uI_61b, ↓aL_57b, ↓uL_57b, ↓aI_71b, ↓uI_71b, ↓aI_72b, ↓uI_72b, ↓aI_74b, ↓uI_74b, ↓aI_75b, ↓uI_75b, ↓aI_76b, ↓uI_76b, ↓aI_77b, ↓uI_77b, ↓aI_78b, ↓uI_78b, ↓aI_79b, ↓uI_79b, ↓aI_80b, ↓uI_80b, ↓aI_81b, ↓uI_81b, ↓gI_13b, ↓pI_13b, ↓gI_14b, ↓pI_14b, ↓gI_15b, ↓pI_15b, ↓gI_32b, ↓pI_32b, ↓gI_33b, ↓pI_33b, ↓gI_34b, ↓pI_34b, ↓gI_36b, ↓pI_36b, ↓gI_37b, ↓pI_37b, ↓gI_42b, ↓pI_42b, ↓gI_43b, ↓pI_43b, ↓gI_44b, ↓pI_44b, ↓gI_45b, ↓pI_45b, ↓gI_46b, ↓pI_46b, ↓gI_47b, ↓pI_47b, ↓gI_48b, ↓pI_48b, ↓gI_49b, ↓pI_49b, ↓gI_50b, ↓pI_50b, ↓gI_51b, ↓pI_51b, ↓pZ_32b, ↓pZ_33b, ↓pZ_46b, ↓xob_44b, ↓Option.bind_some, xob_44, gR_0, gR_1, gR_2, gR_3, gR_4, gR_5, gR_6, gR_7, gR_8, gR_9, gR_10, gR_11, gR_12, gR_16, gR_17, gR_18, gR_19, gR_20, gR_21, gR_22, gR_23, gR_24, gR_25, gR_26, gR_27, gR_28, gR_29, gR_30, gR_31, gR_35, gR_38, gR_39, gR_40, gR_41, gR_52, gR_53, gR_54, aI_45, aI_46, aI_47, aI_48, aI_49, aI_50, aI_51, aI_52, aI_53, aI_54, aI_55, aI_56, aI_58, aI_59, aI_60, aI_62, aI_63, aI_64, aI_65, aI_66, aI_67, aI_68, aI_69, aI_70, aI_61, aL_57, aI_71, aI_72, aI_74, aI_75, aI_76, aI_77, aI_78, aI_79, aI_80, aI_81, uI_45, uI_46, uI_47, uI_48, uI_49, uI_50, uI_51, uI_52, uI_53, uI_54, uI_55, uI_56, uI_58, uN_58, uM_58, uI_59, uI_60, uI_62, uN_62, uM_62, uI_63, uN_63, uM_63, uI_64, uI_65, uI_66, uI_67, uI_68, uI_69, uI_70, uI_61, uL_57, uI_71, uI_72, uI_74, uI_75, uI_76, uI_77, uI_78, uI_79, uI_80, uI_81, gI_13, gI_14, gI_15, gI_32, gI_33, gI_34, gI_36, gI_37, gI_42, gI_43, gI_44, gI_45, gI_46, gI_47, gI_48, gI_49, gI_50, gI_51, pI_13, pI_14, pI_15, pI_32, pI_33, pI_34, pI_36, pI_37, pI_42, pI_43, pI_44, pI_45, pI_46, pI_47, pI_48, pI_49, pI_50, pI_51, pZ_32, pZ_33, pZ_46, Option.bind_some, kl_0, kl_1, kl_2, kl_3, kl_4, kl_5, kl_6, kl_7, kl_8, kl_10, kl_13, kl_14, kl_15, kl_16, kl_24, kl_25, kl_26, kl_31, kl_32, kl_36, kl_40, kl_62, kl_99, kl_100, kl_255, kl_400, kl_992, kl_1023, kl_1024, kl_1984, kl_9200, kl_4600, kl_48, kl_57, kl_97, kl_122, kl_32767, nI_add, pk_mul, nI_leI, fF, h5, h6, Nat.not_lt_zero, if_true, if_false, not_true, not_false_iff, and_true, true_and, and_false, false_and, Bool.false_eq_true, reduceCtorEq]
    | succ e ih =>
      intro i n hi hn
      obtain ⟨n, rfl⟩ : ∃ m, n = m + 1 := ⟨n - 1, by omega⟩
      have h5 : ¬ 32 ≤ i := by omega
      simp (disch := first | assumption | omega | decide | with_unfolding_all exact hW) only [fM_firstFree_2, fM_firstFree_33, ↓gR_0b, ↓gR_1b, ↓gR_2b, ↓gR_3b, ↓gR_4b, ↓gR_5b, ↓gR_6b, ↓gR_7b, ↓gR_8b, ↓gR_9b, ↓gR_10b, ↓gR_11b, ↓gR_12b, ↓gR_16b, ↓gR_17b, ↓gR_18b, ↓gR_19b, ↓gR_20b, ↓gR_21b, ↓gR_22b, ↓gR_23b, ↓gR_24b, ↓gR_25b, ↓gR_26b, ↓gR_27b, ↓gR_28b, ↓gR_29b, ↓gR_30b, ↓gR_31b, ↓gR_35b, ↓gR_38b, ↓gR_39b, ↓gR_40b, ↓gR_41b, ↓gR_52b, ↓gR_53b, ↓gR_54b, ↓aI_45b, ↓uI_45b, ↓aI_46b, ↓uI_46b, ↓aI_47b, ↓uI_47b, ↓aI_48b, ↓uI_48b, ↓aI_49b, ↓uI_49b, ↓aI_50b, ↓uI_50b, ↓aI_51b, ↓uI_51b, ↓aI_52b, ↓uI_52b, ↓aI_53b, ↓uI_53b, ↓aI_54b, ↓uI_54b, ↓aI_55b, ↓uI_55b, ↓aI_56b, ↓uI_56b, ↓aI_58b, ↓uI_58b, ↓uN_58b, ↓uM_58b, ↓aI_59b, ↓uI_59b, ↓aI_60b, ↓uI_60b, ↓aI_62b, ↓uI_62b, ↓uN_62b, ↓uM_62b, ↓aI_63b, ↓uI_63b, ↓uN_63b, ↓uM_63b, ↓aI_64b, ↓uI_64b, ↓aI_65b, ↓uI_65b, ↓aI_66b, ↓uI_66b, ↓aI_67b, ↓uI_67b, ↓aI_68b, ↓uI_68b, ↓aI_69b, ↓uI_69b, ↓aI_70b, ↓uI_70b, ↓aI_61b, ↓uI_61b, ↓aL_57b, ↓uL_57b, ↓aI_71b, ↓uI_71b, ↓aI_72b, ↓uI_72b, ↓aI_74b, ↓uI_74b, ↓aI_75b, ↓uI_75b, ↓aI_76b, ↓uI_76b, ↓aI_77b, ↓uI_77b, ↓aI_78b, ↓uI_78b, ↓aI_79b, ↓uI_79b, ↓aI_80b, ↓uI_80b, ↓aI_81b, ↓uI_81b, ↓gI_13b, ↓pI_13b, ↓gI_14b, ↓pI_14b, ↓gI_15b, ↓pI_15b, ↓gI_32b, ↓pI_32b, ↓gI_33b, ↓pI_33b, ↓gI_34b, ↓pI_34b, ↓gI_36b, ↓pI_36b, ↓gI_37b, ↓pI_37b, ↓gI_42b, ↓pI_42b, ↓gI_43b, ↓pI_43b, ↓gI_44b, ↓pI_44b, ↓gI_45b, ↓pI_45b, ↓gI_46b, ↓pI_46b, ↓gI_47b, ↓pI_47b, ↓gI_48b, ↓pI_48b, ↓gI_49b, ↓pI_49b, ↓gI_50b, ↓pI_50b, ↓gI_51b, ↓pI_51b, ↓pZ_32b, ↓pZ_33b, ↓pZ_46b, ↓xob_44b, ↓Option.bind_some, xob_44, gR_0, gR_1, gR_2, gR_3, gR_4, gR_5, gR_6, gR_7, gR_8, gR_9, gR_10, gR_11, gR_12, gR_16, gR_17, gR_18, gR_19, gR_20, gR_21, gR_22, gR_23, gR_24, gR_25, gR_26, gR_27, gR_28, gR_29, gR_30, gR_31, gR_35, gR_38, gR_39, gR_40, gR_41, gR_52, gR_53, gR_54, aI_45, aI_46, aI_47, aI_48, aI_49, aI_50, aI_51, aI_52, aI_53, aI_54, aI_55, aI_56, aI_58, aI_59, aI_60, aI_62, aI_63, aI_64, aI_65, aI_66, aI_67, aI_68, aI_69, aI_70, aI_61, aL_57, aI_71, aI_72, aI_74, aI_75, aI_76, aI_77, aI_78, aI_79, aI_80, aI_81, uI_45, uI_46, uI_47, uI_48, uI_49, uI_50, uI_51, uI_52, uI_53, uI_54, uI_55, uI_56, uI_58, uN_58, uM_58, uI_59, uI_60, uI_62, uN_62, uM_62, uI_63, uN_63, uM_63, uI_64, uI_65, uI_66, uI_67, uI_68, uI_69, uI_70, uI_61, uL_57, uI_71, uI_72, uI_74, uI_75, uI_76, uI_77, uI_78, uI_79, uI_80, uI_81, gI_13, gI_14, gI_15, gI_32, gI_33, gI_34, gI_36, gI_37, gI_42, gI_43, gI_44, gI_45, gI_46, gI_47, gI_48, gI_49, gI_50, gI_51, pI_13, pI_14, pI_15, pI_32, pI_33, pI_34, pI_36, pI_37, pI_42, pI_43, pI_44, pI_45, pI_46, pI_47, pI_48, pI_49, pI_50, pI_51, pZ_32, pZ_33, pZ_46, Option.bind_some, kl_0, kl_1, kl_2, kl_3, kl_4, kl_5, kl_6, kl_7, kl_8, kl_10, kl_13, kl_14, kl_15, kl_16, kl_24, kl_25, kl_26, kl_31, kl_32, kl_36, kl_40, kl_62, kl_99, kl_100, kl_255, kl_400, kl_992, kl_1023, kl_1024, kl_1984, kl_9200, kl_4600, kl_48, kl_57, kl_97, kl_122, kl_32767, nI_add, pk_mul, nI_leI, en_eq, h5, Nat.not_lt_zero, if_true, if_false, not_true, not_false_iff, and_true, true_and, and_false, false_and, Bool.false_eq_true, reduceCtorEq]
      unfold fF
      by_cases h0 : s.1 13 i = c
      · rw [if_pos h0]
        have h40 : s.1 13 i < 4 := by omega
        simp (disch := first | assumption | omega | decide | with_unfolding_all exact hW) only [M_freeIn, Option.bind_some, en_neg0]
        by_cases h1 : qFreeIn s i < 1984
        · simp only [h0, h1, Nat.not_lt_zero, if_true, if_false, not_true, not_false_iff, and_true, true_and, and_false, false_and, Bool.false_eq_true, reduceCtorEq, BEq.rfl, decide_true, Bool.and_self]
          rw [if_pos (by omega)]
        · simp only [h0, h1, Nat.not_lt_zero, if_true, if_false, not_true, not_false_iff, and_true, true_and, and_false, false_and, Bool.false_eq_true, reduceCtorEq, BEq.rfl, decide_false, Bool.and_false]
          exact ih (i + 1) n (by omega) (by omega)
      · rw [if_neg h0]
        simp only [beq_eq_false_iff_ne.mpr h0, Bool.false_and, Nat.not_lt_zero, if_true, if_false, not_true, not_false_iff, and_true, true_and, and_false, false_and, Bool.false_eq_true, reduceCtorEq]
        exact ih (i + 1) n (by omega) (by omega)
  unfold fM_firstFree qFirst qFirstP
  rw [kl_0, key 32 0 xF (by omega) (by unfold xF; omega)]
  split
  next h => rfl
  next => rw [en_ge (by omega)]
def qPage (s : xS) : Nat := fF (fun p => !decide (s.1 13 p < 4)) 32 0
theorem M_freePage {d : Int32} {s : xS} {X : xMem} (hW : XW X) : fM_freePage (mM d s X) (44, 0, 0) = some (en 32 (-9) (qPage s), mM d s X) := by
  have key : ∀ e i n, i + e = 32 → e < n → fM_freePage_2 n (mM d s X) (some (44, 0, 0)) (nI i) = some (en 32 (-9) (fF (fun p => !decide (s.1 13 p < 4)) e i), mM d s X) := by
    intro e
    induction e with
    | zero =>
      intro i n hi hn
      obtain ⟨n, rfl⟩ : ∃ m, n = m + 1 := ⟨n - 1, by omega⟩
      have h5 : 32 ≤ i := by omega
      simp (disch := first | assumption | omega | decide | with_unfolding_all exact hW) only [fM_freePage_2, ↓gR_0b, ↓gR_1b, ↓gR_2b, ↓gR_3b, ↓gR_4b, ↓gR_5b, ↓gR_6b, ↓gR_7b, ↓gR_8b, ↓gR_9b, ↓gR_10b, ↓gR_11b, ↓gR_12b, ↓gR_16b, ↓gR_17b, ↓gR_18b, ↓gR_19b, ↓gR_20b, ↓gR_21b, ↓gR_22b, ↓gR_23b, ↓gR_24b, ↓gR_25b, ↓gR_26b, ↓gR_27b, ↓gR_28b, ↓gR_29b, ↓gR_30b, ↓gR_31b, ↓gR_35b, ↓gR_38b, ↓gR_39b, ↓gR_40b, ↓gR_41b, ↓gR_52b, ↓gR_53b, ↓gR_54b, ↓aI_45b, ↓uI_45b, ↓aI_46b, ↓uI_46b, ↓aI_47b, ↓uI_47b, ↓aI_48b, ↓uI_48b, ↓aI_49b, ↓uI_49b, ↓aI_50b, ↓uI_50b, ↓aI_51b, ↓uI_51b, ↓aI_52b, ↓uI_52b, ↓aI_53b, ↓uI_53b, ↓aI_54b, ↓uI_54b, ↓aI_55b, ↓uI_55b, ↓aI_56b, ↓uI_56b, ↓aI_58b, ↓uI_58b, ↓uN_58b, ↓uM_58b, ↓aI_59b, ↓uI_59b, ↓aI_60b, ↓uI_60b, ↓aI_62b, ↓uI_62b, ↓uN_62b, ↓uM_62b, ↓aI_63b, ↓uI_63b, ↓uN_63b, ↓uM_63b, ↓aI_64b, ↓uI_64b, ↓aI_65b, ↓uI_65b, ↓aI_66b, ↓uI_66b, ↓aI_67b, ↓uI_67b, ↓aI_68b, ↓uI_68b, ↓aI_69b, ↓uI_69b, ↓aI_70b, ↓uI_70b, ↓aI_61b, ↓uI_61b, ↓aL_57b, ↓uL_57b, ↓aI_71b, ↓uI_71b, ↓aI_72b, ↓uI_72b, ↓aI_74b, ↓uI_74b, ↓aI_75b, ↓uI_75b, ↓aI_76b, ↓uI_76b, ↓aI_77b, ↓uI_77b, ↓aI_78b, ↓uI_78b, ↓aI_79b, ↓uI_79b, ↓aI_80b, ↓uI_80b, ↓aI_81b, ↓uI_81b, ↓gI_13b, ↓pI_13b, ↓gI_14b, ↓pI_14b, ↓gI_15b, ↓pI_15b, ↓gI_32b, ↓pI_32b, ↓gI_33b, ↓pI_33b, ↓gI_34b, ↓pI_34b, ↓gI_36b, ↓pI_36b, ↓gI_37b, ↓pI_37b, ↓gI_42b, ↓pI_42b, ↓gI_43b, ↓pI_43b, ↓gI_44b, ↓pI_44b, ↓gI_45b, ↓pI_45b, ↓gI_46b, ↓pI_46b, ↓gI_47b, ↓pI_47b, ↓gI_48b, ↓pI_48b, ↓gI_49b, ↓pI_49b, ↓gI_50b, ↓pI_50b, ↓gI_51b, ↓pI_51b, ↓pZ_32b, ↓pZ_33b, ↓pZ_46b, ↓xob_44b, ↓Option.bind_some, xob_44, gR_0, gR_1, gR_2, gR_3, gR_4, gR_5, gR_6, gR_7, gR_8, gR_9, gR_10, gR_11, gR_12, gR_16, gR_17, gR_18, gR_19, gR_20, gR_21, gR_22, gR_23, gR_24, gR_25, gR_26, gR_27, gR_28, gR_29, gR_30, gR_31, gR_35, gR_38, gR_39, gR_40, gR_41, gR_52, gR_53, gR_54, aI_45, aI_46, aI_47, aI_48, aI_49, aI_50, aI_51, aI_52, aI_53, aI_54, aI_55, aI_56, aI_58, aI_59, aI_60, aI_62, aI_63, aI_64, aI_65, aI_66, aI_67, aI_68, aI_69, aI_70, aI_61, aL_57, aI_71, aI_72, aI_74, aI_75, aI_76, aI_77, aI_78, aI_79, aI_80, aI_81, uI_45, uI_46, uI_47, uI_48, uI_49, uI_50, uI_51, uI_52, uI_53, uI_54, uI_55, uI_56, uI_58, uN_58, uM_58, uI_59, uI_60, uI_62, uN_62, uM_62, uI_63, uN_63, uM_63, uI_64, uI_65, uI_66, uI_67, uI_68, uI_69, uI_70, uI_61, uL_57, uI_71, uI_72, uI_74, uI_75, uI_76, uI_77, uI_78, uI_79, uI_80, uI_81, gI_13, gI_14, gI_15, gI_32, gI_33, gI_34, gI_36, gI_37, gI_42, gI_43, gI_44, gI_45, gI_46, gI_47, gI_48, gI_49, gI_50, gI_51, pI_13, pI_14, pI_15, pI_32, pI_33, pI_34, pI_36, pI_37, pI_42, pI_43, pI_44, pI_45, pI_46, pI_47, pI_48, pI_49, pI_50, pI_51, pZ_32, pZ_33, pZ_46, Option.bind_some, kl_0, kl_1, kl_2, kl_3, kl_4, kl_5, kl_6, kl_7, kl_8, kl_10, kl_13, kl_14, kl_15, kl_16, kl_24, kl_25, kl_26, kl_31, kl_32, kl_36, kl_40, kl_62, kl_99, kl_100, kl_255, kl_400, kl_992, kl_1023, kl_1024, kl_1984, kl_9200, kl_4600, kl_48, kl_57, kl_97, kl_122, kl_32767, nI_add, pk_mul, nI_leI, fF, h5, Nat.not_lt_zero, if_true, if_false, not_true, not_false_iff, and_true, true_and, and_false, false_and, Bool.false_eq_true, reduceCtorEq]
      rw [en_ge (by omega)]
    | succ e ih =>
      intro i n hi hn
      obtain ⟨n, rfl⟩ : ∃ m, n = m + 1 := ⟨n - 1, by omega⟩
      have h5 : ¬ 32 ≤ i := by omega
      simp (disch := first | assumption | omega | decide | with_unfolding_all exact hW) only [fM_freePage_2, ↓gR_0b, ↓gR_1b, ↓gR_2b, ↓gR_3b, ↓gR_4b, ↓gR_5b, ↓gR_6b, ↓gR_7b, ↓gR_8b, ↓gR_9b, ↓gR_10b, ↓gR_11b, ↓gR_12b, ↓gR_16b, ↓gR_17b, ↓gR_18b, ↓gR_19b, ↓gR_20b, ↓gR_21b, ↓gR_22b, ↓gR_23b, ↓gR_24b, ↓gR_25b, ↓gR_26b, ↓gR_27b, ↓gR_28b, ↓gR_29b, ↓gR_30b, ↓gR_31b, ↓gR_35b, ↓gR_38b, ↓gR_39b, ↓gR_40b, ↓gR_41b, ↓gR_52b, ↓gR_53b, ↓gR_54b, ↓aI_45b, ↓uI_45b, ↓aI_46b, ↓uI_46b, ↓aI_47b, ↓uI_47b, ↓aI_48b, ↓uI_48b, ↓aI_49b, ↓uI_49b, ↓aI_50b, ↓uI_50b, ↓aI_51b, ↓uI_51b, ↓aI_52b, ↓uI_52b, ↓aI_53b, ↓uI_53b, ↓aI_54b, ↓uI_54b, ↓aI_55b, ↓uI_55b, ↓aI_56b, ↓uI_56b, ↓aI_58b, ↓uI_58b, ↓uN_58b, ↓uM_58b, ↓aI_59b, ↓uI_59b, ↓aI_60b, ↓uI_60b, ↓aI_62b, ↓uI_62b, ↓uN_62b, ↓uM_62b, ↓aI_63b, ↓uI_63b, ↓uN_63b, ↓uM_63b, ↓aI_64b, ↓uI_64b, ↓aI_65b, ↓uI_65b, ↓aI_66b, ↓uI_66b, ↓aI_67b, ↓uI_67b, ↓aI_68b, ↓uI_68b, ↓aI_69b, ↓uI_69b, ↓aI_70b, ↓uI_70b, ↓aI_61b, ↓uI_61b, ↓aL_57b, ↓uL_57b, ↓aI_71b, ↓uI_71b, ↓aI_72b, ↓uI_72b, ↓aI_74b, ↓uI_74b, ↓aI_75b, ↓uI_75b, ↓aI_76b, ↓uI_76b, ↓aI_77b, ↓uI_77b, ↓aI_78b, ↓uI_78b, ↓aI_79b, ↓uI_79b, ↓aI_80b, ↓uI_80b, ↓aI_81b, ↓uI_81b, ↓gI_13b, ↓pI_13b, ↓gI_14b, ↓pI_14b, ↓gI_15b, ↓pI_15b, ↓gI_32b, ↓pI_32b, ↓gI_33b, ↓pI_33b, ↓gI_34b, ↓pI_34b, ↓gI_36b, ↓pI_36b, ↓gI_37b, ↓pI_37b, ↓gI_42b, ↓pI_42b, ↓gI_43b, ↓pI_43b, ↓gI_44b, ↓pI_44b, ↓gI_45b, ↓pI_45b, ↓gI_46b, ↓pI_46b, ↓gI_47b, ↓pI_47b, ↓gI_48b, ↓pI_48b, ↓gI_49b, ↓pI_49b, ↓gI_50b, ↓pI_50b, ↓gI_51b, ↓pI_51b, ↓pZ_32b, ↓pZ_33b, ↓pZ_46b, ↓xob_44b, ↓Option.bind_some, xob_44, gR_0, gR_1, gR_2, gR_3, gR_4, gR_5, gR_6, gR_7, gR_8, gR_9, gR_10, gR_11, gR_12, gR_16, gR_17, gR_18, gR_19, gR_20, gR_21, gR_22, gR_23, gR_24, gR_25, gR_26, gR_27, gR_28, gR_29, gR_30, gR_31, gR_35, gR_38, gR_39, gR_40, gR_41, gR_52, gR_53, gR_54, aI_45, aI_46, aI_47, aI_48, aI_49, aI_50, aI_51, aI_52, aI_53, aI_54, aI_55, aI_56, aI_58, aI_59, aI_60, aI_62, aI_63, aI_64, aI_65, aI_66, aI_67, aI_68, aI_69, aI_70, aI_61, aL_57, aI_71, aI_72, aI_74, aI_75, aI_76, aI_77, aI_78, aI_79, aI_80, aI_81, uI_45, uI_46, uI_47, uI_48, uI_49, uI_50, uI_51, uI_52, uI_53, uI_54, uI_55, uI_56, uI_58, uN_58, uM_58, uI_59, uI_60, uI_62, uN_62, uM_62, uI_63, uN_63, uM_63, uI_64, uI_65, uI_66, uI_67, uI_68, uI_69, uI_70, uI_61, uL_57, uI_71, uI_72, uI_74, uI_75, uI_76, uI_77, uI_78, uI_79, uI_80, uI_81, gI_13, gI_14, gI_15, gI_32, gI_33, gI_34, gI_36, gI_37, gI_42, gI_43, gI_44, gI_45, gI_46, gI_47, gI_48, gI_49, gI_50, gI_51, pI_13, pI_14, pI_15, pI_32, pI_33, pI_34, pI_36, pI_37, pI_42, pI_43, pI_44, pI_45, pI_46, pI_47, pI_48, pI_49, pI_50, pI_51, pZ_32, pZ_33, pZ_46, Option.bind_some, kl_0, kl_1, kl_2, kl_3, kl_4, kl_5, kl_6, kl_7, kl_8, kl_10, kl_13, kl_14, kl_15, kl_16, kl_24, kl_25, kl_26, kl_31, kl_32, kl_36, kl_40, kl_62, kl_99, kl_100, kl_255, kl_400, kl_992, kl_1023, kl_1024, kl_1984, kl_9200, kl_4600, kl_48, kl_57, kl_97, kl_122, kl_32767, nI_add, pk_mul, nI_leI, en_0le, h5, Nat.not_lt_zero, if_true, if_false, not_true, not_false_iff, and_true, true_and, and_false, false_and, Bool.false_eq_true, reduceCtorEq]
      unfold fF
      by_cases h0 : s.1 13 i < 4
      · rw [if_pos h0]
        simp only [h0, decide_true, Bool.not_true, Nat.not_lt_zero, if_true, if_false, not_true, not_false_iff, and_true, true_and, and_false, false_and, Bool.false_eq_true, reduceCtorEq]
        exact ih (i + 1) n (by omega) (by omega)
      · rw [if_neg h0]
        simp only [h0, decide_false, Bool.not_false, Nat.not_lt_zero, if_true, if_false, not_true, not_false_iff, and_true, true_and, and_false, false_and, Bool.false_eq_true, reduceCtorEq]
        rw [en_lt (by omega)]
  unfold fM_freePage qPage
  rw [kl_0, key 32 0 xF (by omega) (by unfold xF; omega)]
