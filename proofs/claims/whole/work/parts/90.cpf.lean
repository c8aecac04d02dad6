/-! copies: what has been copied in the end -/
def ccp (a e κ k : Nat) : Prop := (κ = 14 ∧ k < 13) ∨ (κ = 17 ∧ k = 1) ∨ (κ = 18 ∧ k < a) ∨ (κ = 19 ∧ k = 1) ∨ (κ = 20 ∧ k < e) ∨ (κ = 15 ∧ k < 4) ∨ (κ = 16 ∧ k < 4)
theorem sC_iff {S : Nat → Nat → Nat → Bool} {n a e κ i k : Nat} : sC S n a e κ i k = true ↔ S κ i k = true ∨ (i = n ∧ ccp a e κ k) := by
  unfold sC sAdd sOne ccp
  simp only [Bool.or_eq_true, decide_eq_true_eq]
  constructor
  · rintro (((((((h | h) | h) | h) | h) | h) | h) | h)
    · exact Or.inl h
    all_goals exact Or.inr ⟨h.2.1, by omega⟩
  · rintro (h | ⟨rfl, h⟩)
    · repeat (first | exact h | refine Or.inl ?_)
    · rcases h with h | h | h | h | h | h | h <;> repeat (first | exact Or.inr ⟨h.1, rfl, h.2⟩ | refine Or.inl ?_)
theorem sCs_iff {S : Nat → Nat → Nat → Bool} {A E : Nat → Nat} {κ i k : Nat} : ∀ {n : Nat}, sCs S A E n κ i k = true ↔ S κ i k = true ∨ (i < n ∧ ccp (A i) (E i) κ k) := by
  intro n
  induction n with
  | zero => exact ⟨fun h => Or.inl h, fun h => h.elim id (fun e => absurd e.1 (Nat.not_lt_zero _))⟩
  | succ n ih =>
    show sC (sCs S A E n) n (A n) (E n) κ i k = true ↔ _
    rw [sC_iff, ih]
    constructor
    · rintro ((h | h) | ⟨rfl, h⟩)
      · exact Or.inl h
      · exact Or.inr ⟨by omega, h.2⟩
      · exact Or.inr ⟨by omega, h⟩
    · rintro (h | ⟨h, h2⟩)
      · exact Or.inl (Or.inl h)
      · by_cases hn : i = n
        · subst hn; exact Or.inr ⟨rfl, h2⟩
        · exact Or.inl (Or.inr ⟨by omega, h2⟩)
theorem sCs2_iff {S2 : Nat → Nat → Nat → Bool} {κ i k : Nat} : ∀ {n : Nat}, sCs2 S2 n κ i k = true ↔ S2 κ i k = true ∨ (i < n ∧ κ = 14 ∧ k = 13) := by
  intro n
  induction n with
  | zero => exact ⟨fun h => Or.inl h, fun h => h.elim id (fun e => absurd e.1 (Nat.not_lt_zero _))⟩
  | succ n ih =>
    show (sCs2 S2 n κ i k || decide (κ = 14 ∧ i = n ∧ k = 13)) = true ↔ _
    rw [Bool.or_eq_true, decide_eq_true_eq, ih]
    constructor
    · rintro ((h | h) | h)
      · exact Or.inl h
      · exact Or.inr ⟨by omega, h.2⟩
      · exact Or.inr ⟨by omega, h.1, h.2.2⟩
    · rintro (h | ⟨h, h2⟩)
      · exact Or.inl (Or.inl h)
      · by_cases hn : i = n
        · exact Or.inr ⟨h2.1, hn, h2.2⟩
        · exact Or.inl (Or.inr ⟨by omega, h2⟩)
theorem sMs_iff {S : Nat → Nat → Nat → Bool} {G : Nat → Nat} {κ i k : Nat} : ∀ {n : Nat}, sMs S G n κ i k = true ↔ S κ i k = true ∨ (i < n ∧ ((κ = 22 ∧ k < G i) ∨ (κ = 21 ∧ k = 1))) ∨ (κ = 13 ∧ i = 0 ∧ k < n) := by
  intro n
  induction n with
  | zero => exact ⟨fun h => Or.inl h, fun h => h.elim id (fun e => e.elim (fun e => absurd e.1 (Nat.not_lt_zero _)) (fun e => absurd e.2.2 (Nat.not_lt_zero _)))⟩
  | succ n ih =>
    show (((sMs S G n κ i k || decide (κ = 22 ∧ i = n ∧ k < G n)) || decide (κ = 21 ∧ i = n ∧ k = 1)) || decide (κ = 13 ∧ i = 0 ∧ k = n)) = true ↔ _
    rw [Bool.or_eq_true, Bool.or_eq_true, Bool.or_eq_true, decide_eq_true_eq, decide_eq_true_eq, decide_eq_true_eq, ih]
    constructor
    · rintro ((((h | h | h) | h) | h) | h)
      · exact Or.inl h
      · exact Or.inr (Or.inl ⟨by omega, h.2⟩)
      · exact Or.inr (Or.inr ⟨h.1, h.2.1, by omega⟩)
      · exact Or.inr (Or.inl ⟨by omega, Or.inl ⟨h.1, by rw [h.2.1]; exact h.2.2⟩⟩)
      · exact Or.inr (Or.inl ⟨by omega, Or.inr ⟨h.1, h.2.2⟩⟩)
      · exact Or.inr (Or.inr ⟨h.1, h.2.1, by omega⟩)
    · rintro (h | ⟨h, h2⟩ | ⟨h, h1, h2⟩)
      · exact Or.inl (Or.inl (Or.inl (Or.inl h)))
      · by_cases hn : i = n
        · rcases h2 with h2 | h2
          · exact Or.inl (Or.inl (Or.inr ⟨h2.1, hn, by rw [← hn]; exact h2.2⟩))
          · exact Or.inl (Or.inr ⟨h2.1, hn, h2.2⟩)
        · exact Or.inl (Or.inl (Or.inl (Or.inr (Or.inl ⟨by omega, h2⟩))))
      · by_cases hn : k = n
        · exact Or.inr ⟨h, h1, hn⟩
        · exact Or.inl (Or.inl (Or.inl (Or.inr (Or.inr ⟨h, h1, by omega⟩))))
def inF (A E G : Nat → Nat) (κ i k : Nat) : Prop := (κ = 1 ∧ i = 0 ∧ 4 ≤ k ∧ k ≤ 7) ∨ (i < 24 ∧ ((κ = 22 ∧ k < G i) ∨ (κ = 21 ∧ k = 1))) ∨ (κ = 13 ∧ i = 0 ∧ k < 24) ∨ (i < 4 ∧ ccp (A i) (E i) κ k) ∨ (3 ≤ κ ∧ κ ≤ 6 ∧ i = 0 ∧ k < 32) ∨ (κ = 9 ∧ i = 0 ∧ k < 1984)
theorem sF_iff {A E G : Nat → Nat} {κ i k : Nat} : sD (sMs (sCs (sAr (fun _ _ _ => false)) A E 4) G 24) κ i k = true ↔ inF A E G κ i k := by
  show ((((sMs (sCs (sAr (fun _ _ _ => false)) A E 4) G 24 κ i k || decide (κ = 1 ∧ i = 0 ∧ k = 4)) || decide (κ = 1 ∧ i = 0 ∧ k = 5)) || decide (κ = 1 ∧ i = 0 ∧ k = 6)) || decide (κ = 1 ∧ i = 0 ∧ k = 7)) = true ↔ _
  have hA : sAr (fun _ _ _ => false) κ i k = true ↔ (3 ≤ κ ∧ κ ≤ 6 ∧ i = 0 ∧ k < 32) ∨ (κ = 9 ∧ i = 0 ∧ k < 1984) := by
    show (((((false || decide (κ = 3 ∧ i = 0 ∧ k < 32)) || decide (κ = 4 ∧ i = 0 ∧ k < 32)) || decide (κ = 5 ∧ i = 0 ∧ k < 32)) || decide (κ = 6 ∧ i = 0 ∧ k < 32)) || decide (κ = 9 ∧ i = 0 ∧ k < 1984)) = true ↔ _
    simp only [Bool.or_eq_true, decide_eq_true_eq, Bool.false_eq_true, false_or]
    omega
  rw [Bool.or_eq_true, Bool.or_eq_true, Bool.or_eq_true, Bool.or_eq_true, decide_eq_true_eq, decide_eq_true_eq, decide_eq_true_eq, decide_eq_true_eq, sMs_iff, sCs_iff, hA]
  unfold inF
  constructor
  · rintro (((((((h | h) | h) | h | h) | h) | h) | h) | h)
    · exact Or.inr (Or.inr (Or.inr (Or.inr (Or.inl h))))
    · exact Or.inr (Or.inr (Or.inr (Or.inr (Or.inr h))))
    · exact Or.inr (Or.inr (Or.inr (Or.inl h)))
    · exact Or.inr (Or.inl h)
    · exact Or.inr (Or.inr (Or.inl h))
    all_goals exact Or.inl ⟨h.1, h.2.1, by omega, by omega⟩
  · rintro (h | h | h | h | h | h)
    · obtain ⟨h1, h2, h3, h4⟩ := h
      by_cases e7 : k = 7
      · exact Or.inr ⟨h1, h2, e7⟩
      · by_cases e6 : k = 6
        · exact Or.inl (Or.inr ⟨h1, h2, e6⟩)
        · by_cases e5 : k = 5
          · exact Or.inl (Or.inl (Or.inr ⟨h1, h2, e5⟩))
          · exact Or.inl (Or.inl (Or.inl (Or.inr ⟨h1, h2, by omega⟩)))
    · exact Or.inl (Or.inl (Or.inl (Or.inl (Or.inr (Or.inl h)))))
    · exact Or.inl (Or.inl (Or.inl (Or.inl (Or.inr (Or.inr h)))))
    · exact Or.inl (Or.inl (Or.inl (Or.inl (Or.inl (Or.inr h)))))
    · exact Or.inl (Or.inl (Or.inl (Or.inl (Or.inl (Or.inl (Or.inl h))))))
    · exact Or.inl (Or.inl (Or.inl (Or.inl (Or.inl (Or.inl (Or.inr h))))))
theorem sF2_iff {κ i k : Nat} : sCs2 (sAr2 (fun _ _ _ => false)) 4 κ i k = true ↔ ((κ = 7 ∨ κ = 8) ∧ i = 0 ∧ k < 32) ∨ (i < 4 ∧ κ = 14 ∧ k = 13) := by
  have hA : sAr2 (fun _ _ _ => false) κ i k = true ↔ ((κ = 7 ∨ κ = 8) ∧ i = 0 ∧ k < 32) := by
    show ((false || decide (κ = 7 ∧ i = 0 ∧ k < 32)) || decide (κ = 8 ∧ i = 0 ∧ k < 32)) = true ↔ _
    simp only [Bool.or_eq_true, decide_eq_true_eq, Bool.false_eq_true, false_or]
    omega
  rw [sCs2_iff, hA]
/-- where a block's cells are a state's -/
def domP (κ i k : Nat) : Prop := (κ = 1 ∧ i = 0 ∧ 4 ≤ k ∧ k ≤ 7) ∨ (3 ≤ κ ∧ κ ≤ 6 ∧ i = 0 ∧ k < 32) ∨ (κ = 9 ∧ i = 0 ∧ k < 1984) ∨ (κ = 13 ∧ i = 0 ∧ k < 24) ∨ (κ = 14 ∧ i < 4 ∧ k < 13) ∨ ((κ = 15 ∨ κ = 16) ∧ i < 4 ∧ k < 4) ∨ ((κ = 17 ∨ κ = 19) ∧ i < 4 ∧ k = 1) ∨ ((κ = 18 ∨ κ = 20) ∧ i < 4 ∧ k < 24) ∨ (κ = 21 ∧ i < 24 ∧ k = 1) ∨ (κ = 22 ∧ i < 24 ∧ k < 8)
theorem cI_nT {t : xS} {κ i k : Nat} {r : Nat × Nat × Nat} (h : cT κ i k = some r) : cI t κ i k ≠ none := by
  rw [cI_T (q := r.1) (j := r.2.1) (e := r.2.2) h]; simp
theorem cI_nD {t : xS} {κ i k : Nat} {v : Int32} (h : cT κ i k = none) (h2 : cD t κ i k = some v) : cI t κ i k ≠ none := by
  rw [cI_D h, h2]; simp
theorem dP_1 {i k : Nat} (h : i = 0 ∧ 4 ≤ k ∧ k ≤ 7) : domP 1 i k := Or.inl ⟨rfl, h⟩
theorem dP_3 {κ i k : Nat} (h1 : 3 ≤ κ ∧ κ ≤ 6) (h : i = 0 ∧ k < 32) : domP κ i k := Or.inr (Or.inl ⟨h1.1, h1.2, h⟩)
theorem dP_9 {i k : Nat} (h : i = 0 ∧ k < 1984) : domP 9 i k := Or.inr (Or.inr (Or.inl ⟨rfl, h⟩))
theorem dP_13 {i k : Nat} (h : i = 0 ∧ k < 24) : domP 13 i k := Or.inr (Or.inr (Or.inr (Or.inl ⟨rfl, h⟩)))
theorem dP_14 {i k : Nat} (h : i < 4 ∧ k < 13) : domP 14 i k := Or.inr (Or.inr (Or.inr (Or.inr (Or.inl ⟨rfl, h⟩))))
theorem dP_15 {κ i k : Nat} (h1 : κ = 15 ∨ κ = 16) (h : i < 4 ∧ k < 4) : domP κ i k := Or.inr (Or.inr (Or.inr (Or.inr (Or.inr (Or.inl ⟨h1, h⟩)))))
theorem dP_17 {κ i k : Nat} (h1 : κ = 17 ∨ κ = 19) (h : i < 4 ∧ k = 1) : domP κ i k := Or.inr (Or.inr (Or.inr (Or.inr (Or.inr (Or.inr (Or.inl ⟨h1, h⟩))))))
theorem dP_18 {κ i k : Nat} (h1 : κ = 18 ∨ κ = 20) (h : i < 4 ∧ k < 24) : domP κ i k := Or.inr (Or.inr (Or.inr (Or.inr (Or.inr (Or.inr (Or.inr (Or.inl ⟨h1, h⟩)))))))
theorem dP_21 {i k : Nat} (h : i < 24 ∧ k = 1) : domP 21 i k := Or.inr (Or.inr (Or.inr (Or.inr (Or.inr (Or.inr (Or.inr (Or.inr (Or.inl ⟨rfl, h⟩))))))))
theorem dP_22 {i k : Nat} (h : i < 24 ∧ k < 8) : domP 22 i k := Or.inr (Or.inr (Or.inr (Or.inr (Or.inr (Or.inr (Or.inr (Or.inr (Or.inr ⟨rfl, h⟩))))))))
theorem domP_T {κ i k : Nat} (h : ¬ domP κ i k) : cT κ i k = none := by
  unfold cT
  split
  · rw [if_neg (fun e => h (dP_1 ⟨e.1, by omega, by omega⟩)), if_neg (fun e => h (dP_1 ⟨e.1, by omega, by omega⟩)), if_neg (fun e => h (dP_1 ⟨e.1, by omega, by omega⟩))]
  · rw [if_neg (fun e => h (dP_3 (by decide) e))]
  · rw [if_neg (fun e => h (dP_3 (by decide) e))]
  · rw [if_neg (fun e => h (dP_13 e))]
  · rw [if_neg (fun e => h (dP_14 ⟨e.1, e.2.1⟩))]
  · rw [if_neg (fun e => h (dP_15 (by decide) e))]
  · rw [if_neg (fun e => h (dP_15 (by decide) e))]
  · rw [if_neg (fun e => h (dP_17 (by decide) e))]
  · rw [if_neg (fun e => h (dP_18 (by decide) e))]
  · rw [if_neg (fun e => h (dP_17 (by decide) e))]
  · rw [if_neg (fun e => h (dP_18 (by decide) e))]
  · rw [if_neg (fun e => h (dP_21 e))]
  · rw [if_neg (fun e => h (dP_22 e))]
  · rfl
theorem domP_D {t : xS} {κ i k : Nat} (h : ¬ domP κ i k) : cD t κ i k = none := by
  unfold cD
  split
  · rw [if_neg (fun e => h (dP_1 ⟨e.1, by omega, by omega⟩))]
  · rw [if_neg (fun e => h (dP_3 (by decide) e))]
  · rw [if_neg (fun e => h (dP_3 (by decide) e))]
  · rw [if_neg (fun e => h (dP_9 e))]
  · rw [if_neg (fun e => h (dP_14 ⟨e.1, by omega⟩))]
  · rfl
theorem dm_1 {t : xS} {k : Nat} (h1 : 4 ≤ k) (h2 : k ≤ 7) : cI t 1 0 k ≠ none := by
  by_cases a4 : k = 4
  · subst a4; exact cI_nT (r := (19, 0, 0)) rfl
  · by_cases a6 : k = 6
    · subst a6; exact cI_nT (r := (19, 1, 0)) rfl
    · by_cases a7 : k = 7
      · subst a7; exact cI_nT (r := (19, 2, 0)) rfl
      · have a5 : k = 5 := by omega
        subst a5; exact cI_nD (v := nI (qMade t)) rfl rfl
theorem dm_3 {t : xS} {k : Nat} (h3 : k < 32) : cI t 3 0 k ≠ none := cI_nT (r := (13, k, 1)) (if_pos ⟨rfl, h3⟩)
theorem dm_4 {t : xS} {k : Nat} (h3 : k < 32) : cI t 4 0 k ≠ none := cI_nT (r := (14, k, 0)) (if_pos ⟨rfl, h3⟩)
theorem dm_5 {t : xS} {k : Nat} (h3 : k < 32) : cI t 5 0 k ≠ none := cI_nD (v := nI (qSz t k)) rfl (if_pos ⟨rfl, h3⟩)
theorem dm_6 {t : xS} {k : Nat} (h3 : k < 32) : cI t 6 0 k ≠ none := cI_nD (v := nI (qPers t k)) rfl (if_pos ⟨rfl, h3⟩)
theorem dm_9 {t : xS} {k : Nat} (h3 : k < 1984) : cI t 9 0 k ≠ none := cI_nD (v := t.2.1 k) rfl (if_pos ⟨rfl, h3⟩)
theorem dm_13 {t : xS} {k : Nat} (h3 : k < 24) : cI t 13 0 k ≠ none := cI_nT (r := (18, k, 0)) (if_pos ⟨rfl, h3⟩)
theorem dm_14 {t : xS} {i k : Nat} (h1 : i < 4) (h2 : k < 13) : cI t 14 i k ≠ none := by
  by_cases a3 : k = 3
  · subst a3; exact cI_nD (v := nI (qPer t i)) (if_neg (fun e => e.2.2 rfl)) (if_pos ⟨h1, rfl⟩)
  · exact cI_nT (r := (k, i, 0)) (if_pos ⟨h1, h2, a3⟩)
theorem dm_15 {t : xS} {i k : Nat} (h1 : i < 4) (h2 : k < 4) : cI t 15 i k ≠ none := cI_nT (r := (15, 4 * i + k, 2)) (if_pos ⟨h1, h2⟩)
theorem dm_16 {t : xS} {i k : Nat} (h1 : i < 4) (h2 : k < 4) : cI t 16 i k ≠ none := cI_nT (r := (16, 4 * i + k, 2)) (if_pos ⟨h1, h2⟩)
theorem dm_17 {t : xS} {i : Nat} (h1 : i < 4) : cI t 17 i 1 ≠ none := cI_nT (r := (22, i, 0)) (if_pos ⟨h1, rfl⟩)
theorem dm_19 {t : xS} {i : Nat} (h1 : i < 4) : cI t 19 i 1 ≠ none := cI_nT (r := (24, i, 0)) (if_pos ⟨h1, rfl⟩)
theorem dm_18 {t : xS} {i k : Nat} (h1 : i < 4) (h2 : k < 24) : cI t 18 i k ≠ none := cI_nT (r := (23, 24 * i + k, 0)) (if_pos ⟨h1, h2⟩)
theorem dm_20 {t : xS} {i k : Nat} (h1 : i < 4) (h2 : k < 24) : cI t 20 i k ≠ none := cI_nT (r := (25, 24 * i + k, 0)) (if_pos ⟨h1, h2⟩)
theorem dm_21 {t : xS} {i : Nat} (h1 : i < 24) : cI t 21 i 1 ≠ none := cI_nT (r := (20, i, 0)) (if_pos ⟨h1, rfl⟩)
theorem dm_22 {t : xS} {i k : Nat} (h1 : i < 24) (h2 : k < 8) : cI t 22 i k ≠ none := cI_nT (r := (21, 8 * i + k, 0)) (if_pos ⟨h1, h2⟩)
theorem cI_dm {t : xS} {κ i k : Nat} : cI t κ i k ≠ none ↔ domP κ i k := by
  constructor
  · intro hn
    by_cases hd : domP κ i k
    · exact hd
    · exact absurd ((cI_D (domP_T hd)).trans (domP_D hd)) hn
  · intro h
    unfold domP at h
    rcases h with ⟨h0, rfl, h1, h2⟩ | ⟨h1, h2, rfl, h3⟩ | ⟨h0, rfl, h1⟩ | ⟨h0, rfl, h1⟩ | ⟨h0, h1, h2⟩ | ⟨h0 | h0, h1, h2⟩ | ⟨h0 | h0, h1, rfl⟩ | ⟨h0 | h0, h1, h2⟩ | ⟨h0, h1, rfl⟩ | ⟨h0, h1, h2⟩
    · rw [h0]; exact dm_1 h1 h2
    · by_cases a3 : κ = 3
      · rw [a3]; exact dm_3 h3
      · by_cases a4 : κ = 4
        · rw [a4]; exact dm_4 h3
        · by_cases a5 : κ = 5
          · rw [a5]; exact dm_5 h3
          · have a6 : κ = 6 := by omega
            rw [a6]; exact dm_6 h3
    · rw [h0]; exact dm_9 h1
    · rw [h0]; exact dm_13 h1
    · rw [h0]; exact dm_14 h1 h2
    · rw [h0]; exact dm_15 h1 h2
    · rw [h0]; exact dm_16 h1 h2
    · rw [h0]; exact dm_17 h1
    · rw [h0]; exact dm_19 h1
    · rw [h0]; exact dm_18 h1 h2
    · rw [h0]; exact dm_20 h1 h2
    · rw [h0]; exact dm_21 h1
    · rw [h0]; exact dm_22 h1 h2
