/-! a new cache: the state, place by place; what holds goes on -/
def tB (c q j : Nat) : Prop := (q = 19 ∧ j = 0) ∨ ((q = 15 ∨ q = 16) ∧ 4 * c ≤ j ∧ j < 4 * c + 4) ∨ (j = c ∧ (q ≤ 12 ∧ q ≠ 3 ∨ q = 22 ∨ q = 24))
def vB (c k a st q : Nat) : Nat := if q = 19 then c + 1 else if q = 15 ∨ q = 16 then 24 else if q = 0 then k else if q = 1 then a else if q = 2 then st else if q = 4 then 2 else if q = 5 then 4 else 0
theorem sFl_1 {c : Nat} : ∀ {d p : Nat} {s : xS} {q j : Nat}, (sFl s c d p).1 q j = if (q = 15 ∨ q = 16) ∧ 4 * c + p ≤ j ∧ j < 4 * c + p + d then 24 else s.1 q j := by
  intro d
  induction d with
  | zero => intro p s q j; rw [if_neg (by omega)]; rfl
  | succ d ih =>
    intro p s q j
    unfold sFl
    rw [ih, sA_1, sA_1]
    by_cases h1 : (q = 15 ∨ q = 16) ∧ 4 * c + p ≤ j ∧ j < 4 * c + p + (d + 1)
    · rw [if_pos h1]
      by_cases h2 : (q = 15 ∨ q = 16) ∧ 4 * c + (p + 1) ≤ j ∧ j < 4 * c + (p + 1) + d
      · rw [if_pos h2]
      · rw [if_neg h2]
        have e : j = 4 * c + p := by omega
        rcases h1.1 with h3 | h3
        · rw [if_neg (by omega), if_pos ⟨h3, e⟩]
        · rw [if_pos ⟨h3, e⟩]
    · rw [if_neg h1, if_neg (by omega), if_neg (by omega), if_neg (by omega)]
theorem sFl_2 {c : Nat} : ∀ {d p : Nat} {s : xS}, (sFl s c d p).2 = s.2 := by
  intro d
  induction d with
  | zero => intro p s; rfl
  | succ d ih => intro p s; unfold sFl; rw [ih]; rfl
theorem sB3_1 {t : xS} {c k a st q j : Nat} : (sTl (sB3 t c k a st) c).1 q j = if j = c ∧ (q = 0 ∨ q = 1 ∨ q = 2 ∨ q = 4 ∨ q = 5 ∨ q = 7 ∨ q = 10 ∨ q = 11 ∨ q = 12) then vB c k a st q else t.1 q j := by
  unfold sTl sB3
  rw [sT_1]
  simp only [sA_1]
  by_cases hj : j = c
  · subst hj
    simp only [and_true, true_and]
    by_cases h0 : q = 0
    · subst h0; simp [vB]
    by_cases h1 : q = 1
    · subst h1; simp [vB]
    by_cases h2 : q = 2
    · subst h2; simp [vB]
    by_cases h4 : q = 4
    · subst h4; simp [vB]
    by_cases h5 : q = 5
    · subst h5; simp [vB]
    by_cases h7 : q = 7
    · subst h7; simp [vB]
    by_cases h10 : q = 10
    · subst h10; simp [vB]
    by_cases h11 : q = 11
    · subst h11; simp [vB]
    by_cases h12 : q = 12
    · subst h12; simp [vB]
    rw [if_neg h12, if_neg h11, if_neg h10, if_neg h7, if_neg h5, if_neg h4, if_neg h2, if_neg h1, if_neg h0, if_neg (by omega)]
  · simp only [hj, and_false, false_and, if_false]
theorem sBeg_1 {t : xS} {c k a st q j : Nat} : (tB c q j → (sBeg t c k a st).1 q j = vB c k a st q) ∧ (¬ tB c q j → (sBeg t c k a st).1 q j = t.1 q j) := by
  unfold sBeg sIn2 sLose
  simp only [sA_1, sFl_1, sB3_1, Nat.add_zero]
  unfold tB
  by_cases h19 : q = 19 ∧ j = 0
  · obtain ⟨rfl, rfl⟩ := h19
    exact ⟨fun _ => by simp [vB], fun h => absurd (Or.inl ⟨rfl, rfl⟩) h⟩
  · rw [if_neg h19]
    by_cases h15 : (q = 15 ∨ q = 16) ∧ 4 * c ≤ j ∧ j < 4 * c + 4
    · refine ⟨fun _ => ?_, fun h => absurd (Or.inr (Or.inl h15)) h⟩
      rw [if_neg (by omega), if_neg (by omega), if_neg (by omega), if_pos h15]
      rcases h15.1 with rfl | rfl <;> rfl
    · by_cases hj : j = c
      · subst hj
        by_cases h : q ≤ 12 ∧ q ≠ 3 ∨ q = 22 ∨ q = 24
        · refine ⟨fun _ => ?_, fun h' => absurd (Or.inr (Or.inr ⟨rfl, h⟩)) h'⟩
          rcases (by omega : q = 0 ∨ q = 1 ∨ q = 2 ∨ q = 4 ∨ q = 5 ∨ q = 6 ∨ q = 7 ∨ q = 8 ∨ q = 9 ∨ q = 10 ∨ q = 11 ∨ q = 12 ∨ q = 22 ∨ q = 24) with rfl | rfl | rfl | rfl | rfl | rfl | rfl | rfl | rfl | rfl | rfl | rfl | rfl | rfl <;> simp [vB]
        · refine ⟨fun h' => ?_, fun _ => ?_⟩
          · rcases h' with h' | h' | h'
            · exact absurd h' h19
            · exact absurd h' h15
            · exact absurd h'.2 h
          · rw [if_neg (by omega), if_neg (by omega), if_neg (by omega), if_neg h15, if_neg (by omega), if_neg (by omega), if_neg (by omega)]
      · refine ⟨fun h' => ?_, fun _ => ?_⟩
        · rcases h' with h' | h' | h'
          · exact absurd h' h19
          · exact absurd h' h15
          · exact absurd h'.1 hj
        · rw [if_neg (by omega), if_neg (by omega), if_neg (by omega), if_neg h15, if_neg (by omega), if_neg (by omega), if_neg (by omega)]
theorem sBeg_y {t : xS} {c k a st q j : Nat} (h : tB c q j) : (sBeg t c k a st).1 q j = vB c k a st q := sBeg_1.1 h
theorem sBeg_n {t : xS} {c k a st q j : Nat} (h : ¬ tB c q j) : (sBeg t c k a st).1 q j = t.1 q j := sBeg_1.2 h
theorem sBeg_2 {t : xS} {c k a st : Nat} : (sBeg t c k a st).2 = (t.2.1, fun j => if j = c then 0 else t.2.2 j) := by
  unfold sBeg sIn2 sLose
  show (sFl (sA (sA (sTl (sB3 t c k a st) c) 22 c 0) 24 c 0) c 4 0).2 = _
  rw [sFl_2]; rfl
theorem sBeg_m {s : xS} {c k a st : Nat} : sA (sFl (sBm s c k a st) c 4 0) 19 0 (c + 1) = sBeg s c k a st := by
  refine Prod.ext ?_ ?_
  · funext q j
    by_cases h : tB c q j
    · rw [sBeg_y h]
      rw [sA_1, sFl_1, Nat.add_zero]
      unfold tB at h
      by_cases h19 : q = 19 ∧ j = 0
      · rw [if_pos h19, h19.1]; rfl
      · rw [if_neg h19]
        by_cases h15 : (q = 15 ∨ q = 16) ∧ 4 * c ≤ j ∧ j < 4 * c + 4
        · rw [if_pos h15]
          rcases h15.1 with rfl | rfl <;> rfl
        · rw [if_neg h15]
          have h3 := (h.resolve_left h19).resolve_left h15
          obtain ⟨rfl, h3⟩ := h3
          unfold sBm
          simp only [sA_1, sT_1, and_true]
          rcases (by omega : q = 0 ∨ q = 1 ∨ q = 2 ∨ q = 4 ∨ q = 5 ∨ q = 6 ∨ q = 7 ∨ q = 8 ∨ q = 9 ∨ q = 10 ∨ q = 11 ∨ q = 12 ∨ q = 22 ∨ q = 24) with rfl | rfl | rfl | rfl | rfl | rfl | rfl | rfl | rfl | rfl | rfl | rfl | rfl | rfl <;> simp [vB]
    · rw [sBeg_n h]
      rw [sA_1, sFl_1, Nat.add_zero]
      unfold tB at h
      rw [if_neg (fun e => h (Or.inl e)), if_neg (fun e => h (Or.inr (Or.inl e)))]
      unfold sBm
      simp only [sA_1, sT_1]
      by_cases hj : j = c
      · subst hj
        have h4 : ¬ (q ≤ 12 ∧ q ≠ 3 ∨ q = 22 ∨ q = 24) := fun e => h (Or.inr (Or.inr ⟨rfl, e⟩))
        simp only [and_true]
        rw [if_neg (by omega), if_neg (by omega), if_neg (by omega), if_neg (by omega), if_neg (by omega), if_neg (by omega), if_neg (by omega), if_neg (by omega), if_neg (by omega), if_neg (by omega), if_neg (by omega), if_neg (by omega), if_neg (by omega), if_neg (by omega)]
      · simp only [hj, and_false, if_false]
  · rw [sBeg_2]
    show (sFl (sBm s c k a st) c 4 0).2 = _
    rw [sFl_2]; rfl
theorem M_cache' {d : Int32} {s : xS} {X : xMem} {a0 a1 a2 : Int32} (hW : XW X) (hI : INV s) : fM_cache (mM d s X) (44, 0, 0) a0 a1 a2 = some ((rCache s a0 a1 a2).1, mM d (rCache s a0 a1 a2).2 X) := by
  rw [M_cache hW hI]
  refine congrArg (fun z => some ((rCache s a0 a1 a2).1, mM d z X)) ?_
  by_cases h : cN 6 a0 < 6 ∧ okE 16 400 a1 = true ∧ okE 8 64 a2 = true
  · by_cases h4 : s.1 19 0 < 4
    · rw [if_pos ⟨h.1, h.2.1, h.2.2, h4⟩, rCache_y h.1 h.2.1 h.2.2 h4, sBeg_m]
    · rw [if_neg (fun e => h4 e.2.2.2), rCache_f h.1 h.2.1 h.2.2 h4]
  · rw [if_neg (fun e => h ⟨e.1, e.2.1, e.2.2.1⟩)]
    show s = (ite _ _ _ : Int32 × xS).2
    rw [if_neg h]
