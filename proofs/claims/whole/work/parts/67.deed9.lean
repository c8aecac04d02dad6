/-! a new cache: the state, place by place; what holds goes on -/
def tB (c q j : Nat) : Prop := (q = 19 ∧ j = 0) ∨ ((q = 15 ∨ q = 16) ∧ 4 * c ≤ j ∧ j < 4 * c + 4) ∨ (j = c ∧ (q ≤ 12 ∧ q ≠ 3 ∨ q = 22 ∨ q = 24))
def vB (c k a st q : Nat) : Nat := if q = 19 then c + 1 else if q = 15 ∨ q = 16 then 24 else if q = 0 then k else if q = 1 then a else if q = 2 then st else if q = 4 then 2 else if q = 5 then 4 else 0
theorem sFl_1 {c : Nat} : ∀ {d p : Nat} {s : xS} {q j : Nat}, (sFl s c d p).1 q j = if (q = 15 ∨ q = 16) ∧ 4 * c + p ≤ j ∧ j < 4 * c + p + d then 24 else s.1 q j := by
  intro d
  induction d with
  | zero => intro p s q j; rw [if_neg (by omega)]; rfl
  | succ d ih =>
    intro p s q j
    unfold sFl
    rw [ih, sA_1, sA_1]
    by_cases h1 : (q = 15 ∨ q = 16) ∧ 4 * c + p ≤ j ∧ j < 4 * c + p + (d + 1)
    · rw [if_pos h1]
      by_cases h2 : (q = 15 ∨ q = 16) ∧ 4 * c + (p + 1) ≤ j ∧ j < 4 * c + (p + 1) + d
      · rw [if_pos h2]
      · rw [if_neg h2]
        have e : j = 4 * c + p := by omega
        rcases h1.1 with h3 | h3
        · rw [if_neg (by omega), if_pos ⟨h3, e⟩]
        · rw [if_pos ⟨h3, e⟩]
    · rw [if_neg h1, if_neg (by omega), if_neg (by omega), if_neg (by omega)]
theorem sFl_2 {c : Nat} : ∀ {d p : Nat} {s : xS}, (sFl s c d p).2 = s.2 := by
  intro d
  induction d with
  | zero => intro p s; rfl
  | succ d ih => intro p s; unfold sFl; rw [ih]; rfl
theorem sB3_1 {t : xS} {c k a st q j : Nat} : (sTl (sB3 t c k a st) c).1 q j = if j = c ∧ (q = 0 ∨ q = 1 ∨ q = 2 ∨ q = 4 ∨ q = 5 ∨ q = 7 ∨ q = 10 ∨ q = 11 ∨ q = 12) then vB c k a st q else t.1 q j := by
  unfold sTl sB3
  rw [sT_1]
  simp only [sA_1]
  by_cases hj : j = c
  · subst hj
    simp only [and_true, true_and]
    by_cases h0 : q = 0
    · subst h0; simp [vB]
    by_cases h1 : q = 1
    · subst h1; simp [vB]
    by_cases h2 : q = 2
    · subst h2; simp [vB]
    by_cases h4 : q = 4
    · subst h4; simp [vB]
    by_cases h5 : q = 5
    · subst h5; simp [vB]
    by_cases h7 : q = 7
    · subst h7; simp [vB]
    by_cases h10 : q = 10
    · subst h10; simp [vB]
    by_cases h11 : q = 11
    · subst h11; simp [vB]
    by_cases h12 : q = 12
    · subst h12; simp [vB]
    rw [if_neg h12, if_neg h11, if_neg h10, if_neg h7, if_neg h5, if_neg h4, if_neg h2, if_neg h1, if_neg h0, if_neg (by omega)]
  · simp only [hj, and_false, false_and, if_false]
theorem sBeg_1 {t : xS} {c k a st q j : Nat} : (tB c q j → (sBeg t c k a st).1 q j = vB c k a st q) ∧ (¬ tB c q j → (sBeg t c k a st).1 q j = t.1 q j) := by
  unfold sBeg sIn2 sLose
  simp only [sA_1, sFl_1, sB3_1, Nat.add_zero]
  unfold tB
  by_cases h19 : q = 19 ∧ j = 0
  · obtain ⟨rfl, rfl⟩ := h19
    exact ⟨fun _ => by simp [vB], fun h => absurd (Or.inl ⟨rfl, rfl⟩) h⟩
  · rw [if_neg h19]
    by_cases h15 : (q = 15 ∨ q = 16) ∧ 4 * c ≤ j ∧ j < 4 * c + 4
    · refine ⟨fun _ => ?_, fun h => absurd (Or.inr (Or.inl h15)) h⟩
      rw [if_neg (by omega), if_neg (by omega), if_neg (by omega), if_pos h15]
      rcases h15.1 with rfl | rfl <;> rfl
    · by_cases hj : j = c
      · subst hj
        by_cases h : q ≤ 12 ∧ q ≠ 3 ∨ q = 22 ∨ q = 24
        · refine ⟨fun _ => ?_, fun h' => absurd (Or.inr (Or.inr ⟨rfl, h⟩)) h'⟩
          rcases (by omega : q = 0 ∨ q = 1 ∨ q = 2 ∨ q = 4 ∨ q = 5 ∨ q = 6 ∨ q = 7 ∨ q = 8 ∨ q = 9 ∨ q = 10 ∨ q = 11 ∨ q = 12 ∨ q = 22 ∨ q = 24) with rfl | rfl | rfl | rfl | rfl | rfl | rfl | rfl | rfl | rfl | rfl | rfl | rfl | rfl <;> simp [vB]
        · refine ⟨fun h' => ?_, fun _ => ?_⟩
          · rcases h' with h' | h' | h'
            · exact absurd h' h19
            · exact absurd h' h15
            · exact absurd h'.2 h
          · rw [if_neg (by omega), if_neg (by omega), if_neg (by omega), if_neg h15, if_neg (by omega), if_neg (by omega), if_neg (by omega)]
      · refine ⟨fun h' => ?_, fun _ => ?_⟩
        · rcases h' with h' | h' | h'
          · exact absurd h' h19
          · exact absurd h' h15
          · exact absurd h'.1 hj
        · rw [if_neg (by omega), if_neg (by omega), if_neg (by omega), if_neg h15, if_neg (by omega), if_neg (by omega), if_neg (by omega)]
theorem sBeg_y {t : xS} {c k a st q j : Nat} (h : tB c q j) : (sBeg t c k a st).1 q j = vB c k a st q := sBeg_1.1 h
theorem sBeg_n {t : xS} {c k a st q j : Nat} (h : ¬ tB c q j) : (sBeg t c k a st).1 q j = t.1 q j := sBeg_1.2 h
theorem sBeg_2 {t : xS} {c k a st : Nat} : (sBeg t c k a st).2 = (t.2.1, fun j => if j = c then 0 else t.2.2 j) := by
  unfold sBeg sIn2 sLose
  show (sFl (sA (sA (sTl (sB3 t c k a st) c) 22 c 0) 24 c 0) c 4 0).2 = _
  rw [sFl_2]; rfl
theorem sBeg_m {s : xS} {c k a st : Nat} : sA (sFl (sBm s c k a st) c 4 0) 19 0 (c + 1) = sBeg s c k a st := by
  refine Prod.ext ?_ ?_
  · funext q j
    by_cases h : tB c q j
    · rw [sBeg_y h]
      rw [sA_1, sFl_1]
      simp only [Nat.add_zero]
      unfold tB at h
      by_cases h19 : q = 19 ∧ j = 0
      · rw [if_pos h19, h19.1]; rfl
      · rw [if_neg h19]
        by_cases h15 : (q = 15 ∨ q = 16) ∧ 4 * c ≤ j ∧ j < 4 * c + 4
        · rw [if_pos h15]
          rcases h15.1 with rfl | rfl <;> rfl
        · rw [if_neg h15]
          have h3 := (h.resolve_left h19).resolve_left h15
          obtain ⟨rfl, h3⟩ := h3
          unfold sBm
          simp only [sA_1, sT_1, and_true]
          rcases (by omega : q = 0 ∨ q = 1 ∨ q = 2 ∨ q = 4 ∨ q = 5 ∨ q = 6 ∨ q = 7 ∨ q = 8 ∨ q = 9 ∨ q = 10 ∨ q = 11 ∨ q = 12 ∨ q = 22 ∨ q = 24) with rfl | rfl | rfl | rfl | rfl | rfl | rfl | rfl | rfl | rfl | rfl | rfl | rfl | rfl <;> simp [vB]
    · rw [sBeg_n h]
      rw [sA_1, sFl_1]
      simp only [Nat.add_zero]
      unfold tB at h
      rw [if_neg (fun e => h (Or.inl e)), if_neg (fun e => h (Or.inr (Or.inl e)))]
      unfold sBm
      simp only [sA_1, sT_1]
      by_cases hj : j = c
      · subst hj
        have h4 : ¬ (q ≤ 12 ∧ q ≠ 3 ∨ q = 22 ∨ q = 24) := fun e => h (Or.inr (Or.inr ⟨rfl, e⟩))
        simp only [and_true]
        rw [if_neg (by omega), if_neg (by omega), if_neg (by omega), if_neg (by omega), if_neg (by omega), if_neg (by omega), if_neg (by omega), if_neg (by omega), if_neg (by omega), if_neg (by omega), if_neg (by omega), if_neg (by omega), if_neg (by omega), if_neg (by omega)]
      · simp only [hj, and_false, if_false]
  · rw [sBeg_2]
    show (sFl (sBm s c k a st) c 4 0).2 = _
    rw [sFl_2]; rfl
theorem M_cache' {d : Int32} {s : xS} {X : xMem} {a0 a1 a2 : Int32} (hW : XW X) (hI : INV s) : fM_cache (mM d s X) (44, 0, 0) a0 a1 a2 = some ((rCache s a0 a1 a2).1, mM d (rCache s a0 a1 a2).2 X) := by
  rw [M_cache hW hI]
  refine congrArg (fun z => some ((rCache s a0 a1 a2).1, mM d z X)) ?_
  by_cases h : cN 6 a0 < 6 ∧ okE 16 400 a1 = true ∧ okE 8 64 a2 = true
  · by_cases h4 : s.1 19 0 < 4
    · rw [if_pos ⟨h.1, h.2.1, h.2.2, h4⟩, rCache_y h.1 h.2.1 h.2.2 h4, sBeg_m]
    · rw [if_neg (fun e => h4 e.2.2.2), rCache_f h.1 h.2.1 h.2.2 h4]
  · rw [if_neg (fun e => h ⟨e.1, e.2.1, e.2.2.1⟩)]
    show s = (ite _ _ _ : Int32 × xS).2
    rw [if_neg h]
theorem sBeg_q {t : xS} {c k a st q : Nat} (h : q ∉ [0, 1, 2, 4, 5, 6, 7, 8, 9, 10, 11, 12, 15, 16, 19, 22, 24]) : (sBeg t c k a st).1 q = t.1 q := by
  funext j
  refine sBeg_n (fun e => h ?_)
  unfold tB at e
  simp only [List.mem_cons, List.mem_nil_iff, or_false]
  omega
theorem sBeg_o {t : xS} {c k a st q j : Nat} (hj : j ≠ c) (h : q ≠ 15 ∧ q ≠ 16 ∧ q ≠ 19) : (sBeg t c k a st).1 q j = t.1 q j :=
  sBeg_n (fun e => by unfold tB at e; omega)
theorem sBeg_c {t : xS} {c k a st q : Nat} (h : q ≤ 12 ∧ q ≠ 3 ∨ q = 22 ∨ q = 24) : (sBeg t c k a st).1 q c = vB c k a st q :=
  sBeg_y (Or.inr (Or.inr ⟨rfl, h⟩))
theorem sBeg_19 {t : xS} {c k a st : Nat} : (sBeg t c k a st).1 19 0 = c + 1 := sBeg_y (Or.inl ⟨rfl, rfl⟩)
theorem sBeg_per {t : xS} {c k a st i : Nat} (h : i ≠ c) : qPer (sBeg t c k a st) i = qPer t i := by
  unfold qPer
  rw [sBeg_o h (by decide)]
theorem sBeg_perc {t : xS} {c k a st : Nat} : qPer (sBeg t c k a st) c = 992 / a := by
  unfold qPer
  rw [sBeg_c (by decide)]; rfl
theorem INV.beg {s : xS} (h : INV s) {c k a st : Nat} (hc : c = s.1 19 0) (h4 : c < 4) (hk : k < 6) (ha : 16 ≤ a) (ha2 : a ≤ 400) (hst : st ≤ 64) : INV (sBeg s c k a st) := by
  obtain ⟨pl, hpl⟩ := h.2.2
  have e : ∀ q, q ∉ [0, 1, 2, 4, 5, 6, 7, 8, 9, 10, 11, 12, 15, 16, 19, 22, 24] → (sBeg s c k a st).1 q = s.1 q := fun q hq => sBeg_q hq
  have eo : ∀ q j, j ≠ c → q ≠ 15 ∧ q ≠ 16 ∧ q ≠ 19 → (sBeg s c k a st).1 q j = s.1 q j := fun q j h1 h2 => sBeg_o h1 h2
  have ec : ∀ q, q ≤ 12 ∧ q ≠ 3 ∨ q = 22 ∨ q = 24 → (sBeg s c k a st).1 q c = vB c k a st q := fun q hq => sBeg_c hq
  have e19 : (sBeg s c k a st).1 19 0 = c + 1 := sBeg_19
  have eP : ∀ i, i ≠ c → qPer (sBeg s c k a st) i = qPer s i := fun i hi => sBeg_per hi
  have ePc : qPer (sBeg s c k a st) c = 992 / a := sBeg_perc
  have e15 : ∀ q i p, q = 15 ∨ q = 16 → p < 4 → (sBeg s c k a st).1 q (4 * i + p) = if i = c then 24 else s.1 q (4 * i + p) := fun q i p hq hp => by
    by_cases hi : i = c
    · rw [if_pos hi, sBeg_y (Or.inr (Or.inl ⟨hq, by omega, by omega⟩))]
      rcases hq with rfl | rfl <;> rfl
    · rw [if_neg hi, sBeg_n (fun e => by unfold tB at e; omega)]
  generalize sBeg s c k a st = t at e eo ec e19 eP ePc e15
  have hdm := Nat.div_mul_le_self 992 a
  refine ⟨⟨⟨by omega, ?_, ?_, ?_, ?_⟩, ?_, ?_, ?_⟩, ?_, pl, ?_⟩
  · intro i hi
    rw [e19] at hi
    by_cases hic : i = c
    · subst hic
      rw [ePc, ec 0 (by decide), ec 1 (by decide), ec 2 (by decide), ec 4 (by decide), ec 10 (by decide), ec 22 (by decide), ec 24 (by decide)]
      show k < 6 ∧ 16 ≤ a ∧ a ≤ 400 ∧ st ≤ 64 ∧ 1 ≤ 2 ∧ 2 ≤ 8 ∧ 0 + 992 / a * a ≤ 992 ∧ 0 ≤ 24 ∧ 0 ≤ 24
      exact ⟨hk, ha, ha2, hst, by decide, by decide, by omega, by decide, by decide⟩
    · rw [eP i hic, eo 0 i hic (by decide), eo 1 i hic (by decide), eo 2 i hic (by decide), eo 4 i hic (by decide), eo 10 i hic (by decide), eo 22 i hic (by decide), eo 24 i hic (by decide)]
      exact h.R.c (by omega)
  · intro p hp
    rw [e 14 (by decide), e 13 (by decide), e19]
    have h1 := h.R.p hp
    refine ⟨h1.1, fun h5 => ?_⟩
    have h6 := h1.2 h5
    have h7 : s.1 13 p ≠ c := by omega
    rw [eP _ h7, eo 1 _ h7 (by decide)]
    exact ⟨by omega, h6.2⟩
  · intro m hm
    rw [e 20 (by decide), e 21 (by decide), e 13 (by decide), e19]
    have h1 := h.R.m hm
    exact ⟨h1.1, fun k hk => ⟨(h1.2 k hk).1, by have := (h1.2 k hk).2; omega⟩⟩
  · intro i hi k'
    rw [e19] at hi
    rw [e 23 (by decide), e 25 (by decide)]
    by_cases hic : i = c
    · subst hic
      rw [ec 22 (by decide), ec 24 (by decide)]
      exact ⟨fun h => absurd h (Nat.not_lt_zero _), fun h => absurd h (Nat.not_lt_zero _)⟩
    · rw [eo 22 i hic (by decide), eo 24 i hic (by decide)]
      exact (h.1.fe i (by omega)).2.2 k'
  · intro x hx
    rw [e 17 (by decide), e 13 (by decide)]
    have h1 := h.1.2.1 x hx
    refine ⟨h1.1, fun h0 => ?_⟩
    have h2 := h1.2 h0
    have h3 := (h.R.p (p := x / 62) (by omega)).2 h2.1
    rw [eP _ (by omega)]; exact h2
  · intro m hm
    rw [e 18 (by decide), e 20 (by decide), e 21 (by decide), e 17 (by decide)]
    exact h.1.2.2.1 m hm
  · rw [e 20 (by decide), e 21 (by decide)]; exact h.1.2.2.2
  · intro i hi
    rw [e19] at hi
    by_cases hic : i = c
    · subst hic
      rw [ec 5 (by decide), ec 7 (by decide), ec 8 (by decide), ec 9 (by decide), ec 22 (by decide), ec 24 (by decide)]
      exact ⟨show (4 : Nat) ≤ 99 by decide, show (0 : Nat) ≤ 2 by decide, Nat.le_refl _, Nat.le_refl _⟩
    · rw [eo 5 i hic (by decide), eo 7 i hic (by decide), eo 8 i hic (by decide), eo 9 i hic (by decide), eo 22 i hic (by decide), eo 24 i hic (by decide)]
      exact h.C (by omega)
  · intro P hD hP
    have hr : ref t P = ref s P := by
      obtain ⟨hP1, hP2⟩ := ref_cases hP
      rw [e19] at hP1
      by_cases hic : P.2.1 = c
      · exfalso
        rw [hic] at hP2
        have e22 : t.1 22 c = 0 := ec 22 (by decide)
        have e24 : t.1 24 c = 0 := ec 24 (by decide)
        rcases hP2 with ⟨-, h2, h3⟩ | ⟨-, h2, h3⟩ | ⟨-, h2, h3⟩ | ⟨-, h2, h3⟩
        · rw [e15 15 c _ (Or.inl rfl) h2, if_pos rfl] at h3; omega
        · rw [e15 16 c _ (Or.inr rfl) h2, if_pos rfl] at h3; omega
        · omega
        · omega
      · unfold ref
        rw [e19, if_pos (by omega), if_pos (show P.2.1 < s.1 19 0 by omega), e 23 (by decide), e 25 (by decide), eo 22 _ hic (by decide), eo 24 _ hic (by decide)]
        by_cases h2 : P.2.2 < 4
        · rw [e15 15 _ _ (Or.inl rfl) h2, e15 16 _ _ (Or.inr rfl) h2, if_neg hic, if_neg hic]
        · rw [if_neg (fun e => h2 e.2), if_neg (fun e => h2 e.2), if_neg (show ¬ (P.1 = 0 ∧ P.2.2 < 4) from fun e => h2 e.2), if_neg (show ¬ (P.1 = 1 ∧ P.2.2 < 4) from fun e => h2 e.2)]
    rw [hr] at hP ⊢
    have h1 := hpl P hD hP
    exact ⟨h1.1, by rw [e 18 (by decide)]; exact h1.2.1, by rw [e 20 (by decide), e 21 (by decide), e 13 (by decide)]; exact h1.2.2.1, by rw [e 20 (by decide)]; exact h1.2.2.2.1, by rw [e 20 (by decide)]; exact h1.2.2.2.2⟩
theorem EQs.bgc {s t : xS} (h : EQs s t) {c k a st : Nat} (hc : c = s.1 19 0) : EQs (sBeg s c k a st) (sBeg t c k a st) := by
  have e19 : (sBeg s c k a st).1 19 0 = c + 1 := sBeg_19
  refine ⟨fun q j hm => ?_, fun x hx => ?_, fun i hi => ?_⟩
  · by_cases hT : tB c q j
    · rw [sBeg_y hT, sBeg_y hT]
    · rw [sBeg_n hT, sBeg_n hT]
      refine h.1 q j ?_
      unfold mg at hm ⊢
      rw [e19, sBeg_q (q := 20) (by decide)] at hm
      unfold tB at hT
      have n22 : ∀ i, i ≠ c → (sBeg s c k a st).1 22 i = s.1 22 i := fun i hi => sBeg_o hi (by decide)
      have n24 : ∀ i, i ≠ c → (sBeg s c k a st).1 24 i = s.1 24 i := fun i hi => sBeg_o hi (by decide)
      have c22 : (sBeg s c k a st).1 22 c = 0 := sBeg_c (by decide)
      have c24 : (sBeg s c k a st).1 24 c = 0 := sBeg_c (by decide)
      rcases hm with h | h | h | h | h | h | h | h | h | h
      · exact Or.inl h
      · exact Or.inr (Or.inl (by omega))
      · exact Or.inr (Or.inr (Or.inl h))
      · exact Or.inr (Or.inr (Or.inr (Or.inl (by omega))))
      · exact Or.inr (Or.inr (Or.inr (Or.inr (Or.inl h))))
      · exact Or.inr (Or.inr (Or.inr (Or.inr (Or.inr (Or.inl h)))))
      · exact Or.inr (Or.inr (Or.inr (Or.inr (Or.inr (Or.inr (Or.inl h))))))
      · exact Or.inr (Or.inr (Or.inr (Or.inr (Or.inr (Or.inr (Or.inr (Or.inl (by omega))))))))
      · by_cases hj : j / 24 = c
        · rw [hj, c22] at h; omega
        · rw [n22 _ hj] at h
          exact Or.inr (Or.inr (Or.inr (Or.inr (Or.inr (Or.inr (Or.inr (Or.inr (Or.inl ⟨h.1, by omega, h.2.2⟩))))))))
      · by_cases hj : j / 24 = c
        · rw [hj, c24] at h; omega
        · rw [n24 _ hj] at h
          exact Or.inr (Or.inr (Or.inr (Or.inr (Or.inr (Or.inr (Or.inr (Or.inr (Or.inr ⟨h.1, by omega, h.2.2⟩))))))))
  · rw [sBeg_2, sBeg_2]; exact h.2.1 x hx
  · rw [e19] at hi
    rw [sBeg_2, sBeg_2]
    show (if i = c then 0 else t.2.2 i) = if i = c then 0 else s.2.2 i
    by_cases hic : i = c
    · rw [if_pos hic, if_pos hic]
    · rw [if_neg hic, if_neg hic]; exact h.2.2 i (by omega)
theorem rCache_ok {s t : xS} (h : EQs s t) (hI : INV s) {a0 a1 a2 : Int32} : (rCache t a0 a1 a2).1 = (rCache s a0 a1 a2).1 ∧ EQs (rCache s a0 a1 a2).2 (rCache t a0 a1 a2).2 ∧ INV (rCache s a0 a1 a2).2 := by
  by_cases h0 : cN 6 a0 < 6
  · by_cases h1 : okE 16 400 a1 = true
    · by_cases h2 : okE 8 64 a2 = true
      · have en := h.n (j := 0) (by decide)
        by_cases h4 : s.1 19 0 < 4
        · obtain ⟨a, -, b1, b2, e1⟩ := okE_v (by decide) (by decide) h1
          obtain ⟨st, -, c1, c2, e2⟩ := okE_v (by decide) (by decide) h2
          rw [rCache_y h0 h1 h2 h4, rCache_y h0 h1 h2 (by omega), en, e1, e2]
          exact ⟨rfl, h.bgc rfl, hI.beg rfl h4 h0 b1 b2 c2⟩
        · rw [rCache_f h0 h1 h2 h4, rCache_f h0 h1 h2 (by omega)]; exact ⟨rfl, h, hI⟩
      · rw [rCache_c h2, rCache_c h2]; exact ⟨rfl, h, hI⟩
    · rw [rCache_b h1, rCache_b h1]; exact ⟨rfl, h, hI⟩
  · rw [rCache_a h0, rCache_a h0]; exact ⟨rfl, h, hI⟩
