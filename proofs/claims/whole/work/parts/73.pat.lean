/-! cells of a memory, many at once -/
def pat (P : xId → Nat → Bool) (f : xId → Nat → Int32) (Y : xMem) : xMem := (fun a x => if P a x = true then f a x else Y.1 a x, Y.2)
theorem pat_1 {P : xId → Nat → Bool} {f : xId → Nat → Int32} {Y : xMem} {a : xId} {x : Nat} : (pat P f Y).1 a x = if P a x = true then f a x else Y.1 a x := rfl
theorem pat_W {P : xId → Nat → Bool} {f : xId → Nat → Int32} {Y : xMem} (h : XW Y) : XW (pat P f Y) := h
theorem cM_pat {t : xS} {Y : xMem} {P : xId → Nat → Bool} {f : xId → Nat → Int32} (h : ∀ a x, P a x = true → a.1 = 0 ∨ a.1 = 10 ∨ 22 < a.1) : pat P f (cM 0 t Y) = cM 0 t (pat P f Y) := by
  refine Prod.ext ?_ rfl
  funext a x
  rw [pat_1]
  obtain ⟨κ, b, i⟩ := a
  by_cases hP : P (κ, b, i) x = true
  · rw [if_pos hP, cO_r (h _ _ hP), pat_1, if_pos hP]
  · rw [if_neg hP]
    show (if b = 0 then (cI t κ i x).getD (Y.1 (κ, b, i) x) else Y.1 (κ, b, i) x) = if b = 0 then (cI t κ i x).getD ((pat P f Y).1 (κ, b, i) x) else (pat P f Y).1 (κ, b, i) x
    rw [pat_1, if_neg hP]
theorem pat_x {Y : xMem} {a : xId} {j : Nat} {v : Int32} : xsi Y a j v = pat (fun a' x => decide (a' = a ∧ x = j)) (fun _ _ => v) Y := by
  refine Prod.ext ?_ rfl
  funext a' x
  rw [xsi_1, pat_1]
  by_cases h : a' = a ∧ x = j
  · rw [if_pos h, if_pos (decide_eq_true h)]
  · rw [if_neg h, if_neg (by rw [decide_eq_false h]; decide)]
theorem D_fillA {M : xMem} {a : xId} {n : Nat} {v : Int32} (hW : XW M) (hs : xsh a = some (20, n)) (hn : n < 1000000) : fJ_fill M (some a) v = some (pat (fun a' x => decide (a' = a ∧ x < n)) (fun _ _ => v) M) := by
  have key : ∀ e i m, i + e = n → e < m → fJ_fill_5 m (pat (fun a' x => decide (a' = a ∧ x < i)) (fun _ _ => v) M) (some a) v (nI i) (nI n) = some (pat (fun a' x => decide (a' = a ∧ x < n)) (fun _ _ => v) M) := by
    intro e
    induction e with
    | zero =>
      intro i m hie hm
      obtain ⟨m, rfl⟩ : ∃ q, m = q + 1 := ⟨m - 1, by omega⟩
      have h5 : i = n := by omega
      subst h5
      unfold fJ_fill_5
      rw [if_pos (by rw [nI_leI (by omega) (by omega)]; exact Nat.le_refl _)]
    | succ e ih =>
      intro i m hie hm
      obtain ⟨m, rfl⟩ : ∃ q, m = q + 1 := ⟨m - 1, by omega⟩
      have h5 : ¬ n ≤ i := by omega
      unfold fJ_fill_5
      rw [if_neg (by rw [nI_leI (by omega) (by omega)]; exact h5), xuI_w (pat_W hW) hs (by omega) (by omega), Option.bind_some, kl_1, nI_add]
      rw [show xsi (pat (fun a' x => decide (a' = a ∧ x < i)) (fun _ _ => v) M) a i v = pat (fun a' x => decide (a' = a ∧ x < i + 1)) (fun _ _ => v) M from ?_]
      · exact ih (i + 1) m (by omega) (by omega)
      · refine Prod.ext ?_ rfl
        funext a' x
        rw [xsi_1, pat_1, pat_1]
        by_cases h1 : a' = a
        · by_cases h2 : x = i
          · rw [if_pos ⟨h1, h2⟩, if_pos (decide_eq_true ⟨h1, by omega⟩)]
          · rw [if_neg (fun e => h2 e.2)]
            by_cases h3 : x < i
            · rw [if_pos (decide_eq_true ⟨h1, h3⟩), if_pos (decide_eq_true ⟨h1, by omega⟩)]
            · rw [if_neg (by rw [decide_eq_false (fun e => h3 e.2)]; decide), if_neg (by rw [decide_eq_false (fun e => by omega)]; decide)]
        · rw [if_neg (fun e => h1 e.1), if_neg (by rw [decide_eq_false (fun e => h1 e.1)]; decide), if_neg (by rw [decide_eq_false (fun e => h1 e.1)]; decide)]
  have h0 : M = pat (fun a' x => decide (a' = a ∧ x < 0)) (fun _ _ => v) M := by
    refine Prod.ext ?_ rfl
    funext a' x
    rw [pat_1, if_neg (by rw [decide_eq_false (fun e => Nat.not_lt_zero _ e.2)]; decide)]
  have h1 := key n 0 xF (by omega) (by unfold xF; omega)
  rw [← h0] at h1
  unfold fJ_fill
  rw [xal_w hW hs (by decide) (by decide), Option.bind_some, kl_0]
  exact h1
