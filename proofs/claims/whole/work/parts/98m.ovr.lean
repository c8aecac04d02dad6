/-! passing over a body -/
theorem NumD_dg {τ : Nat → Int32} {n : Nat} : ∀ {e x a : Nat}, NumD τ e x n a → ∀ i, x ≤ i → i < x + e → ∃ k, k < 10 ∧ τ i = nI (48 + k) := by
  intro e
  induction e with
  | zero => intro x a _ i h1 h2; omega
  | succ e ih =>
    intro x a h i h1 h2
    obtain ⟨k, hk, ht, hN⟩ := h
    by_cases hi : i = x
    · exact ⟨k, hk, by rw [hi]; exact ht⟩
    · exact ih hN i (by omega) (by omega)
theorem nb (v : Nat) (h : v < 2 ^ 31) (h1 : v ≠ 40 ∧ v ≠ 41) {z : Int32} (hz : z = nI v) : z ≠ nI 40 ∧ z ≠ nI 41 := by
  subst hz
  exact ⟨fun e => h1.1 (by rwa [nI_eq h (by decide)] at e), fun e => h1.2 (by rwa [nI_eq h (by decide)] at e)⟩
theorem ac_ne {a b : Nat} {z : Int32} (ha : a < 2 ^ 31) (hb : b < 2 ^ 31) (h : z = nI a) (hab : a ≠ b) : ¬ z = nI b := fun e => hab (by rw [h, nI_eq ha hb] at e; exact e)
theorem opB_n {j r a : Nat} {N : xMem} (h : N.1 (27, 0, j) r = nI a) (ha : a < 4 ∨ a = 6) : opB j N r = false := by
  unfold opB
  rw [decide_eq_false]
  rintro (e | e)
  · exact ac_ne (by omega) (by decide) h (by omega) e
  · exact ac_ne (by omega) (by decide) h (by omega) e
theorem clB_n {j r a : Nat} {N : xMem} (h : N.1 (27, 0, j) r = nI a) (ha : a < 6) : clB j N r = false := by
  unfold clB
  rw [decide_eq_false (ac_ne (by omega) (by decide) h (by omega))]
theorem opB_y {j r a : Nat} {N : xMem} (h : N.1 (27, 0, j) r = nI a) (ha : a = 4 ∨ a = 5) : opB j N r = true := by
  unfold opB
  rw [decide_eq_true]
  rcases ha with rfl | rfl
  · exact Or.inl h
  · exact Or.inr h
theorem clB_y {j r : Nat} {N : xMem} (h : N.1 (27, 0, j) r = nI 6) : clB j N r = true := by
  unfold clB
  rw [decide_eq_true h]
/-- one row passed over -/
theorem S_overR {j r x y l f : Nat} {N X : xMem} {d : Int32} {s : xS} (hW : XW X) (h44 : X.1 (44, 0, 0) 44 = nI x) (hR : RW j N (X.1 (76, 0, 0)) r x y) (hy : y ≤ 100) (hl0 : 0 < l) (hl : l < 900) : x < y ∧ fM_passesOver_2 (f + (y - x)) (mM d s X) (some (44, 0, 0)) (nI l) = fM_passesOver_2 f (mM d s (xsi X (44, 0, 0) 44 (nI y))) (some (44, 0, 0)) (nI (if opB j N r = true then l + 1 else if clB j N r = true then l - 1 else l)) := by
  rcases hR with ⟨v, c, p, hv, hc, hp, ha, -, -, -, t0, t1, t2, t3, t4, rfl⟩ | ⟨v, p, hv, hp, ha, -, -, t0, t1, t2, t3, rfl⟩ | ⟨v, n, e, hv, he, ha, -, -, t0, t1, hN, rfl⟩ | ⟨ha, t0, rfl⟩ | ⟨n, e, he, ha, -, hN, t0, rfl⟩ | ⟨c, hc, ha, -, t0, t1, t2, rfl⟩ | ⟨ha, t0, rfl⟩
  · rw [opB_n ha (by omega), clB_n ha (by omega), if_neg (by decide), if_neg (by decide), Nat.add_sub_cancel_left]
    refine ⟨by omega, S_over1 hl0 (by omega) 5 x f X hW h44 (by omega) (fun i h1 h2 => ?_)⟩
    rcases (show i = x ∨ i = x + 1 ∨ i = x + 2 ∨ i = x + 3 ∨ i = x + 4 by omega) with h | h | h | h | h <;> rw [h]
    · exact nb _ (by omega) (by omega) t0
    · exact nb _ (by omega) (by omega) t1
    · exact nb _ (by omega) (by omega) t2
    · exact nb _ (by omega) (by omega) t3
    · exact nb _ (by omega) (by omega) t4
  · rw [opB_n ha (by omega), clB_n ha (by omega), if_neg (by decide), if_neg (by decide), Nat.add_sub_cancel_left]
    refine ⟨by omega, S_over1 hl0 (by omega) 4 x f X hW h44 (by omega) (fun i h1 h2 => ?_)⟩
    rcases (show i = x ∨ i = x + 1 ∨ i = x + 2 ∨ i = x + 3 by omega) with h | h | h | h <;> rw [h]
    · exact nb _ (by omega) (by omega) t0
    · exact nb _ (by omega) (by omega) t1
    · exact nb _ (by omega) (by omega) t2
    · exact nb _ (by omega) (by omega) t3
  · rw [opB_n ha (by omega), clB_n ha (by omega), if_neg (by decide), if_neg (by decide), Nat.add_assoc, Nat.add_sub_cancel_left]
    refine ⟨by omega, S_over1 hl0 (by omega) (2 + (e + 1)) x f X hW h44 (by omega) (fun i h1 h2 => ?_)⟩
    by_cases i0 : i = x
    · rw [i0]; exact nb _ (by omega) (by omega) t0
    · by_cases i1 : i = x + 1
      · rw [i1]; exact nb _ (by omega) (by omega) t1
      · obtain ⟨k, hk, ht⟩ := NumD_dg hN i (by omega) (by omega)
        exact nb _ (by omega) (by omega) ht
  · rw [opB_n ha (by omega), clB_n ha (by omega), if_neg (by decide), if_neg (by decide), Nat.add_sub_cancel_left]
    refine ⟨by omega, S_over1 hl0 (by omega) 1 x f X hW h44 (by omega) (fun i h1 h2 => ?_)⟩
    rw [show i = x from by omega]
    exact nb _ (by omega) (by omega) t0
  · rw [opB_y ha (by omega), if_pos rfl, show f + (x + (e + 1) + 1 - x) = f + 1 + (e + 1) from by omega]
    have h1 := S_over1 (d := d) (s := s) hl0 (show l < 1000 by omega) (e + 1) x (f + 1) X hW h44 (by omega) (fun i h1 h2 => by
      obtain ⟨k, hk, ht⟩ := NumD_dg hN i (by omega) (by omega)
      exact nb _ (by omega) (by omega) ht)
    have hW1 : XW (xsi X (44, 0, 0) 44 (nI (x + (e + 1)))) := hW
    have h2 := S_over2 (d := d) (s := s) (f := f) hl0 (show l < 1000 by omega) hW1 (x := x + (e + 1)) (by rw [xsi_1, if_pos ⟨rfl, rfl⟩]) (by omega) (by rw [xsi_1, if_neg (fun e => absurd e.1 (by decide))]; exact t0)
    exact ⟨by omega, by rw [h1, h2, xsi_xsi]⟩
  · rw [opB_y ha (by omega), if_pos rfl, show x + 3 - x = 1 + 2 from by omega, ← Nat.add_assoc]
    have h1 := S_over1 (d := d) (s := s) hl0 (show l < 1000 by omega) 2 x (f + 1) X hW h44 (by omega) (fun i h1 h2 => by
      rcases (show i = x ∨ i = x + 1 by omega) with h | h <;> rw [h]
      · exact nb _ (by omega) (by omega) t0
      · exact nb _ (by omega) (by omega) t1)
    have hW1 : XW (xsi X (44, 0, 0) 44 (nI (x + 2))) := hW
    have h2 := S_over2 (d := d) (s := s) (f := f) hl0 (show l < 1000 by omega) hW1 (x := x + 2) (by rw [xsi_1, if_pos ⟨rfl, rfl⟩]) (by omega) (by rw [xsi_1, if_neg (fun e => absurd e.1 (by decide))]; exact t2)
    exact ⟨by omega, by rw [h1, h2, xsi_xsi]⟩
  · rw [opB_n ha (by omega), clB_y ha, if_neg (by decide), if_pos rfl, Nat.add_sub_cancel_left]
    exact ⟨by omega, S_over3 hl0 (by omega) hW h44 (by omega) t0⟩
/-- what a program's text is behind a row -/
theorem PG.row {j L R r : Nat} {N : xMem} {τ : Nat → Int32} {tp : Nat → Nat} (h : PG j N τ L R tp) (hr : r < R) : ∃ y, y ≤ L ∧ RW j N τ r (tp r) y ∧ (if opB j N r = true then r + 1 < R ∧ tp (r + 1) = y ∧ clB j N (r + 1) = false else if r + 1 = R then y = L else if clB j N (r + 1) = true then tp (r + 1) = y else τ y = nI 59 ∧ tp (r + 1) = y + 1) := h.2.2.2.2.1 r hr
/-- a body is passed over to its end -/
theorem S_over {j L R o : Nat} {N : xMem} {τ : Nat → Int32} {tp : Nat → Nat} {d : Int32} {s : xS} (hP : PG j N τ L R tp) : ∀ e i f (pre : List Nat) (X : xMem), i + e = R → stk (opB j N) (clB j N) i = pre ++ o :: stk (opB j N) (clB j N) o → XW X → X.1 (76, 0, 0) = τ → X.1 (44, 0, 0) 44 = nI (tp i) → 102 ≤ f + tp i → ∃ z, i ≤ z ∧ z < R ∧ clB j N z = true ∧ stk (opB j N) (clB j N) z = o :: stk (opB j N) (clB j N) o ∧ fM_passesOver_2 f (mM d s X) (some (44, 0, 0)) (nI (pre.length + 1)) = some (mM d s (xsi X (44, 0, 0) 44 (nI (tp z + 1)))) := by
  intro e
  induction e with
  | zero =>
    intro i f pre X hi hs _ _ _ _
    have hi : i = R := by omega
    rw [hi, hP.2.2.2.2.2.2.1] at hs
    cases pre <;> cases hs
  | succ e ih =>
    intro i f pre X hi hs hW hτ h44 hf
    have hiR : i < R := by omega
    obtain ⟨y, hy, hRW, hnext⟩ := hP.row hiR
    have hL := hP.2.1
    have hlen : pre.length + 1 ≤ 5 := by
      have := hP.2.2.2.2.2.2.2 i (by omega)
      rw [hs, List.length_append, List.length_cons] at this
      omega
    have hxy := S_overR (f := f - (y - tp i)) (d := d) (s := s) hW h44 (by rw [hτ]; exact hRW) (by omega) (show 0 < pre.length + 1 by omega) (by omega)
    have hxy1 := hxy.1
    have e1 := hxy.2
    rw [show f - (y - tp i) + (y - tp i) = f from by omega] at e1
    have hW1 : XW (xsi X (44, 0, 0) 44 (nI y)) := hW
    have hτ1 : ∀ v, (xsi X (44, 0, 0) 44 v).1 (76, 0, 0) = τ := fun v => by
      rw [← hτ]; funext q; rw [xsi_1, if_neg (fun e => absurd e.1 (by decide))]
    have h441 : ∀ v, (xsi X (44, 0, 0) 44 v).1 (44, 0, 0) 44 = v := fun v => by rw [xsi_1, if_pos ⟨rfl, rfl⟩]
    -- behind a row that opens nothing: to the next row
    have nxt : ∀ (g : Nat) (pre' : List Nat), opB j N i = false → stk (opB j N) (clB j N) (i + 1) = pre' ++ o :: stk (opB j N) (clB j N) o → 102 ≤ g + y → ∃ z, i ≤ z ∧ z < R ∧ clB j N z = true ∧ stk (opB j N) (clB j N) z = o :: stk (opB j N) (clB j N) o ∧ fM_passesOver_2 g (mM d s (xsi X (44, 0, 0) 44 (nI y))) (some (44, 0, 0)) (nI (pre'.length + 1)) = some (mM d s (xsi X (44, 0, 0) 44 (nI (tp z + 1)))) := by
      intro g pre' hno hs' hg
      rw [hno, if_neg (by decide)] at hnext
      have hne : i + 1 ≠ R := fun e => by
        rw [e, hP.2.2.2.2.2.2.1] at hs'
        cases pre' <;> cases hs'
      have hlen' : pre'.length + 1 ≤ 5 := by
        have := hP.2.2.2.2.2.2.2 (i + 1) (by omega)
        rw [hs', List.length_append, List.length_cons] at this
        omega
      rw [if_neg hne] at hnext
      by_cases hc : clB j N (i + 1) = true
      · rw [if_pos hc] at hnext
        obtain ⟨z, z1, z2, z3, z4, z5⟩ := ih (i + 1) g pre' (xsi X (44, 0, 0) 44 (nI y)) (by omega) hs' hW1 (hτ1 _) (by rw [h441, hnext]) (by rw [hnext]; exact hg)
        exact ⟨z, by omega, z2, z3, z4, by rw [z5, xsi_xsi]⟩
      · rw [if_neg hc] at hnext
        have hyL : y < L := by
          obtain ⟨y2, hy2, hRW2, -⟩ := hP.row (r := i + 1) (by omega)
          have h7 : tp (i + 1) < y2 := by
            have := (S_overR (f := 0) (d := d) (s := s) (l := 1) (X := xsi X (44, 0, 0) 44 (nI (tp (i + 1)))) hW (h441 _) (by rw [hτ1]; exact hRW2) (by omega) (by decide) (by decide)).1
            exact this
          omega
        have e2 := S_over1 (d := d) (s := s) (l := pre'.length + 1) (by omega) (by omega) 1 y (g - 1) (xsi X (44, 0, 0) 44 (nI y)) hW1 (h441 _) (by omega) (fun q q1 q2 => by
          rw [hτ1, show q = y from by omega]
          exact nb _ (by omega) (by omega) hnext.1)
        rw [show g - 1 + 1 = g from by omega, xsi_xsi] at e2
        have hW2 : XW (xsi X (44, 0, 0) 44 (nI (y + 1))) := hW
        obtain ⟨z, z1, z2, z3, z4, z5⟩ := ih (i + 1) (g - 1) pre' (xsi X (44, 0, 0) 44 (nI (y + 1))) (by omega) hs' hW2 (hτ1 _) (by rw [h441, hnext.2]) (by rw [hnext.2]; omega)
        exact ⟨z, by omega, z2, z3, z4, by rw [e2, z5, xsi_xsi]⟩
    rw [e1]
    by_cases ho : opB j N i = true
    · rw [if_pos ho]
      rw [if_pos ho] at hnext
      have hs' : stk (opB j N) (clB j N) (i + 1) = (i :: pre) ++ o :: stk (opB j N) (clB j N) o := by
        show (if opB j N i = true then i :: stk (opB j N) (clB j N) i else _) = _
        rw [if_pos ho, hs]; rfl
      obtain ⟨z, z1, z2, z3, z4, z5⟩ := ih (i + 1) (f - (y - tp i)) (i :: pre) (xsi X (44, 0, 0) 44 (nI y)) (by omega) hs' hW1 (hτ1 _) (by rw [h441, hnext.2.1]) (by rw [hnext.2.1]; omega)
      rw [List.length_cons] at z5
      exact ⟨z, by omega, z2, z3, z4, by rw [z5, xsi_xsi]⟩
    · rw [if_neg ho]
      by_cases hc : clB j N i = true
      · rw [if_pos hc]
        cases pre with
        | nil =>
          refine ⟨i, Nat.le_refl _, hiR, hc, hs, ?_⟩
          have hy1 : y = tp i + 1 := by
            rcases hRW with ⟨v, c, p, hv, hc', hp, ha, -⟩ | ⟨v, p, hv, hp, ha, -⟩ | ⟨v, n, e, hv, he, ha, -⟩ | ⟨ha, -⟩ | ⟨n, e, he, ha, -⟩ | ⟨c, hc', ha, -⟩ | ⟨-, -, h⟩
            · rw [clB_n ha (by omega)] at hc; cases hc
            · rw [clB_n ha (by omega)] at hc; cases hc
            · rw [clB_n ha (by omega)] at hc; cases hc
            · rw [clB_n ha (by omega)] at hc; cases hc
            · rw [clB_n ha (by omega)] at hc; cases hc
            · rw [clB_n ha (by omega)] at hc; cases hc
            · exact h
          obtain ⟨g, hg⟩ : ∃ g, f - (y - tp i) = g + 1 := ⟨f - (y - tp i) - 1, by omega⟩
          rw [hg, hy1]
          show fM_passesOver_2 (g + 1) _ _ (nI 0) = _
          unfold fM_passesOver_2
          rw [if_pos (by decide)]
        | cons a pre =>
          have hs' : stk (opB j N) (clB j N) (i + 1) = pre ++ o :: stk (opB j N) (clB j N) o := by
            show (if opB j N i = true then _ else if clB j N i = true then (stk (opB j N) (clB j N) i).tail else _) = _
            rw [if_neg ho, if_pos hc, hs]; rfl
          have := nxt (f - (y - tp i)) pre (bfal ho) hs' (by omega)
          rw [List.length_cons, Nat.add_sub_cancel]
          exact this
      · rw [if_neg hc]
        have hs' : stk (opB j N) (clB j N) (i + 1) = pre ++ o :: stk (opB j N) (clB j N) o := by
          show (if opB j N i = true then _ else if clB j N i = true then _ else stk (opB j N) (clB j N) i) = _
          rw [if_neg ho, if_neg hc, hs]
        exact nxt (f - (y - tp i)) pre (bfal ho) hs' (by omega)
