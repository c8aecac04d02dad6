/-! a run to its end -/
/-- the beginning of a move, where no step is left -/
theorem R_mv0 {j b κn r a : Nat} {u : xS} {N : xMem} (h : CS j b κn N) (hr : r < 100) (ha : N.1 (27, 0, j) r = nI a) (ha6 : a < 6) (e0 : N.1 (36, 0, 0) 0 = nI 400) : fR_move (cM b u N) (36, 0, 0) (nI r) = some (nI r, cM b u (xsi N (36, 0, 0) 1 (-6))) := by
  unfold fR_move
  rw [h.r3, Option.bind_some, h.tr (k := 0) (by decide), Option.bind_some, h.ra (k := 0) (by decide) hr ha, Option.bind_some, if_neg (show ¬ nI a = (6 : Int32) from fun e => by
    have e2 : nI a = nI 6 := e
    rw [nI_eq (by omega) (by decide)] at e2
    omega), h.o5, Option.bind_some, R_step h (by decide) e0, Option.bind_some, if_neg (show ¬ (400 : Nat) < 400 by decide)]
  rfl
theorem RW_act {j r x y : Nat} {N : xMem} {τ : Nat → Int32} (h : RW j N τ r x y) (hc : clB j N r = false) : ∃ a, a < 6 ∧ N.1 (27, 0, j) r = nI a := by
  rcases h with ⟨v, c, p, hv, hc', hp, ha, -⟩ | ⟨v, p, hv, hp, ha, -⟩ | ⟨v, n, e, hv, he, ha, -⟩ | ⟨ha, -⟩ | ⟨n, e, he, ha, -⟩ | ⟨c, hc', ha, -⟩ | ⟨ha, -⟩
  · exact ⟨0, by decide, ha⟩
  · exact ⟨1, by decide, ha⟩
  · exact ⟨2, by decide, ha⟩
  · exact ⟨3, by decide, ha⟩
  · exact ⟨4, by decide, ha⟩
  · exact ⟨5, by decide, ha⟩
  · rw [clB_y ha] at hc; cases hc
/-- the model's loop behind a statement -/
def mCn (g : Nat) (M : xMem) : Option xMem := (fM_goesBehind M (44, 0, 0)).bind fun q11 => if q11.1 = 0 then fM_runs_22 g q11.2 (some (44, 0, 0)) 0 else fM_runs_22 g q11.2 (some (44, 0, 0)) 1
theorem RN_0 {g : Nat} {M : xMem} : fM_runs_22 (g + 1) M (some (44, 0, 0)) 0 = some M := by
  unfold fM_runs_22
  rw [if_pos rfl]
theorem RN_1 {d : Int32} {s : xS} {X : xMem} {σ g : Nat} (hW : XW X) (hσ : σ ≤ 400) (e0 : X.1 (44, 0, 0) 47 = nI σ) : fM_runs_22 (g + 1) (mM d s X) (some (44, 0, 0)) 1 = if σ < 400 then (fM_runsStatement (mM d s (xsi X (44, 0, 0) 47 (nI (σ + 1)))) (44, 0, 0)).bind fun q8 => (xgI q8 (some (44, 0, 0)) 8 48).bind fun v9 => if v9 = 0 then (xob q8 (some (44, 0, 0)) 8).bind fun u10 => (fM_goesBehind q8 u10).bind fun q11 => if q11.1 = 0 then fM_runs_22 g q11.2 (some (44, 0, 0)) 0 else fM_runs_22 g q11.2 (some (44, 0, 0)) 1 else fM_runs_22 g q8 (some (44, 0, 0)) 0 else some (mM d s (xsi X (44, 0, 0) 48 (-6))) := by
  have hW1 : XW (xsi X (44, 0, 0) 47 (nI (σ + 1))) := hW
  rw [show fM_runs_22 (g + 1) (mM d s X) (some (44, 0, 0)) 1 = _ from by unfold fM_runs_22 fM_runs_55 fM_runs_56; rfl]
  rw [if_neg (by decide), nob hW, Option.bind_some, S_step hW hσ e0, Option.bind_some]
  by_cases h : σ < 400
  · rw [if_pos h, if_pos h]
    dsimp only
    rw [if_neg (by decide), nob hW1, Option.bind_some]
  · rw [if_neg h, if_neg h]
    rfl
/-- what a run comes to, from row ρ with σ steps gone -/
def RUNS (j b κn : Nat) (d : Int32) (N0 X0 : xMem) (s u : xS) (N X : xMem) (ρ m : Nat) : Prop :=
  ∃ s' u' N' X' nm' σ' w', BS κn N0 X0 s' u' N' X' nm' σ' w' ∧ (∀ f c, 20 * m + 20 < f → c + 20 * m + 20 < 1000000 → fR_goThrough_31 f (cM b u N) (some (36, 0, 0)) (some (26, 0, j)) (nI ρ) (nI c) = some (cM b u' N')) ∧ ∀ g, m + 2 < g → fM_runs_22 g (mM d s X) (some (44, 0, 0)) 1 = some (mM d s' X')
theorem CONT {j b κn L R m : Nat} {d : Int32} {N0 X0 : xMem} {tp : Nat → Nat} (h0 : CS j b κn N0) (hWX : XW X0) (hP : PG j N0 (X0.1 (76, 0, 0)) L R tp) (h6 : N0.1 (26, 0, j) 6 = nI R) (h43 : X0.1 (44, 0, 0) 43 = nI L)
    (ih : ∀ m', m' < m → ∀ ρ σ s u N X nm, SP j κn N0 X0 tp s u N X nm σ ρ (tp ρ) → ρ < R → clB j N0 ρ = false → σ + m' = 400 → RUNS j b κn d N0 X0 s u N X ρ m')
    {s u : xS} {N X : xMem} {nm : Nat → Nat} {σ ρ x : Nat} (hS : SP j κn N0 X0 tp s u N X nm σ ρ x) (hA : AFT j N0 (X0.1 (76, 0, 0)) L R tp ρ x) (hρ : ρ ≤ R) (hσ : 400 < σ + m) :
    ∃ s' u' N' X' nm' σ' w', BS κn N0 X0 s' u' N' X' nm' σ' w' ∧ (∀ f c, 20 * m + 10 < f → c + 20 * m + 10 < 1000000 → fR_goThrough_31 f (cM b u N) (some (36, 0, 0)) (some (26, 0, j)) (nI ρ) (nI c) = some (cM b u' N')) ∧ ∀ g, m + 1 < g → mCn g (mM d s X) = some (mM d s' X') := by
  have hB := BEHIND (b := b) (d := d) h0 hWX hP h6 h43 5 ρ x σ N X nm (hP.2.2.2.2.2.2.2 ρ hρ) (Nat.le_refl _) hS hA
  rcases hB with ⟨m', N', X', nm', σ', ρ', g1, g2, g3, g4, g5, g6, g7⟩ | ⟨N', X', nm', σ', w', g1, g2, g3⟩
  · have hσ' := g5.1.2.2.2.2.2.2.2.2.1
    obtain ⟨s2, u2, N2, X2, nm2, σ2, w2, e1, e2, e3⟩ := ih (400 - σ') (by omega) ρ' σ' s u N' X' nm' g5 g3 g4 (by omega)
    refine ⟨s2, u2, N2, X2, nm2, σ2, w2, e1, fun f c hf hc => ?_, fun g hg => ?_⟩
    · rw [show f = (f - m') + m' from by omega, g6 (f - m') c (by omega)]
      exact e2 (f - m') (c + m') (by omega) (by omega)
    · unfold mCn fM_goesBehind
      rw [g7 xF (by unfold xF; omega), Option.bind_some]
      dsimp only
      rw [if_neg (by decide)]
      exact e3 g (by omega)
  · refine ⟨s, u, N', X', nm', σ', w', g1, fun f c hf hc => g2 f c (by omega) (by omega), fun g hg => ?_⟩
    obtain ⟨g, rfl⟩ : ∃ q, g = q + 1 := ⟨g - 1, by omega⟩
    unfold mCn fM_goesBehind
    rw [g3 xF (by unfold xF; omega), Option.bind_some]
    dsimp only
    rw [if_pos rfl]
    exact RN_0
