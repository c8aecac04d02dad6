/-! behind a row -/
def STr (tp : Nat → Nat) (N X : xMem) : List Nat → Prop
  | [] => True
  | o :: rest => (∃ l, l < 1000 ∧ N.1 (37, 0, 0) o = nI l ∧ X.1 (77, 0, 0) rest.length = nI (tp (o + 1)) ∧ X.1 (78, 0, 0) rest.length = nI (l + 1)) ∧ STr tp N X rest
theorem STr.to {tp : Nat → Nat} {N X N' X' : xMem} : ∀ {st : List Nat}, STr tp N X st → (∀ o, o ∈ st → N'.1 (37, 0, 0) o = N.1 (37, 0, 0) o) → (∀ i, i < st.length → X'.1 (77, 0, 0) i = X.1 (77, 0, 0) i ∧ X'.1 (78, 0, 0) i = X.1 (78, 0, 0) i) → STr tp N' X' st := by
  intro st
  induction st with
  | nil => intro _ _ _; trivial
  | cons o rest ih =>
    intro h h1 h2
    obtain ⟨⟨l, a1, a2, a3, a4⟩, hr⟩ := h
    have h3 := h2 rest.length (by rw [List.length_cons]; omega)
    exact ⟨⟨l, a1, (h1 o List.mem_cons_self).trans a2, h3.1.trans a3, h3.2.trans a4⟩, ih hr (fun o ho => h1 o (List.mem_cons_of_mem _ ho)) (fun i hi => h2 i (by rw [List.length_cons]; omega))⟩
/-- the class's loop, once -/
theorem GT_step {j b κn σ c ρ R f : Nat} {N0 X0 N X : xMem} {s u : xS} {nm : Nat → Nat} (h : BS κn N0 X0 s u N X nm σ 0) (h0 : CS j b κn N0) (h6 : N0.1 (26, 0, j) 6 = nI R) (hR : R ≤ 100) (hρ : ρ < R) (hc : c < 1000000) : fR_goThrough_31 (f + 1) (cM b u N) (some (36, 0, 0)) (some (26, 0, j)) (nI ρ) (nI c) = (fR_move (cM b u N) (36, 0, 0) (nI ρ)).bind fun q9 => fR_goThrough_31 f q9.2 (some (36, 0, 0)) (some (26, 0, j)) q9.1 (nI (c + 1)) := by
  have hC := h.C h0
  have hκ := h0.2.2.2.2.2.2
  have e6 : N.1 (26, 0, j) 6 = nI R := by
    rw [h.1.1 _ _ (fun e => absurd (Prod.mk.inj e).1 (by decide)) (fun e => absurd (Prod.mk.inj e).1 (by decide)) (fun e => by have := (Prod.mk.inj e).1; omega)]; exact h6
  have kM : (1000000 : Int32) = nI 1000000 := by decide
  rw [show fR_goThrough_31 (f + 1) (cM b u N) (some (36, 0, 0)) (some (26, 0, j)) (nI ρ) (nI c) = _ from by unfold fR_goThrough_31; rfl]
  rw [kM, if_neg (show ¬ nI 1000000 ≤ nI c from by rw [nI_leI (by decide) (by omega)]; omega), hC.gI, Option.bind_some, h.2.2.2.2.2.2.2.2.2.1, if_pos rfl, if_neg (show ¬ nI ρ < (0 : Int32) from nI_pos (by omega)), xgI_w (M := cM b u N) hC.1 (sh_26 h0.2.2.2.2.1), Option.bind_some, cM_out (Or.inr (Or.inr (by decide))), e6, if_neg (show ¬ nI R ≤ nI ρ from by rw [nI_leI (by omega) (by omega)]; omega), hC.o5, Option.bind_some, nI_k1]
theorem GT_end {j b κn σ c R f : Nat} {N0 X0 N X : xMem} {s u : xS} {nm : Nat → Nat} (h : BS κn N0 X0 s u N X nm σ 0) (h0 : CS j b κn N0) (h6 : N0.1 (26, 0, j) 6 = nI R) (hR : R ≤ 100) : fR_goThrough_31 (f + 1) (cM b u N) (some (36, 0, 0)) (some (26, 0, j)) (nI R) (nI c) = some (cM b u N) := by
  have hC := h.C h0
  have hκ := h0.2.2.2.2.2.2
  have e6 : N.1 (26, 0, j) 6 = nI R := by
    rw [h.1.1 _ _ (fun e => absurd (Prod.mk.inj e).1 (by decide)) (fun e => absurd (Prod.mk.inj e).1 (by decide)) (fun e => by have := (Prod.mk.inj e).1; omega)]; exact h6
  unfold fR_goThrough_31
  split
  · rfl
  · rw [hC.gI, Option.bind_some, h.2.2.2.2.2.2.2.2.2.1, if_pos rfl, if_neg (show ¬ nI R < (0 : Int32) from nI_pos (by omega)), xgI_w (M := cM b u N) hC.1 (sh_26 h0.2.2.2.2.1), Option.bind_some, cM_out (Or.inr (Or.inr (by decide))), e6, if_pos (nI_le (Nat.le_refl _) (by omega))]
theorem GT_why {j b κn σ f : Nat} {N0 X0 N X : xMem} {s u : xS} {nm : Nat → Nat} {w ρ c : Int32} (h : BS κn N0 X0 s u N X nm σ w) (h0 : CS j b κn N0) (hw : w ≠ 0) : fR_goThrough_31 (f + 1) (cM b u N) (some (36, 0, 0)) (some (26, 0, j)) ρ c = some (cM b u N) := by
  have hC := h.C h0
  unfold fR_goThrough_31
  split
  · rfl
  · rw [hC.gI, Option.bind_some, h.2.2.2.2.2.2.2.2.2.1, if_neg hw]
/-- the first letter of a row that closes nothing -/
theorem RW_first {j r x y : Nat} {N : xMem} {τ : Nat → Int32} (h : RW j N τ r x y) (hc : clB j N r = false) : x < y ∧ τ x ≠ nI 41 ∧ τ x ≠ nI 59 := by
  have ne : ∀ a, a < 2 ^ 31 → a ≠ 41 → a ≠ 59 → τ x = nI a → τ x ≠ nI 41 ∧ τ x ≠ nI 59 := fun a h1 h2 h3 h4 => ⟨ac_ne h1 (by decide) h4 h2, ac_ne h1 (by decide) h4 h3⟩
  rcases h with ⟨v, c, p, hv, hc, hp, ha, -, -, -, t0, -, -, -, -, rfl⟩ | ⟨v, p, hv, hp, ha, -, -, t0, -, -, -, rfl⟩ | ⟨v, n, e, hv, he, ha, -, -, t0, -, -, rfl⟩ | ⟨ha, t0, rfl⟩ | ⟨n, e, he, ha, -, hN, -, rfl⟩ | ⟨c, hc, ha, -, t0, -, -, rfl⟩ | ⟨ha, -⟩
  · exact ⟨by omega, ne _ (by omega) (by omega) (by omega) t0⟩
  · exact ⟨by omega, ne _ (by omega) (by omega) (by omega) t0⟩
  · exact ⟨by omega, ne _ (by omega) (by omega) (by omega) t0⟩
  · exact ⟨by omega, ne _ (by omega) (by omega) (by omega) t0⟩
  · obtain ⟨k, hk, ht⟩ := NumD_dg hN x (Nat.le_refl _) (by omega)
    exact ⟨by omega, ne _ (by omega) (by omega) (by omega) ht⟩
  · exact ⟨by omega, ne _ (by omega) (by omega) (by omega) t0⟩
  · rw [clB_y ha] at hc; cases hc
theorem RW_close {j r x y : Nat} {N : xMem} {τ : Nat → Int32} (h : RW j N τ r x y) (hc : clB j N r = true) : N.1 (27, 0, j) r = nI 6 ∧ τ x = nI 41 ∧ y = x + 1 := by
  rcases h with ⟨v, c, p, hv, hc', hp, ha, -⟩ | ⟨v, p, hv, hp, ha, -⟩ | ⟨v, n, e, hv, he, ha, -⟩ | ⟨ha, -⟩ | ⟨n, e, he, ha, -⟩ | ⟨c, hc', ha, -⟩ | h
  · rw [clB_n ha (by omega)] at hc; cases hc
  · rw [clB_n ha (by omega)] at hc; cases hc
  · rw [clB_n ha (by omega)] at hc; cases hc
  · rw [clB_n ha (by omega)] at hc; cases hc
  · rw [clB_n ha (by omega)] at hc; cases hc
  · rw [clB_n ha (by omega)] at hc; cases hc
  · exact h
def SP (j κn : Nat) (N0 X0 : xMem) (tp : Nat → Nat) (s u : xS) (N X : xMem) (nm : Nat → Nat) (σ ρ x : Nat) : Prop :=
  BS κn N0 X0 s u N X nm σ 0 ∧ X.1 (44, 0, 0) 44 = nI x ∧ X.1 (44, 0, 0) 45 = nI (stk (opB j N0) (clB j N0) ρ).length ∧ STr tp N X (stk (opB j N0) (clB j N0) ρ)
def AFT (j : Nat) (N0 : xMem) (τ : Nat → Int32) (L R : Nat) (tp : Nat → Nat) (ρ x : Nat) : Prop :=
  (ρ = R ∧ x = L) ∨ (ρ < R ∧ clB j N0 ρ = true ∧ x = tp ρ) ∨ (ρ < R ∧ clB j N0 ρ = false ∧ ((τ x = nI 59 ∧ tp ρ = x + 1) ∨ x = tp ρ))
theorem PG.next {j L R r y : Nat} {N : xMem} {τ : Nat → Int32} {tp : Nat → Nat} (hr : r < R) (h : if opB j N r = true then r + 1 < R ∧ tp (r + 1) = y ∧ clB j N (r + 1) = false else if r + 1 = R then y = L else if clB j N (r + 1) = true then tp (r + 1) = y else τ y = nI 59 ∧ tp (r + 1) = y + 1) : AFT j N τ L R tp (r + 1) y := by
  by_cases ho : opB j N r = true
  · rw [if_pos ho] at h
    exact Or.inr (Or.inr ⟨h.1, h.2.2, Or.inr h.2.1.symm⟩)
  · rw [if_neg ho] at h
    by_cases hR : r + 1 = R
    · rw [if_pos hR] at h
      exact Or.inl ⟨hR, h⟩
    · rw [if_neg hR] at h
      by_cases hc : clB j N (r + 1) = true
      · rw [if_pos hc] at h
        exact Or.inr (Or.inl ⟨by omega, hc, h.symm⟩)
      · rw [if_neg hc] at h
        exact Or.inr (Or.inr ⟨by omega, bfal hc, Or.inl h⟩)
theorem xsi_id {X : xMem} {a : xId} {k : Nat} {v : Int32} (h : X.1 a k = v) : xsi X a k v = X := by
  refine Prod.ext ?_ rfl
  funext a' y
  rw [xsi_1]
  by_cases e : a' = a ∧ y = k
  · rw [if_pos e, e.1, e.2, h]
  · rw [if_neg e]
def GB (j b κn R : Nat) (d : Int32) (N0 X0 : xMem) (tp : Nat → Nat) (s u : xS) (N X : xMem) (σ ρ : Nat) (m : Nat) : Prop :=
  (∃ m' N' X' nm' σ' ρ', m' ≤ m ∧ σ ≤ σ' ∧ ρ' < R ∧ clB j N0 ρ' = false ∧ SP j κn N0 X0 tp s u N' X' nm' σ' ρ' (tp ρ') ∧ (∀ f c, c + m' < 1000000 → fR_goThrough_31 (f + m') (cM b u N) (some (36, 0, 0)) (some (26, 0, j)) (nI ρ) (nI c) = fR_goThrough_31 f (cM b u N') (some (36, 0, 0)) (some (26, 0, j)) (nI ρ') (nI (c + m'))) ∧ ∀ g, m < g → fM_goesBehind_0 g (mM d s X) (some (44, 0, 0)) = some (1, mM d s X'))
  ∨ (∃ N' X' nm' σ' w', BS κn N0 X0 s u N' X' nm' σ' w' ∧ (∀ f c, m + 1 < f → c + m < 1000000 → fR_goThrough_31 f (cM b u N) (some (36, 0, 0)) (some (26, 0, j)) (nI ρ) (nI c) = some (cM b u N')) ∧ ∀ g, m < g → fM_goesBehind_0 g (mM d s X) (some (44, 0, 0)) = some (0, mM d s X'))
theorem BEHIND0 {j b κn L R ρ x σ m : Nat} {d : Int32} {N0 X0 N X : xMem} {nm : Nat → Nat} {tp : Nat → Nat} {s u : xS} (h0 : CS j b κn N0) (hWX : XW X0) (hP : PG j N0 (X0.1 (76, 0, 0)) L R tp) (h6 : N0.1 (26, 0, j) 6 = nI R) (h43 : X0.1 (44, 0, 0) 43 = nI L) (hS : SP j κn N0 X0 tp s u N X nm σ ρ x) (hA : (ρ = R ∧ x = L) ∨ (ρ < R ∧ clB j N0 ρ = false ∧ ((X0.1 (76, 0, 0) x = nI 59 ∧ tp ρ = x + 1) ∨ x = tp ρ))) : GB j b κn R d N0 X0 tp s u N X σ ρ m := by
  have hκ := h0.2.2.2.2.2.2
  have hR := hP.1
  have hL := hP.2.1
  obtain ⟨hB, h44, h45, hST⟩ := hS
  have hW := hB.W hWX
  have htx := hB.txt
  have e43 := hB.t43.trans h43
  rcases hA with ⟨rfl, rfl⟩ | ⟨hρ, hc, hx⟩
  · refine Or.inr ⟨N, X, nm, σ, 0, hB, fun f c hf _ => ?_, fun g hg => ?_⟩
    · obtain ⟨f, rfl⟩ : ∃ m, f = m + 1 := ⟨f - 1, by omega⟩
      exact GT_end hB h0 h6 hR
    · obtain ⟨g, rfl⟩ : ∃ m, g = m + 1 := ⟨g - 1, by omega⟩
      unfold fM_goesBehind_0 fM_goesBehind_97
      rw [ngI hW (by decide), Option.bind_some, ngI hW (by decide), Option.bind_some, h44, e43, if_pos (nI_le (Nat.le_refl _) (by omega)), Option.bind_some, Option.bind_some, if_pos rfl]
  · obtain ⟨y, hy, hRW, -⟩ := hP.row hρ
    have hfst := RW_first hRW hc
    have hsp : ∀ v, v = tp ρ → SP j κn N0 X0 tp s u N (xsi X (44, 0, 0) 44 (nI v)) nm σ ρ (tp ρ) := fun v hv => by
      refine ⟨hB.at (Or.inl ⟨rfl, by omega⟩), by rw [xsi_1, if_pos ⟨rfl, rfl⟩, hv], by rw [xsi_1, if_neg (by decide)]; exact h45, hST.to (fun _ _ => rfl) (fun i _ => ⟨by rw [xsi_1, if_neg (fun e => absurd e.1 (by decide))], by rw [xsi_1, if_neg (fun e => absurd e.1 (by decide))]⟩)⟩
    refine Or.inl ⟨0, N, xsi X (44, 0, 0) 44 (nI (tp ρ)), nm, σ, ρ, Nat.zero_le _, Nat.le_refl _, hρ, hc, hsp _ rfl, fun f c _ => rfl, fun g hg => ?_⟩
    obtain ⟨g, rfl⟩ : ∃ m, g = m + 1 := ⟨g - 1, by omega⟩
    have hxL : x < L := by rcases hx with hx | hx <;> omega
    have hne : ∀ v, X.1 (76, 0, 0) x = v → v ≠ nI 41 → fM_goesBehind_0 (g + 1) (mM d s X) (some (44, 0, 0)) = fM_goesBehind_97 (mM d s X) (some (44, 0, 0)) := fun v hv h41 => by
      rw [show fM_goesBehind_0 (g + 1) (mM d s X) (some (44, 0, 0)) = _ from by unfold fM_goesBehind_0; rfl]
      rw [ngI hW (by decide), Option.bind_some, ngI hW (by decide), Option.bind_some, h44, e43, if_neg (show ¬ nI L ≤ nI x from by rw [nI_leI (by omega) (by omega)]; omega), nR_39 hW, Option.bind_some, Option.bind_some, nA_76 hW (by omega) hv, Option.bind_some, if_neg (show ¬ v = (41 : Int32) from h41)]
    rcases hx with ⟨h59, htp⟩ | hx
    · rw [← htx] at h59
      rw [hne _ h59 (by decide)]
      unfold fM_goesBehind_97 fM_goesBehind_134
      rw [ngI hW (by decide), Option.bind_some, ngI hW (by decide), Option.bind_some, h44, e43, if_neg (show ¬ nI x = nI L from by rw [nI_eq (by omega) (by omega)]; omega), Option.bind_some, nR_39 hW, Option.bind_some, Option.bind_some, nA_76 hW (by omega) h59, Option.bind_some, if_pos (show nI 59 = (59 : Int32) from rfl), nI_k1, npI hW (by decide), Option.bind_some, htp]
    · have hf2 := hfst.2
      rw [← htx, ← hx] at hf2
      rw [hne _ rfl hf2.1]
      unfold fM_goesBehind_97 fM_goesBehind_134
      rw [ngI hW (by decide), Option.bind_some, ngI hW (by decide), Option.bind_some, h44, e43, if_neg (show ¬ nI x = nI L from by rw [nI_eq (by omega) (by omega)]; omega), Option.bind_some, nR_39 hW, Option.bind_some, Option.bind_some, nA_76 hW (by omega) rfl, Option.bind_some, if_neg (show ¬ X.1 (76, 0, 0) x = (59 : Int32) from hf2.2), nI_k0, npI hW (by decide), Option.bind_some, hx]
theorem BEHIND {j b κn L R : Nat} {d : Int32} {N0 X0 : xMem} {tp : Nat → Nat} {s u : xS} (h0 : CS j b κn N0) (hWX : XW X0) (hP : PG j N0 (X0.1 (76, 0, 0)) L R tp) (h6 : N0.1 (26, 0, j) 6 = nI R) (h43 : X0.1 (44, 0, 0) 43 = nI L) : ∀ k ρ x σ (N X : xMem) (nm : Nat → Nat), (stk (opB j N0) (clB j N0) ρ).length ≤ k → k ≤ 5 → SP j κn N0 X0 tp s u N X nm σ ρ x → AFT j N0 (X0.1 (76, 0, 0)) L R tp ρ x → GB j b κn R d N0 X0 tp s u N X σ ρ (k + 1) := by
  have hκ := h0.2.2.2.2.2.2
  have hR := hP.1
  have hL := hP.2.1
  intro k
  induction k with
  | zero =>
    intro ρ x σ N X nm hk _ hS hA
    rcases hA with hA | ⟨hρ, hc, rfl⟩ | hA
    · exact BEHIND0 h0 hWX hP h6 h43 hS (Or.inl hA)
    · obtain ⟨o, rest, hs, -⟩ := hP.2.2.2.2.2.1 ρ hρ hc
      rw [hs, List.length_cons] at hk
      omega
    · exact BEHIND0 h0 hWX hP h6 h43 hS (Or.inr hA)
  | succ k ih =>
    intro ρ x σ N X nm hk hk5 hS hA
    rcases hA with hA | ⟨hρ, hc, rfl⟩ | hA
    · exact BEHIND0 h0 hWX hP h6 h43 hS (Or.inl hA)
    · obtain ⟨hB, h44, h45, hST⟩ := hS
      have hC := hB.C h0
      have hW := hB.W hWX
      have htx := hB.txt
      have e43 := hB.t43.trans h43
      have hσ := hB.2.2.2.2.2.2.2.2.1
      obtain ⟨o, rest, hs, q1, q2⟩ := hP.2.2.2.2.2.1 ρ hρ hc
      obtain ⟨y, hy, hRW, hnext⟩ := hP.row hρ
      obtain ⟨ha6, t41, rfl⟩ := RW_close hRW hc
      have hno := opB_cl hc
      have hoρ : o < ρ := stk_lt (op := opB j N0) (cl := clB j N0) (by rw [hs]; exact List.mem_cons_self)
      have hcut := stk_cut (op := opB j N0) (cl := clB j N0) (ρ := ρ) (o := o) (l := []) (rest := rest) hs
      rw [hs] at h45 hST hk
      rw [List.length_cons] at h45 hk
      obtain ⟨⟨l, hl, p1, p2, p3⟩, hSTr⟩ := hST
      have hi5 : rest.length < 5 := by omega
      have e6 : N.1 (27, 0, j) ρ = nI 6 := hB.row h0 (by decide) ha6
      have e32 : N.1 (32, 0, j) ρ = nI o := hB.row h0 (by decide) q1
      have e0 := hB.2.2.2.2.2.2.1
      have hmv : fR_move (cM b u N) (36, 0, 0) (nI ρ) = some (if 0 < l then (if σ < 400 then (nI (o + 1), cM b u (xsi (xsi N (36, 0, 0) 0 (nI (σ + 1))) (37, 0, 0) o (nI (l - 1)))) else (nI ρ, cM b u (xsi N (36, 0, 0) 1 (-6)))) else (nI (ρ + 1), cM b u N)) := by
        unfold fR_move
        rw [hC.r3, Option.bind_some, hC.tr (k := 0) (by decide), Option.bind_some, hC.ra (k := 0) (by decide) (by omega) e6, Option.bind_some, if_pos (by decide), hC.o5, Option.bind_some, R_close hC hσ e0 (by omega) (by omega) (by omega) e32 p1, Option.bind_some]
      have t41' : X.1 (76, 0, 0) (tp ρ) = nI 41 := by rw [htx]; exact t41
      have hW1 : XW (xsi X (78, 0, 0) rest.length (nI l)) := hW
      have gb : ∀ g, fM_goesBehind_0 (g + 1) (mM d s X) (some (44, 0, 0)) = (if nI l ≤ (0 : Int32) then fM_goesBehind_0 g (mM d s (xsi (xsi (xsi X (78, 0, 0) rest.length (nI l)) (44, 0, 0) 45 (nI rest.length)) (44, 0, 0) 44 (nI (tp ρ + 1)))) (some (44, 0, 0)) else (fM_goesStep (mM d s (xsi (xsi X (78, 0, 0) rest.length (nI l)) (44, 0, 0) 44 (nI (tp (o + 1))))) (44, 0, 0)).bind fun q22 => if q22.1 = 0 ∨ q22.1 = 1 then some (q22.1, q22.2) else none) := fun g => by
        have c44 : ∀ k v, (xsi X (78, 0, 0) rest.length v).1 (44, 0, 0) k = X.1 (44, 0, 0) k := fun k v => by rw [xsi_1, if_neg (fun e => absurd e.1 (by decide))]
        have c78 : (xsi X (78, 0, 0) rest.length (nI l)).1 (78, 0, 0) rest.length = nI l := by rw [xsi_1, if_pos ⟨rfl, rfl⟩]
        have c77 : (xsi X (78, 0, 0) rest.length (nI l)).1 (77, 0, 0) rest.length = nI (tp (o + 1)) := by rw [xsi_1, if_neg (fun e => absurd e.1 (by decide))]; exact p2
        have hW2 : XW (xsi (xsi X (78, 0, 0) rest.length (nI l)) (44, 0, 0) 45 (nI rest.length)) := hW
        have hW3 : XW (xsi (xsi X (78, 0, 0) rest.length (nI l)) (44, 0, 0) 44 (nI (tp (o + 1)))) := hW
        have eI : nI (rest.length + 1) - (1 : Int32) = nI rest.length := by rw [kl_1, pk_sub (by omega), Nat.add_sub_cancel]
        have eL : nI (l + 1) - (1 : Int32) = nI l := by rw [kl_1, pk_sub (by omega), Nat.add_sub_cancel]
        rw [show fM_goesBehind_0 (g + 1) (mM d s X) (some (44, 0, 0)) = _ from by unfold fM_goesBehind_0; rfl]
        rw [ngI hW (by decide), Option.bind_some, ngI hW (by decide), Option.bind_some, h44, e43, if_neg (show ¬ nI L ≤ nI (tp ρ) from by rw [nI_leI (by omega) (by omega)]; omega), nR_39 hW, Option.bind_some, Option.bind_some, nA_76 hW (by omega) t41', Option.bind_some, if_pos (show nI 41 = (41 : Int32) from rfl), nR_41 hW, Option.bind_some, ngI hW (by decide), Option.bind_some, h45, eI, nA_78 hW hi5, Option.bind_some, p3, eL, nU_78 hW hi5, Option.bind_some, nR_41 hW1, Option.bind_some, ngI hW1 (by decide), Option.bind_some, c44, h45, eI, nA_78 hW1 hi5, Option.bind_some, c78]
        by_cases hz : nI l ≤ (0 : Int32)
        · have e44 : (xsi (xsi X (78, 0, 0) rest.length (nI l)) (44, 0, 0) 45 (nI rest.length)).1 (44, 0, 0) 44 = nI (tp ρ) := by rw [xsi_1, if_neg (by decide), c44]; exact h44
          rw [if_pos hz, if_pos hz, Option.bind_some, eI, npI hW1 (by decide), Option.bind_some, ngI hW2 (by decide), Option.bind_some, e44, nI_k1, npI hW2 (by decide), Option.bind_some]
        · rw [if_neg hz, if_neg hz, nR_40 hW1, Option.bind_some, Option.bind_some, eI, nA_77 hW1 hi5, Option.bind_some, c77, npI hW1 (by decide), Option.bind_some, nob hW3, Option.bind_some]
      by_cases hl0 : 0 < l
      · rw [if_pos hl0] at hmv
        have hgb : ∀ g, fM_goesBehind_0 (g + 1) (mM d s X) (some (44, 0, 0)) = _ := fun g => (gb g).trans (if_neg (show ¬ nI l ≤ (0 : Int32) from by rw [kl_0, nI_leI (by omega) (by decide)]; omega))
        have hW3 : XW (xsi (xsi X (78, 0, 0) rest.length (nI l)) (44, 0, 0) 44 (nI (tp (o + 1)))) := hW
        have e47 : (xsi (xsi X (78, 0, 0) rest.length (nI l)) (44, 0, 0) 44 (nI (tp (o + 1)))).1 (44, 0, 0) 47 = nI σ := by
          rw [xsi_1, if_neg (by decide), xsi_1, if_neg (fun e => absurd e.1 (by decide))]; exact hB.2.2.2.2.2.2.2.1
        have hB1 : BS κn N0 X0 s u N (xsi (xsi X (78, 0, 0) rest.length (nI l)) (44, 0, 0) 44 (nI (tp (o + 1)))) nm σ 0 := (hB.at (Or.inr (Or.inr rfl))).at (Or.inl ⟨rfl, by omega⟩)
        obtain ⟨yo, hyo, hRWo, hnexto⟩ := hP.row (r := o) (by omega)
        rw [hcut.2, if_pos rfl] at hnexto
        by_cases hσ4 : σ < 400
        · rw [if_pos hσ4] at hmv
          refine Or.inl ⟨1, xsi (xsi N (36, 0, 0) 0 (nI (σ + 1))) (37, 0, 0) o (nI (l - 1)), xsi (xsi (xsi X (78, 0, 0) rest.length (nI l)) (44, 0, 0) 44 (nI (tp (o + 1)))) (44, 0, 0) 47 (nI (σ + 1)), nm, σ + 1, o + 1, by omega, by omega, hnexto.1, hnexto.2.2, ⟨(hB1.step hκ hσ4).pass hκ, ?_, ?_, ?_⟩, fun f c hc' => ?_, fun g hg => ?_⟩
          · rw [xsi_1, if_neg (by decide), xsi_1, if_pos ⟨rfl, rfl⟩]
          · have : stk (opB j N0) (clB j N0) (o + 1) = o :: stk (opB j N0) (clB j N0) o := by
              show (if opB j N0 o = true then _ else _) = _
              rw [if_pos hcut.2]
            rw [this, List.length_cons, ← hcut.1, xsi_1, if_neg (by decide), xsi_1, if_neg (by decide), xsi_1, if_neg (fun e => absurd e.1 (by decide))]
            exact h45
          · have : stk (opB j N0) (clB j N0) (o + 1) = o :: rest := by
              show (if opB j N0 o = true then _ else _) = _
              rw [if_pos hcut.2, hcut.1]
            rw [this]
            refine ⟨⟨l - 1, by omega, by rw [xsi_1, if_pos ⟨rfl, rfl⟩], ?_, ?_⟩, hSTr.to (fun o' ho' => ?_) (fun i hi => ⟨?_, ?_⟩)⟩
            · rw [xsi_1, if_neg (fun e => absurd e.1 (by decide)), xsi_1, if_neg (fun e => absurd e.1 (by decide)), xsi_1, if_neg (fun e => absurd e.1 (by decide))]; exact p2
            · rw [xsi_1, if_neg (fun e => absurd e.1 (by decide)), xsi_1, if_neg (fun e => absurd e.1 (by decide)), xsi_1, if_pos ⟨rfl, rfl⟩, show l - 1 + 1 = l from by omega]
            · have ho2 : o' < o := stk_lt (op := opB j N0) (cl := clB j N0) (by rw [← hcut.1]; exact ho')
              rw [xsi_1, if_neg (fun e => by omega), xsi_1, if_neg (fun e => absurd e.1 (by decide))]
            · rw [xsi_1, if_neg (fun e => absurd e.1 (by decide)), xsi_1, if_neg (fun e => absurd e.1 (by decide)), xsi_1, if_neg (fun e => absurd e.1 (by decide))]
            · rw [xsi_1, if_neg (fun e => absurd e.1 (by decide)), xsi_1, if_neg (fun e => absurd e.1 (by decide)), xsi_1, if_neg (fun e => by omega)]
          · rw [GT_step hB h0 h6 hR hρ (by omega), hmv, Option.bind_some]
          · obtain ⟨g, rfl⟩ : ∃ m, g = m + 1 := ⟨g - 1, by omega⟩
            rw [hgb, S_step hW3 hσ e47, if_pos hσ4, Option.bind_some]
            rfl
        · rw [if_neg hσ4] at hmv
          refine Or.inr ⟨xsi N (36, 0, 0) 1 (-6), xsi (xsi (xsi X (78, 0, 0) rest.length (nI l)) (44, 0, 0) 44 (nI (tp (o + 1)))) (44, 0, 0) 48 (-6), nm, σ, -6, hB1.why hκ hB1.2.2.1 hB1.2.2.2.1 hB1.2.2.2.2.1, fun f c hf hc' => ?_, fun g hg => ?_⟩
          · obtain ⟨f, rfl⟩ : ∃ m, f = m + 2 := ⟨f - 2, by omega⟩
            rw [GT_step hB h0 h6 hR hρ (by omega), hmv, Option.bind_some]
            exact GT_why (hB1.why hκ hB1.2.2.1 hB1.2.2.2.1 hB1.2.2.2.2.1) h0 (by decide)
          · obtain ⟨g, rfl⟩ : ∃ m, g = m + 1 := ⟨g - 1, by omega⟩
            rw [hgb, S_step hW3 hσ e47, if_neg hσ4, Option.bind_some]
            rfl
      · have hl1 : l = 0 := by omega
        subst hl1
        rw [if_neg hl0] at hmv
        have hgb : ∀ g, fM_goesBehind_0 (g + 1) (mM d s X) (some (44, 0, 0)) = _ := fun g => (gb g).trans (if_pos (by decide))
        have hs1 : stk (opB j N0) (clB j N0) (ρ + 1) = rest := by
          show (if opB j N0 ρ = true then _ else if clB j N0 ρ = true then (stk (opB j N0) (clB j N0) ρ).tail else _) = _
          rw [hno, if_neg (by decide), if_pos hc, hs]
          rfl
        have hS1 : SP j κn N0 X0 tp s u N (xsi (xsi (xsi X (78, 0, 0) rest.length (nI 0)) (44, 0, 0) 45 (nI rest.length)) (44, 0, 0) 44 (nI (tp ρ + 1))) nm σ (ρ + 1) (tp ρ + 1) := by
          refine ⟨((hB.at (Or.inr (Or.inr rfl))).at (Or.inl ⟨rfl, by omega⟩)).at (Or.inl ⟨rfl, by omega⟩), by rw [xsi_1, if_pos ⟨rfl, rfl⟩], by rw [hs1, xsi_1, if_neg (by decide), xsi_1, if_pos ⟨rfl, rfl⟩], ?_⟩
          rw [hs1]
          exact hSTr.to (fun _ _ => rfl) (fun i hi => ⟨by rw [xsi_1, if_neg (fun e => absurd e.1 (by decide)), xsi_1, if_neg (fun e => absurd e.1 (by decide)), xsi_1, if_neg (fun e => absurd e.1 (by decide))], by rw [xsi_1, if_neg (fun e => absurd e.1 (by decide)), xsi_1, if_neg (fun e => absurd e.1 (by decide)), xsi_1, if_neg (fun e => by omega)]⟩)
        have hi := ih (ρ + 1) (tp ρ + 1) σ N _ nm (by rw [hs1]; omega) (by omega) hS1 (PG.next hρ hnext)
        rcases hi with ⟨m', N', X', nm', σ', ρ', g1, g2, g3, g4, g5, g6, g7⟩ | ⟨N', X', nm', σ', w', g1, g2, g3⟩
        · refine Or.inl ⟨m' + 1, N', X', nm', σ', ρ', by omega, g2, g3, g4, g5, fun f c hc' => ?_, fun g hg => ?_⟩
          · rw [← Nat.add_assoc, GT_step hB h0 h6 hR hρ (by omega), hmv, Option.bind_some, show c + (m' + 1) = c + 1 + m' from by omega]
            exact g6 f (c + 1) (by omega)
          · obtain ⟨g, rfl⟩ : ∃ m, g = m + 1 := ⟨g - 1, by omega⟩
            rw [hgb]
            exact g7 g (by omega)
        · refine Or.inr ⟨N', X', nm', σ', w', g1, fun f c hf hc' => ?_, fun g hg => ?_⟩
          · obtain ⟨f, rfl⟩ : ∃ m, f = m + 1 := ⟨f - 1, by omega⟩
            rw [GT_step hB h0 h6 hR hρ (by omega), hmv, Option.bind_some]
            exact g2 f (c + 1) (by omega) (by omega)
          · obtain ⟨g, rfl⟩ : ∃ m, g = m + 1 := ⟨g - 1, by omega⟩
            rw [hgb]
            exact g3 g (by omega)
    · exact BEHIND0 h0 hWX hP h6 h43 hS (Or.inr hA)
