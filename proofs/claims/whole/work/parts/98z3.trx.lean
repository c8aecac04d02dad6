/-! trace -/
theorem NumD_tx {τ τ' : Nat → Int32} {n : Nat} : ∀ {e x a : Nat}, NumD τ e x n a → (∀ i, x ≤ i → i < x + e → τ' i = τ i) → NumD τ' e x n a := by
  intro e
  induction e with
  | zero => intro x a h _; exact h
  | succ e ih =>
    intro x a h hx
    obtain ⟨k, hk, ht, hN⟩ := h
    exact ⟨k, hk, by rw [hx x (Nat.le_refl _) (by omega)]; exact ht, ih hN (fun i h1 h2 => hx i (by omega) (by omega))⟩
theorem RW_tx {j r x y : Nat} {N : xMem} {τ τ' : Nat → Int32} (h : RW j N τ r x y) (hx : ∀ i, x ≤ i → i < y → τ' i = τ i) : RW j N τ' r x y := by
  rcases h with ⟨v, c, p, hv, hc, hp, ha, r1, r2, r3, t0, t1, t2, t3, t4, rfl⟩ | ⟨v, p, hv, hp, ha, r1, r3, t0, t1, t2, t3, rfl⟩ | ⟨v, n, e, hv, he, ha, r1, r4, t0, t1, hN, rfl⟩ | ⟨ha, t0, rfl⟩ | ⟨n, e, he, ha, r4, hN, t0, rfl⟩ | ⟨c, hc, ha, r2, t0, t1, t2, rfl⟩ | ⟨ha, t0, rfl⟩
  · exact Or.inl ⟨v, c, p, hv, hc, hp, ha, r1, r2, r3, by rw [hx _ (by omega) (by omega)]; exact t0, by rw [hx _ (by omega) (by omega)]; exact t1, by rw [hx _ (by omega) (by omega)]; exact t2, by rw [hx _ (by omega) (by omega)]; exact t3, by rw [hx _ (by omega) (by omega)]; exact t4, rfl⟩
  · exact Or.inr (Or.inl ⟨v, p, hv, hp, ha, r1, r3, by rw [hx _ (by omega) (by omega)]; exact t0, by rw [hx _ (by omega) (by omega)]; exact t1, by rw [hx _ (by omega) (by omega)]; exact t2, by rw [hx _ (by omega) (by omega)]; exact t3, rfl⟩)
  · exact Or.inr (Or.inr (Or.inl ⟨v, n, e, hv, he, ha, r1, r4, by rw [hx _ (by omega) (by omega)]; exact t0, by rw [hx _ (by omega) (by omega)]; exact t1, NumD_tx hN (fun i h1 h2 => hx i (by omega) (by omega)), rfl⟩))
  · exact Or.inr (Or.inr (Or.inr (Or.inl ⟨ha, by rw [hx _ (by omega) (by omega)]; exact t0, rfl⟩)))
  · exact Or.inr (Or.inr (Or.inr (Or.inr (Or.inl ⟨n, e, he, ha, r4, NumD_tx hN (fun i h1 h2 => hx i (by omega) (by omega)), by rw [hx _ (by omega) (by omega)]; exact t0, rfl⟩))))
  · exact Or.inr (Or.inr (Or.inr (Or.inr (Or.inr (Or.inl ⟨c, hc, ha, r2, by rw [hx _ (by omega) (by omega)]; exact t0, by rw [hx _ (by omega) (by omega)]; exact t1, by rw [hx _ (by omega) (by omega)]; exact t2, rfl⟩)))))
  · exact Or.inr (Or.inr (Or.inr (Or.inr (Or.inr (Or.inr ⟨ha, by rw [hx _ (by omega) (by omega)]; exact t0, rfl⟩)))))
theorem RW_lt {j r x y : Nat} {N : xMem} {τ : Nat → Int32} (h : RW j N τ r x y) : x < y := by
  rcases h with ⟨v, c, p, hv, hc, hp, ha, r1, r2, r3, t0, t1, t2, t3, t4, rfl⟩ | ⟨v, p, hv, hp, ha, r1, r3, t0, t1, t2, t3, rfl⟩ | ⟨v, n, e, hv, he, ha, r1, r4, t0, t1, hN, rfl⟩ | ⟨ha, t0, rfl⟩ | ⟨n, e, he, ha, r4, hN, t0, rfl⟩ | ⟨c, hc, ha, r2, t0, t1, t2, rfl⟩ | ⟨ha, t0, rfl⟩ <;> omega
theorem PG.tx {j L R : Nat} {N : xMem} {τ τ' : Nat → Int32} {tp : Nat → Nat} (h : PG j N τ L R tp) (hx : ∀ i, i < L → τ' i = τ i) : PG j N τ' L R tp := by
  refine ⟨h.1, h.2.1, h.2.2.1, h.2.2.2.1, fun r hr => ?_, h.2.2.2.2.2⟩
  obtain ⟨y, y1, y2, y3⟩ := h.2.2.2.2.1 r hr
  refine ⟨y, y1, RW_tx y2 (fun i _ hi => hx i (by omega)), ?_⟩
  by_cases ho : opB j N r = true
  · rw [if_pos ho] at y3 ⊢; exact y3
  · rw [if_neg ho] at y3 ⊢
    by_cases hl : r + 1 = R
    · rw [if_pos hl] at y3 ⊢; exact y3
    · rw [if_neg hl] at y3 ⊢
      by_cases hc : clB j N (r + 1) = true
      · rw [if_pos hc] at y3 ⊢; exact y3
      · rw [if_neg hc] at y3 ⊢
        obtain ⟨z, z1, z2, -⟩ := h.2.2.2.2.1 (r + 1) (by omega)
        have := RW_lt z2
        exact ⟨by rw [hx y (by omega)]; exact y3.1, y3.2⟩
def TFr (js : Nat) (M M' : xMem) : Prop := (∀ a x, ¬ (26 ≤ a.1 ∧ a.1 ≤ 34 ∧ a.2.2 = js) → ¬ (a = (0, 0, 0) ∧ (x = 6 ∨ x = 9)) → M'.1 a x = M.1 a x) ∧ M'.2.1 = M.2.1 ∧ XW M' ∧ (∀ a x, a.1 = 0 → x ≠ 7 → x ≠ 8 → M'.2.2.1 a x = M.2.2.1 a x) ∧ M'.2.2.2 = M.2.2.2
def TFm (X X' : xMem) : Prop := (∀ a x, ¬ (a = (44, 0, 0) ∧ (42 ≤ x ∧ x ≤ 46)) → a ≠ (76, 0, 0) → X'.1 a x = X.1 a x) ∧ X'.2 = X.2
theorem M_trcopy {X : xMem} {L : Nat} (hW : XW X) (hL : L ≤ 100) : ∃ X', fM_trace_29 xF X (some (44, 0, 0)) (nI L) (nI 0) = some (1, X') ∧ (∀ i, i < L → X'.1 (76, 0, 0) i = X.1 (75, 0, 0) i) ∧ X'.1 (44, 0, 0) 43 = nI L ∧ X'.1 (44, 0, 0) 46 = 1 ∧ (∀ a x, ¬ (a = (44, 0, 0) ∧ (x = 43 ∨ x = 46)) → a ≠ (76, 0, 0) → X'.1 a x = X.1 a x) ∧ X'.2 = X.2 := by
  have key : ∀ e i f (Y : xMem), XW Y → i + e = L → e < f → (∀ q, q < i → Y.1 (76, 0, 0) q = X.1 (75, 0, 0) q) → (∀ a x, a ≠ (76, 0, 0) → Y.1 a x = X.1 a x) → Y.2 = X.2 → ∃ X', fM_trace_29 f Y (some (44, 0, 0)) (nI L) (nI i) = some (1, X') ∧ (∀ i, i < L → X'.1 (76, 0, 0) i = X.1 (75, 0, 0) i) ∧ X'.1 (44, 0, 0) 43 = nI L ∧ X'.1 (44, 0, 0) 46 = 1 ∧ (∀ a x, ¬ (a = (44, 0, 0) ∧ (x = 43 ∨ x = 46)) → a ≠ (76, 0, 0) → X'.1 a x = X.1 a x) ∧ X'.2 = X.2 := by
    intro e
    induction e with
    | zero =>
      intro i f Y hY hi hf h1 h2 h3
      obtain ⟨f, rfl⟩ : ∃ q, f = q + 1 := ⟨f - 1, by omega⟩
      have hi : i = L := by omega
      subst hi
      have hY2 : XW (xsi Y (44, 0, 0) 43 (nI i)) := hY
      refine ⟨xsi (xsi Y (44, 0, 0) 43 (nI i)) (44, 0, 0) 46 1, ?_, fun q hq => ?_, ?_, ?_, fun a x e1 e2 => ?_, h3⟩
      · unfold fM_trace_29
        rw [if_pos (nI_le (Nat.le_refl _) (by omega)), xpI_w hY sh_44, Option.bind_some, xpZ_w hY2 sh_44 (Or.inr rfl), Option.bind_some]
      · rw [xsi_1, if_neg (fun e => absurd e.1 (by decide)), xsi_1, if_neg (fun e => absurd e.1 (by decide))]; exact h1 q hq
      · rw [xsi_1, if_neg (by decide), xsi_1, if_pos ⟨rfl, rfl⟩]
      · rw [xsi_1, if_pos ⟨rfl, rfl⟩]
      · rw [xsi_1, if_neg (fun e => e1 ⟨e.1, Or.inr e.2⟩), xsi_1, if_neg (fun e => e1 ⟨e.1, Or.inl e.2⟩)]; exact h2 a x e2
    | succ e ih =>
      intro i f Y hY hi hf h1 h2 h3
      obtain ⟨f, rfl⟩ : ∃ q, f = q + 1 := ⟨f - 1, by omega⟩
      have hY2 : XW (xsi Y (76, 0, 0) i (Y.1 (75, 0, 0) i)) := hY
      obtain ⟨X', g⟩ := ih (i + 1) f (xsi Y (76, 0, 0) i (Y.1 (75, 0, 0) i)) hY2 (by omega) (by omega) (fun q hq => by
        rw [xsi_1]
        by_cases hqi : q = i
        · rw [if_pos ⟨rfl, hqi⟩, hqi]; exact h2 _ _ (by decide)
        · rw [if_neg (fun e => hqi e.2)]; exact h1 q (by omega)) (fun a x ha => by rw [xsi_1, if_neg (fun e => ha e.1)]; exact h2 a x ha) h3
      refine ⟨X', ?_, g.2⟩
      unfold fM_trace_29
      rw [if_neg (show ¬ nI L ≤ nI i from by rw [nI_leI (by omega) (by omega)]; omega), show xgR Y (some (44, 0, 0)) 8 39 = some (some (76, 0, 0)) from (xgR_w hY sh_44 (by decide) (by decide) rfl).trans rfl, Option.bind_some, show xgR Y (some (44, 0, 0)) 8 38 = some (some (75, 0, 0)) from (xgR_w hY sh_44 (by decide) (by decide) rfl).trans rfl, Option.bind_some, xaI_w hY sh_75 (by omega) (by decide), Option.bind_some, xuI_w hY sh_76 (by omega) (by decide), Option.bind_some, nI_k1]
      exact g.1
  exact key L 0 xF X hW (by omega) (by unfold xF; omega) (fun q hq => absurd hq (Nat.not_lt_zero _)) (fun _ _ _ => rfl) rfl
theorem TRACE {j ta : Nat} {M X : xMem} (hW : XW M) (hWX : XW X) (hj : j < 2) (h7 : M.2.2.1 (0, 0, 0) 7 = some (26, 0, j)) (h8 : M.2.2.1 (0, 0, 0) 8 = some (26, 0, 1 - j)) (hT : RT ta M X) :
    ∃ v M' X', fX_trace M (0, 0, 0) = some (v, M') ∧ fM_trace X (44, 0, 0) = some (v, X') ∧ TFr (1 - j) M M' ∧ TFm X X' ∧ M'.1 (0, 0, 0) 6 = nI 0 ∧ X'.1 (44, 0, 0) 42 = nI 0
      ∧ ((M'.2.2.1 (0, 0, 0) 7 = some (26, 0, j) ∧ M'.2.2.1 (0, 0, 0) 8 = some (26, 0, 1 - j) ∧ M'.1 (0, 0, 0) 9 = M.1 (0, 0, 0) 9 ∧ X'.1 (44, 0, 0) 46 = X.1 (44, 0, 0) 46 ∧ X'.1 (44, 0, 0) 43 = X.1 (44, 0, 0) 43 ∧ X'.1 (76, 0, 0) = X.1 (76, 0, 0))
        ∨ (M'.2.2.1 (0, 0, 0) 7 = some (26, 0, 1 - j) ∧ M'.2.2.1 (0, 0, 0) 8 = some (26, 0, j) ∧ M'.1 (0, 0, 0) 9 = 1 ∧ X'.1 (44, 0, 0) 46 = 1 ∧ ∃ L R tp, PG (1 - j) M' (X'.1 (76, 0, 0)) L R tp ∧ M'.1 (26, 0, 1 - j) 6 = nI R ∧ X'.1 (44, 0, 0) 43 = nI L)) := by
  obtain ⟨t6, t42, hta, hcell⟩ := hT
  have hjs : 1 - j < 2 := by omega
  generalize hjj : 1 - j = js at h8 hjs ⊢
  have hne : js ≠ j := by omega
  -- the class's beginning
  have w1 : XW (xsr M (26, 0, js) 8 (some (25, 0, 0))) := XW_sr hW rfl
  let M1 := xsi (xsi (xsi (xsi (xsr M (26, 0, js) 8 (some (25, 0, 0))) (26, 0, js) 9 (nI ta)) (26, 0, js) 10 0) (26, 0, js) 6 0) (33, 0, js) 1 0
  have w2 : XW (xsi (xsr M (26, 0, js) 8 (some (25, 0, 0))) (26, 0, js) 9 (nI ta)) := w1
  have w3 : XW (xsi (xsi (xsr M (26, 0, js) 8 (some (25, 0, 0))) (26, 0, js) 9 (nI ta)) (26, 0, js) 10 0) := w1
  have w4 : XW (xsi (xsi (xsi (xsr M (26, 0, js) 8 (some (25, 0, 0))) (26, 0, js) 9 (nI ta)) (26, 0, js) 10 0) (26, 0, js) 6 0) := w1
  have wM1 : XW M1 := w1
  have hbeg : fT_read M (26, 0, js) (some (25, 0, 0)) (nI ta) = fT_read_34 xF M1 (some (26, 0, js)) (nI 0) := by
    unfold fT_read fP_clear
    rw [xpR_w hW (sh_26 hjs), Option.bind_some, xal_w w1 sh_25 (by decide) (by decide), Option.bind_some, if_neg (show ¬ nI 100 < nI ta from by rw [nI_ltI (by decide) (by omega)]; omega), xpI_w w1 (sh_26 hjs), Option.bind_some, xpI_w w2 (sh_26 hjs), Option.bind_some, xpI_w w3 (sh_26 hjs), Option.bind_some, show xgR (xsi (xsi (xsi (xsr M (26, 0, js) 8 (some (25, 0, 0))) (26, 0, js) 9 (nI ta)) (26, 0, js) 10 0) (26, 0, js) 6 0) (some (26, 0, js)) 6 7 = some (some (33, 0, js)) from (xgR_w w4 (sh_26 hjs) (by decide) (by decide) rfl).trans rfl, Option.bind_some, xob_w w4 (sh_33 hjs), Option.bind_some, xpI_w w4 (sh_33 hjs), Option.bind_some, Option.bind_some, kl_0]
    rfl
  have c26 : ∀ k v, M1.1 (26, 0, js) k = v ↔ (if k = 6 then nI 0 else if k = 10 then nI 0 else if k = 9 then nI ta else M.1 (26, 0, js) k) = v := fun k v => by
    show (xsi _ (33, 0, js) 1 0).1 (26, 0, js) k = v ↔ _
    rw [xsi_1, if_neg (fun e => absurd (Prod.mk.inj e.1).1 (by decide)), xsi_1]
    by_cases k6 : k = 6
    · rw [if_pos ⟨rfl, k6⟩, if_pos k6]; rfl
    · rw [if_neg (fun e => k6 e.2), if_neg k6, xsi_1]
      by_cases k10 : k = 10
      · rw [if_pos ⟨rfl, k10⟩, if_pos k10]; rfl
      · rw [if_neg (fun e => k10 e.2), if_neg k10, xsi_1]
        by_cases k9 : k = 9
        · rw [if_pos ⟨rfl, k9⟩, if_pos k9]
        · rw [if_neg (fun e => k9 e.2), if_neg k9]; rfl
  have f1 : ∀ a x, ¬ (26 ≤ a.1 ∧ a.1 ≤ 34 ∧ a.2.2 = js) → M1.1 a x = M.1 a x := fun a x e => by
    have ne : ∀ κ : Nat, 26 ≤ κ → κ ≤ 34 → ∀ k, ¬ (a = (κ, 0, js) ∧ x = k) := fun κ h1 h2 k e2 => e (by rw [e2.1]; exact ⟨h1, h2, rfl⟩)
    show (xsi _ (33, 0, js) 1 0).1 a x = _
    rw [xsi_1, if_neg (ne 33 (by decide) (by decide) _), xsi_1, if_neg (ne 26 (by decide) (by decide) _), xsi_1, if_neg (ne 26 (by decide) (by decide) _), xsi_1, if_neg (ne 26 (by decide) (by decide) _)]
    rfl
  have hTS : TS js ta 0 0 [] M1 := by
    refine ⟨wM1, hjs, hta, Nat.zero_le _, Nat.zero_le _, ?_, (c26 9 _).mpr rfl, (c26 10 _).mpr rfl, (c26 6 _).mpr rfl, ?_, trivial⟩
    · show (xsr M (26, 0, js) 8 (some (25, 0, 0))).2.2.1 (26, 0, js) 8 = _
      rw [xsr_3, if_pos ⟨rfl, rfl⟩]
    · show (xsi _ (33, 0, js) 1 0).1 (33, 0, js) 1 = _
      rw [xsi_1, if_pos ⟨rfl, rfl⟩]; rfl
  -- the model's beginning
  have hW2 : XW (xsi X (44, 0, 0) 44 0) := hWX
  let X1 := xsi (xsi X (44, 0, 0) 44 0) (44, 0, 0) 45 0
  have wX1 : XW X1 := hWX
  have hmb : fM_readsTrace X (44, 0, 0) = fM_readsTrace_12 xF X1 (some (44, 0, 0)) 1 := by
    unfold fM_readsTrace
    rw [xpI_w hWX sh_44, Option.bind_some, xpI_w hW2 sh_44, Option.bind_some]
  have fx1 : FrM X X1 := (FrM.rfl'.w (Or.inl rfl)).w (Or.inr rfl)
  have hMT : MT ta 0 0 X1 := ⟨wX1, by rw [fx1.1 _ _ (fun e => by omega)]; exact t42, by show (xsi _ (44, 0, 0) 45 0).1 (44, 0, 0) 44 = _; rw [xsi_1, if_neg (by decide), xsi_1, if_pos ⟨rfl, rfl⟩]; rfl, by show (xsi _ (44, 0, 0) 45 0).1 (44, 0, 0) 45 = _; rw [xsi_1, if_pos ⟨rfl, rfl⟩]; rfl⟩
  have hτ : ∀ q, sgm ta X1 q = sg ta M1 q := fun q => by
    unfold sgm sg
    by_cases hq : q < ta
    · rw [if_pos hq, if_pos hq, fx1.1 _ _ (fun e => absurd e.1 (by decide)), f1 _ _ (fun e => absurd e.1 (by decide))]
      exact (hcell q (by omega)).symm
    · rw [if_neg hq, if_neg hq]
  have hP0 : PGs js M1 (M1.1 (25, 0, 0)) ta 0 (fun _ => 0) [] 0 true := ⟨Nat.le_refl _, Nat.zero_le _, fun e => absurd e (Nat.lt_irrefl _), fun _ => ⟨rfl, rfl⟩, fun r hr => absurd hr (Nat.not_lt_zero _), fun z hz => absurd hz (Nat.not_lt_zero _), rfl, fun r hr => by
    have : r = 0 := by omega
    subst this; exact Nat.zero_le _⟩
  have hO := READ (j := js) (L := ta) ta 0 0 (fun _ => 0) [] M1 X1 0 xF xF (by omega) hTS hMT hτ rfl hP0 (Nat.le_refl _) (by unfold xF; omega) (by unfold xF; omega)
  have hX : fX_trace M (0, 0, 0) = (fT_read_34 xF M1 (some (26, 0, js)) (nI 0)).bind fun q5 => (xpI q5.2 (some (0, 0, 0)) 7 6 (0 : Int32)).bind fun M6 => if q5.1 = (-1 : Int32) then (xgR M6 (some (0, 0, 0)) 7 8).bind fun v7 => (xgR M6 (some (0, 0, 0)) 7 7).bind fun v8 => (xpR M6 (some (0, 0, 0)) 7 8 v8).bind fun M9 => (xpR M9 (some (0, 0, 0)) 7 7 v7).bind fun M10 => (xpZ M10 (some (0, 0, 0)) 7 9 (1 : Int32)).bind fun M11 => some ((1 : Int32), M11) else some (((-100 : Int32) - q5.1), M6) := by
    unfold fX_trace
    rw [xgR_v hW sh_0, Option.bind_some, h8, show xgR M (some (0, 0, 0)) 7 5 = some (some (25, 0, 0)) from (xgR_w hW sh_0 (by decide) (by decide) rfl).trans rfl, Option.bind_some, xgI_w hW sh_0, Option.bind_some, t6, xob_w hW (sh_26 hjs), Option.bind_some, hbeg]
  have hMm : fM_trace X (44, 0, 0) = (fM_readsTrace_12 xF X1 (some (44, 0, 0)) 1).bind fun q2 => (xgI q2.2 (some (44, 0, 0)) 8 42).bind fun v3 => (xpI q2.2 (some (44, 0, 0)) 8 42 (0 : Int32)).bind fun M4 => if q2.1 = 0 then (xgI M4 (some (44, 0, 0)) 8 44).bind fun v5 => some (((-100 : Int32) - v5), M4) else fM_trace_29 xF M4 (some (44, 0, 0)) v3 (0 : Int32) := by
    unfold fM_trace
    rw [xob_w hWX sh_44, Option.bind_some, hmb]
  have g7 : M1.2.2.1 (0, 0, 0) 7 = some (26, 0, j) := by
    show (xsr M (26, 0, js) 8 (some (25, 0, 0))).2.2.1 (0, 0, 0) 7 = _
    rw [xsr_3, if_neg (fun e => absurd (Prod.mk.inj e.1).1 (by decide))]; exact h7
  have g8 : M1.2.2.1 (0, 0, 0) 8 = some (26, 0, js) := by
    show (xsr M (26, 0, js) 8 (some (25, 0, 0))).2.2.1 (0, 0, 0) 8 = _
    rw [xsr_3, if_neg (fun e => absurd (Prod.mk.inj e.1).1 (by decide))]; exact h8
  have m1L : M1.2.1 = M.2.1 := rfl
  have m1C : M1.2.2.2 = M.2.2.2 := rfl
  have m1R : ∀ a x, a.1 = 0 → M1.2.2.1 a x = M.2.2.1 a x := fun a x e => by
    show (xsr M (26, 0, js) 8 (some (25, 0, 0))).2.2.1 a x = _
    rw [xsr_3, if_neg (fun e2 => by
      rw [e2.1] at e
      exact absurd (show (26 : Nat) = 0 from e) (by decide))]
  clear_value M1 X1
  rcases hO with ⟨M2, X2, R, tp, a1, a2, a3, a4, a5, a6⟩ | ⟨q, M2, X2, a1, a2, a3, a4, a5, a6⟩
  · have wM2 : XW M2 := by unfold XW at wM1 ⊢; rw [a5.2]; exact wM1
    have wX2 : XW X2 := by unfold XW at wX1 ⊢; rw [a6.2]; exact wX1
    have r7 : M2.2.2.1 (0, 0, 0) 7 = some (26, 0, j) := by rw [a5.2]; exact g7
    have r8 : M2.2.2.1 (0, 0, 0) 8 = some (26, 0, js) := by rw [a5.2]; exact g8
    have wa : XW (xsi M2 (0, 0, 0) 6 0) := wM2
    have wb : XW (xsr (xsi M2 (0, 0, 0) 6 0) (0, 0, 0) 8 (some (26, 0, j))) := XW_sr wa rfl
    have wc : XW (xsr (xsr (xsi M2 (0, 0, 0) 6 0) (0, 0, 0) 8 (some (26, 0, j))) (0, 0, 0) 7 (some (26, 0, js))) := XW_sr wb rfl
    have wX3 : XW (xsi X2 (44, 0, 0) 42 0) := wX2
    obtain ⟨X3, b1, b2, b3, b4, b5, b6⟩ := M_trcopy (X := xsi X2 (44, 0, 0) 42 0) (L := ta) wX3 hta
    have x42 : X2.1 (44, 0, 0) 42 = nI ta := by rw [a6.1 _ _ (fun e => by omega)]; exact hMT.2.1
    refine ⟨1, xsi (xsr (xsr (xsi M2 (0, 0, 0) 6 0) (0, 0, 0) 8 (some (26, 0, j))) (0, 0, 0) 7 (some (26, 0, js))) (0, 0, 0) 9 1, X3, ?_, ?_, ⟨fun a x e1 e2 => ?_, ?_, wc, fun a x e1 e2 e3 => ?_, ?_⟩, ⟨fun a x e1 e2 => ?_, ?_⟩, ?_, ?_, Or.inr ⟨?_, ?_, ?_, b4, ta, R, tp, ?_, ?_, b3⟩⟩
    · rw [hX, a1, Option.bind_some]
      dsimp only
      rw [xpI_w wM2 sh_0, Option.bind_some, if_pos rfl, xgR_v wa sh_0, Option.bind_some, xgR_v wa sh_0, Option.bind_some, show (xsi M2 (0, 0, 0) 6 0).2.2.1 (0, 0, 0) 8 = some (26, 0, js) from r8, show (xsi M2 (0, 0, 0) 6 0).2.2.1 (0, 0, 0) 7 = some (26, 0, j) from r7, xpR_w wa sh_0, Option.bind_some, xpR_w wb sh_0, Option.bind_some, xpZ_w wc sh_0 (Or.inr rfl), Option.bind_some]
    · rw [hMm, a2, Option.bind_some]
      dsimp only
      rw [xgI_w wX2 sh_44, Option.bind_some, xpI_w wX2 sh_44, Option.bind_some, if_neg (by decide), x42, kl_0]
      exact b1
    · rw [xsi_1, if_neg (fun e => e2 ⟨e.1, Or.inr e.2⟩)]
      show (xsi M2 (0, 0, 0) 6 0).1 a x = _
      rw [xsi_1, if_neg (fun e => e2 ⟨e.1, Or.inl e.2⟩), a5.1 a x e1, f1 a x e1]
    · show M2.2.1 = _
      rw [a5.2]; exact m1L
    · show (xsr (xsr (xsi M2 (0, 0, 0) 6 0) (0, 0, 0) 8 (some (26, 0, j))) (0, 0, 0) 7 (some (26, 0, js))).2.2.1 a x = _
      rw [xsr_3, if_neg (fun e => e2 e.2), xsr_3, if_neg (fun e => e3 e.2)]
      show M2.2.2.1 a x = _
      rw [a5.2]; exact m1R a x e1
    · show M2.2.2.2 = _
      rw [a5.2]; exact m1C
    · rw [b5 a x (fun e => e1 ⟨e.1, by omega⟩) e2, xsi_1, if_neg (fun e => e1 ⟨e.1, by omega⟩), a6.1 a x (fun e => e1 ⟨e.1, by omega⟩), fx1.1 a x (fun e => e1 ⟨e.1, by omega⟩)]
    · rw [b6]
      show X2.2 = _
      rw [a6.2, fx1.2]
    · rw [xsi_1, if_neg (by decide)]
      show (xsi M2 (0, 0, 0) 6 0).1 (0, 0, 0) 6 = _
      rw [xsi_1, if_pos ⟨rfl, rfl⟩]; rfl
    · rw [b5 _ _ (fun e => by omega) (by decide), xsi_1, if_pos ⟨rfl, rfl⟩]; rfl
    · show (xsr (xsr (xsi M2 (0, 0, 0) 6 0) (0, 0, 0) 8 (some (26, 0, j))) (0, 0, 0) 7 (some (26, 0, js))).2.2.1 (0, 0, 0) 7 = _
      rw [xsr_3, if_pos ⟨rfl, rfl⟩]
    · show (xsr (xsr (xsi M2 (0, 0, 0) 6 0) (0, 0, 0) 8 (some (26, 0, j))) (0, 0, 0) 7 (some (26, 0, js))).2.2.1 (0, 0, 0) 8 = _
      rw [xsr_3, if_neg (by decide), xsr_3, if_pos ⟨rfl, rfl⟩]
    · rw [xsi_1, if_pos ⟨rfl, rfl⟩]
    · refine (a3.tx (τ' := X3.1 (76, 0, 0)) (fun i hi => ?_)).to (fun k r k1 k2 => ?_) rfl
      · rw [b2 i hi, xsi_1, if_neg (fun e => absurd e.1 (by decide)), a6.1 _ _ (fun e => absurd e.1 (by decide)), fx1.1 _ _ (fun e => absurd e.1 (by decide)), f1 _ _ (fun e => absurd e.1 (by decide))]
        exact (hcell i (by omega)).symm
      · rw [xsi_1, if_neg (fun e => by have := (Prod.mk.inj e.1).1; omega)]
        show (xsi M2 (0, 0, 0) 6 0).1 (k, 0, js) r = _
        rw [xsi_1, if_neg (fun e => by have := (Prod.mk.inj e.1).1; omega)]
    · rw [xsi_1, if_neg (fun e => absurd (Prod.mk.inj e.1).1 (by decide))]
      show (xsi M2 (0, 0, 0) 6 0).1 (26, 0, js) 6 = _
      rw [xsi_1, if_neg (fun e => absurd (Prod.mk.inj e.1).1 (by decide))]; exact a4
  · have wM2 : XW M2 := by unfold XW at wM1 ⊢; rw [a4.2]; exact wM1
    have wX2 : XW X2 := by unfold XW at wX1 ⊢; rw [a5.2]; exact wX1
    refine ⟨-100 - nI q, xsi M2 (0, 0, 0) 6 0, xsi X2 (44, 0, 0) 42 0, ?_, ?_, ⟨fun a x e1 e2 => ?_, ?_, wM2, fun a x e1 e2 e3 => ?_, ?_⟩, ⟨fun a x e1 e2 => ?_, ?_⟩, ?_, ?_, Or.inl ⟨?_, ?_, ?_, ?_, ?_, ?_⟩⟩
    · rw [hX, a1, Option.bind_some]
      dsimp only
      rw [xpI_w wM2 sh_0, Option.bind_some, if_neg (show ¬ nI q = (-1 : Int32) from fun e => nI_pos (show q < 2 ^ 31 by omega) (e ▸ (by decide)))]
    · have wX3 : XW (xsi X2 (44, 0, 0) 42 0) := wX2
      rw [hMm, a2, Option.bind_some]
      dsimp only
      rw [xgI_w wX2 sh_44, Option.bind_some, xpI_w wX2 sh_44, Option.bind_some, if_pos rfl, xgI_w wX3 sh_44, Option.bind_some, xsi_1, if_neg (by decide), a3]
    · rw [xsi_1, if_neg (fun e => e2 ⟨e.1, Or.inl e.2⟩), a4.1 a x e1, f1 a x e1]
    · show M2.2.1 = _
      rw [a4.2]; exact m1L
    · show M2.2.2.1 a x = _
      rw [a4.2]; exact m1R a x e1
    · show M2.2.2.2 = _
      rw [a4.2]; exact m1C
    · rw [xsi_1, if_neg (fun e => e1 ⟨e.1, by omega⟩), a5.1 a x (fun e => e1 ⟨e.1, by omega⟩), fx1.1 a x (fun e => e1 ⟨e.1, by omega⟩)]
    · show X2.2 = _
      rw [a5.2, fx1.2]
    · rw [xsi_1, if_pos ⟨rfl, rfl⟩]; rfl
    · rw [xsi_1, if_pos ⟨rfl, rfl⟩]; rfl
    · show M2.2.2.1 _ _ = _
      rw [a4.2]; exact g7
    · show M2.2.2.1 _ _ = _
      rw [a4.2]; exact g8
    · rw [xsi_1, if_neg (by decide), a4.1 _ _ (fun e => absurd e.1 (by decide)), f1 _ _ (fun e => absurd e.1 (by decide))]
    · rw [xsi_1, if_neg (by decide), a5.1 _ _ (fun e => by omega), fx1.1 _ _ (fun e => by omega)]
    · rw [xsi_1, if_neg (by decide), a5.1 _ _ (fun e => by omega), fx1.1 _ _ (fun e => by omega)]
    · funext x
      rw [xsi_1, if_neg (fun e => absurd e.1 (by decide)), a5.1 _ _ (fun e => absurd e.1 (by decide)), fx1.1 _ _ (fun e => absurd e.1 (by decide))]
