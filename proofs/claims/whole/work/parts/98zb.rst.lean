/-! trace, run, image, back -/
theorem LK_k : ∀ r, r ∈ LK → r.1 ≠ 44 ∧ r.1 ≠ 76 ∧ r.1 ≠ 72 := by decide
theorem LK_44 : ∀ r, r ∈ LK → 44 ≤ r.1 := by decide
theorem mM_loc {d : Int32} {s : xS} {X X' : xMem} (h : mM d s X = X) (h1 : ∀ r, r ∈ LK → ∀ x, x < r.2 → X'.1 (r.1, 0, 0) x = X.1 (r.1, 0, 0) x) (h2 : ∀ x, x = 13 ∨ x = 14 ∨ x = 15 → X'.1 (44, 0, 0) x = X.1 (44, 0, 0) x) (h3 : ∀ c, c < 4 → X'.2.1 (57, 0, 0) c = X.2.1 (57, 0, 0) c) : mM d s X' = X' := by
  refine mM_of (d := d) (X := X) (fun r hr x hx => ?_) ?_ ?_ ?_ (fun c hc => ?_)
  · rw [h]; exact h1 r hr x hx
  · rw [h]; exact h2 13 (by decide)
  · rw [h]; exact h2 14 (by decide)
  · rw [h2 15 (by decide), ← h]; rfl
  · rw [h]; exact h3 c hc
theorem K_trace : CALL (fun M => fX_trace M (0, 0, 0)) (fun X => fM_trace X (44, 0, 0)) := by
  rintro M X ⟨⟨d, s, t, b1, b2, b3, b4, b5, b6, b7, t1, b8⟩, a4, ⟨ta, hT⟩, a6, a7, ⟨j, hj, h7, h8, hf⟩, a9⟩
  obtain ⟨v, M', X', e1, e2, f1, f2, z1, z2, hh⟩ := TRACE b1 b2 hj h7 h8 hT
  have cy : ∀ κ b i x : Nat, ¬ (26 ≤ κ ∧ κ ≤ 34) → κ ≠ 0 → M'.1 (κ, b, i) x = M.1 (κ, b, i) x := fun κ b i x k1 k2 => f1.1 _ _ (fun e => k1 ⟨e.1, e.2.1⟩) (fun e => k2 (Prod.mk.inj e.1).1)
  have cy0 : ∀ x : Nat, x ≠ 6 → x ≠ 9 → M'.1 (0, 0, 0) x = M.1 (0, 0, 0) x := fun x k1 k2 => f1.1 _ _ (fun e => absurd e.1 (by decide)) (fun e => by have := e.2; omega)
  have cx : ∀ κ b i x : Nat, κ ≠ 44 → κ ≠ 76 → X'.1 (κ, b, i) x = X.1 (κ, b, i) x := fun κ b i x k1 k2 => f2.1 _ _ (fun e => k1 (Prod.mk.inj e.1).1) (fun e => k2 (Prod.mk.inj e).1)
  have cx0 : ∀ x : Nat, ¬ (42 ≤ x ∧ x ≤ 46) → X'.1 (44, 0, 0) x = X.1 (44, 0, 0) x := fun x k1 => f2.1 _ _ (fun e => k1 e.2) (by decide)
  have wX : XW X' := by unfold XW at b2 ⊢; rw [f2.2]; exact b2
  have hb : ∀ b u, HB b u M → HB b u M' := fun b u h => h.to (fun κ i k hk => by
    by_cases h0 : κ = 0
    · exact Or.inr (Or.inl h0)
    · exact Or.inl (cy _ _ _ _ (by omega) h0)) (fun _ _ _ _ => by rw [f1.2.1])
  have hg9 : G9 M' X' := a9.to (fun κ i k hk _ h0 => cy _ _ _ _ (by omega) h0) (fun κ i k hk => by rw [f1.2.1]) (cy0 _ (by decide) (by decide)) (cx0 _ (by decide)) (fun x hx => cx _ _ _ _ (by decide) (by decide)) (fun x hx => by rw [f2.2])
  have hg8 : G8 M' X' := by
    rcases hh with ⟨r1, r2, r3, r4, r5, r6⟩ | ⟨r1, r2, r3, r4, r5⟩
    · refine ⟨j, hj, r1, r2, ?_⟩
      rcases hf with ⟨c1, c2⟩ | ⟨c1, c2, c3⟩
      · exact Or.inl ⟨r3.trans c1, r4.trans c2⟩
      · exact Or.inr ⟨r3.trans c1, r4.trans c2, c3.to (fun k x k1 k2 => f1.1 _ _ (fun e => by have : j = 1 - j := e.2.2; omega) (fun e => by have := (Prod.mk.inj e.1).1; omega)) (fun x => by rw [r6]) r5⟩
    · exact ⟨1 - j, by omega, r1, by rw [r2, show 1 - (1 - j) = j by omega], Or.inr ⟨r3, r4, by
        obtain ⟨L, R, tp, p1, p2, p3⟩ := r5
        exact ⟨L, R, tp, p1, p2, p3⟩⟩⟩
  refine ⟨v, M', X', e1, e2, ⟨⟨d, s, t, f1.2.2.1, wX, mM_loc b3 (fun r hr x _ => cx _ _ _ _ (LK_k r hr).1 (LK_k r hr).2.1) (fun x hx => cx0 _ (by omega)) (fun c _ => by rw [f2.2]), b4, b5, b6, hb _ _ b7, t1, hb _ _ b8⟩,
    a4.to (fun x => cy _ _ _ _ (by decide) (by decide)) (fun x _ => cx _ _ _ _ (by decide) (by decide)),
    ⟨0, z1, z2, Nat.zero_le _, fun k hk => by rw [cy _ _ _ _ (by decide) (by decide), cx _ _ _ _ (by decide) (by decide)]; exact hT.2.2.2 k hk⟩,
    a6.to (fun i x => cy _ _ _ _ (by decide) (by decide)) (fun x => cy _ _ _ _ (by decide) (by decide)) (fun x => cx _ _ _ _ (by decide) (by decide)) (fun x => cx _ _ _ _ (by decide) (by decide)),
    a7.to (cy0 _ (by decide) (by decide)) (cx0 _ (by decide)), hg8, hg9⟩, ⟨fun a x h => ?_, fun a x _ => by rw [f1.2.1], f1.2.2.2.2⟩, ⟨fun a x h => ?_, fun a x _ => by rw [f2.2], by rw [f2.2]⟩⟩
  · obtain ⟨κ, b, i⟩ := a
    have h : 44 ≤ κ := h
    exact cy _ _ _ _ (by omega) (by omega)
  · obtain ⟨κ, b, i⟩ := a
    have h : κ < 44 := h
    exact cx _ _ _ _ (by omega) (by omega)
theorem K_run : CALL (fun M => fX_run M (0, 0, 0)) (fun X => fM_run X (44, 0, 0)) := by
  rintro M X ⟨⟨d, s, t, b1, b2, b3, b4, b5, b6, b7, t1, b8⟩, hG⟩
  obtain ⟨⟨nm, hN⟩, a5, a6, a7, a8, a9⟩ := id hG
  obtain ⟨j, hj, h7, h8, hf⟩ := id a8
  rcases hf with ⟨c1, c2⟩ | ⟨c1, c2, c3⟩
  · obtain ⟨e1, e2⟩ := RUNc0 b1 b2 c1 c2
    exact ⟨_, M, X, e1, e2, ⟨⟨d, s, t, b1, b2, b3, b4, b5, b6, b7, t1, b8⟩, hG⟩, CO.rfl', MO.rfl'⟩
  · obtain ⟨v, w, s', u', N', X', nm', e1, e2, k1, k2, k3, k4, fr, fx⟩ := RUNc b1 b2 hj h7 b7 b3 b4 b5 b6 hN c1 c2 c3
    rw [cM_out' (Or.inr (Or.inl rfl))] at e1
    have wY : XW (xsi N' (0, 0, 0) 13 w) := fr.2.2.1
    have wX : XW (xsi X' (44, 0, 0) 49 w) := by
      have e : (xsi X' (44, 0, 0) 49 w).2 = X.2 := fx.2
      unfold XW at b2 ⊢; rw [e]; exact b2
    have cy : ∀ κ b i x : Nat, κ ≠ 36 → κ ≠ 37 → κ ≠ 38 → ¬ (κ = 0 ∧ x = 13) → (xsi N' (0, 0, 0) 13 w).1 (κ, b, i) x = M.1 (κ, b, i) x := fun κ b i x k1 k2 k3 k4 => by
      rw [xsi_1, if_neg (fun e => k4 ⟨(Prod.mk.inj e.1).1, e.2⟩)]
      exact fr.1 _ _ (fun e => k1 (Prod.mk.inj e).1) (fun e => k2 (Prod.mk.inj e).1) (fun e => k3 (Prod.mk.inj e).1)
    have cy0 : ∀ x : Nat, x ≠ 13 → (xsi N' (0, 0, 0) 13 w).1 (0, 0, 0) x = M.1 (0, 0, 0) x := fun x k => cy _ _ _ _ (by decide) (by decide) (by decide) (fun e => k e.2)
    have cx : ∀ κ b i x : Nat, κ ≠ 44 → κ ≠ 71 → κ ≠ 77 → κ ≠ 78 → (xsi X' (44, 0, 0) 49 w).1 (κ, b, i) x = X.1 (κ, b, i) x := fun κ b i x k1 k2 k3 k4 => by
      rw [xsi_1, if_neg (fun e => k1 (Prod.mk.inj e.1).1)]
      exact fx.1 _ _ (fun e => k1 (Prod.mk.inj e.1).1) (fun e => k2 (Prod.mk.inj e).1) (fun e => k3 (Prod.mk.inj e).1) (fun e => k4 (Prod.mk.inj e).1)
    have cx0 : ∀ x : Nat, ¬ (44 ≤ x ∧ x ≤ 49 ∧ x ≠ 46) → (xsi X' (44, 0, 0) 49 w).1 (44, 0, 0) x = X.1 (44, 0, 0) x := fun x k => by
      rw [xsi_1, if_neg (fun e => by have := e.2; omega)]
      exact fx.1 _ _ (fun e => by have := e.2; omega) (by decide) (by decide) (by decide)
    have y2 : ∀ a x, (xsi N' (0, 0, 0) 13 w).2.1 a x = M.2.1 a x := fun a x => by show N'.2.1 a x = _; rw [fr.2.1]
    have x2 : (xsi X' (44, 0, 0) 49 w).2 = X.2 := fx.2
    have y13 : (xsi N' (0, 0, 0) 13 w).1 (0, 0, 0) 13 = w := by rw [xsi_1, if_pos ⟨rfl, rfl⟩]
    have x49 : (xsi X' (44, 0, 0) 49 w).1 (44, 0, 0) 49 = w := by rw [xsi_1, if_pos ⟨rfl, rfl⟩]
    have yr : ∀ k, (xsi N' (0, 0, 0) 13 w).2.2.1 (0, 0, 0) k = M.2.2.1 (0, 0, 0) k := fun k => fr.2.2.2.1 _ _ (by decide)
    have yc : (xsi N' (0, 0, 0) 13 w).2.2.2 = M.2.2.2 := fr.2.2.2.2
    have hN' : NMr 38 nm' (xsi N' (0, 0, 0) 13 w) (xsi X' (44, 0, 0) 49 w) := fun k hk => by
      rw [xsi_1, if_neg (fun e => absurd e.1 (by decide)), xsi_1, if_neg (fun e => absurd e.1 (by decide))]; exact k4 k hk
    generalize xsi N' (0, 0, 0) 13 w = Y at e1 wY cy cy0 y2 y13 yr yc hN'
    generalize xsi X' (44, 0, 0) 49 w = X2 at e2 wX cx cx0 x2 x49 hN'
    have nk : ∀ κ x : Nat, κ ≠ 0 → ¬ (κ = 0 ∧ x = 13) := fun κ x h e => h e.1
    refine FIN (f := fun M => fX_run M (0, 0, 0)) (g := fun X => fM_run X (44, 0, 0)) (Y := Y) (X' := X2) wY wX e1 e2 k1 k2 k3 ⟨t1, b8.to (fun κ i k hk => ?_) (fun _ _ _ _ => y2 _ _)⟩
      ⟨⟨nm', hN'⟩, a5.to (fun x => cy _ _ _ _ (by decide) (by decide) (by decide) (nk _ _ (by decide))) (fun x => cx _ _ _ _ (by decide) (by decide) (by decide) (by decide)) (cy0 _ (by decide)) (cx0 _ (by decide)),
        a6.to (fun i x => cy _ _ _ _ (by decide) (by decide) (by decide) (nk _ _ (by decide))) (fun x => cy _ _ _ _ (by decide) (by decide) (by decide) (nk _ _ (by decide))) (fun x => cx _ _ _ _ (by decide) (by decide) (by decide) (by decide)) (fun x => cx _ _ _ _ (by decide) (by decide) (by decide) (by decide)),
        y13.trans x49.symm,
        a8.to (fun k j x k1 k2 => cy _ _ _ _ (by omega) (by omega) (by omega) (nk _ _ (by omega))) (fun x => cx _ _ _ _ (by decide) (by decide) (by decide) (by decide)) (cx0 _ (by decide)) (cx0 _ (by decide)) (cy0 _ (by decide)) (yr _) (yr _),
        a9.to (fun κ i k hk _ h0 => cy _ _ _ _ (by omega) (by omega) (by omega) (nk _ _ h0)) (fun κ i k hk => y2 _ _) (cy0 _ (by decide)) (cx0 _ (by decide)) (fun x hx => cx _ _ _ _ (by decide) (by decide) (by decide) (by decide)) (fun x hx => by rw [x2])⟩
      ⟨fun a x h => ?_, fun a x _ => y2 _ _, yc⟩ ⟨fun a x h => ?_, fun a x _ => by rw [x2], by rw [x2]⟩
    · by_cases h0 : κ = 0
      · exact Or.inr (Or.inl h0)
      · exact Or.inl (cy _ _ _ _ (by omega) (by omega) (by omega) (nk _ _ h0))
    · obtain ⟨κ, b, i⟩ := a
      have h : 44 ≤ κ := h
      exact cy _ _ _ _ (by omega) (by omega) (by omega) (nk _ _ (by omega))
    · obtain ⟨κ, b, i⟩ := a
      have h : κ < 44 := h
      exact cx _ _ _ _ (by omega) (by omega) (by omega) (by omega)
