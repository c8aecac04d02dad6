/-! one memory: the class, then the model -/
theorem LR2.mdl {M X X' : xMem} (h : LR2 M X) (h1 : ∀ a x, 44 ≤ a.1 → X'.1 a x = X.1 a x) (h2 : ∀ a x, 44 ≤ a.1 → X'.2.1 a x = X.2.1 a x) (hW : XW X') : LR2 M X' := by
  obtain ⟨⟨d, s, t, b1, b2, b3, b4, b5, b6, b7, t1, b8⟩, a4, a5, a6, a7, a8, a9⟩ := h
  have cx : ∀ κ b i x : Nat, 44 ≤ κ → X'.1 (κ, b, i) x = X.1 (κ, b, i) x := fun κ b i x h => h1 (κ, b, i) x h
  have cl : ∀ κ b i x : Nat, 44 ≤ κ → X'.2.1 (κ, b, i) x = X.2.1 (κ, b, i) x := fun κ b i x h => h2 (κ, b, i) x h
  exact ⟨⟨d, s, t, b1, hW, mM_loc b3 (fun r hr x _ => cx _ _ _ _ (LK_44 r hr)) (fun x _ => cx _ _ _ _ (by decide)) (fun c _ => cl _ _ _ _ (by decide)), b4, b5, b6, b7, t1, b8⟩,
    a4.to (fun _ => rfl) (fun x _ => cx _ _ _ _ (by decide)), a5.to (fun _ => rfl) (fun x => cx _ _ _ _ (by decide)) rfl (cx _ _ _ _ (by decide)), a6.to (fun _ _ => rfl) (fun _ => rfl) (fun x => cx _ _ _ _ (by decide)) (fun x => cx _ _ _ _ (by decide)), a7.to rfl (cx _ _ _ _ (by decide)),
    a8.to (fun _ _ _ _ _ => rfl) (fun x => cx _ _ _ _ (by decide)) (cx _ _ _ _ (by decide)) (cx _ _ _ _ (by decide)) rfl rfl rfl, a9.to (fun _ _ _ _ _ _ => rfl) (fun _ _ _ _ => rfl) rfl (cx _ _ _ _ (by decide)) (fun x _ => cx _ _ _ _ (by decide)) (fun x _ => cl _ _ _ _ (by decide))⟩
theorem LR2.cls {M M' X : xMem} (h : LR2 M X) (h1 : ∀ a x, a.1 < 44 → M'.1 a x = M.1 a x) (h2 : ∀ a x, a.1 < 44 → M'.2.1 a x = M.2.1 a x) (hR : M'.2.2 = M.2.2) : LR2 M' X := by
  obtain ⟨⟨d, s, t, b1, b2, b3, b4, b5, b6, b7, t1, b8⟩, a4, a5, a6, a7, a8, a9⟩ := h
  have cx : ∀ κ b i x : Nat, κ < 44 → M'.1 (κ, b, i) x = M.1 (κ, b, i) x := fun κ b i x h => h1 (κ, b, i) x h
  have cl : ∀ κ b i x : Nat, κ < 44 → M'.2.1 (κ, b, i) x = M.2.1 (κ, b, i) x := fun κ b i x h => h2 (κ, b, i) x h
  have hW : XW M' := by unfold XW at b1 ⊢; rw [hR]; exact b1
  have hb : ∀ b u, HB b u M → HB b u M' := fun b u h => h.to (fun κ i k hk => Or.inl (cx _ _ _ _ (by omega))) (fun κ i k hk => cl _ _ _ _ (by omega))
  exact ⟨⟨d, s, t, hW, b2, b3, b4, b5, b6, hb _ _ b7, t1, hb _ _ b8⟩,
    a4.to (fun x => cx _ _ _ _ (by decide)) (fun _ _ => rfl), a5.to (fun x => cx _ _ _ _ (by decide)) (fun _ => rfl) (cx _ _ _ _ (by decide)) rfl, a6.to (fun i x => cx _ _ _ _ (by decide)) (fun x => cx _ _ _ _ (by decide)) (fun _ => rfl) (fun _ => rfl), a7.to (cx _ _ _ _ (by decide)) rfl,
    a8.to (fun k j x k1 k2 => cx _ _ _ _ (by omega)) (fun _ => rfl) rfl rfl (cx _ _ _ _ (by decide)) (by rw [hR]) (by rw [hR]), a9.to (fun κ i k hk _ _ => cx _ _ _ _ (by omega)) (fun κ i k hk => cl _ _ _ _ (by omega)) (cx _ _ _ _ (by decide)) rfl (fun _ _ => rfl) (fun _ _ => rfl)⟩
theorem CALL.one {α : Type} {f g : xMem → Option (α × xMem)} (h : CALL f g) {M : xMem} (hM : LR2 M M) : ∃ v M' X', f M = some (v, M') ∧ g M' = some (v, X') ∧ XW M' ∧ LR2 X' X' ∧ X'.2.2.2 = M.2.2.2 := by
  obtain ⟨v, M', X1, e1, e2, h1, c1, m1⟩ := h M M hM
  have hW : XW M' := by
    obtain ⟨⟨d, s, t, b1, _⟩, _⟩ := h1
    exact b1
  obtain ⟨v2, M2, X2, e3, e4, h2, c2, m2⟩ := h M M' (hM.mdl c1.1 c1.2.1 hW)
  rw [e1] at e3
  obtain ⟨rfl, rfl⟩ := Prod.mk.inj (Option.some.inj e3)
  exact ⟨v, M', X2, e1, e4, hW, h2.cls m2.1 m2.2.1 m2.2.2, by rw [m2.2.2]; exact c1.2.2⟩
