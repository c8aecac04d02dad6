/-! image, back -/
theorem K_back : CALL (fun M => fX_back M (0, 0, 0)) (fun X => fM_back X (44, 0, 0)) := by
  rintro M X ⟨⟨d, s, t, b1, b2, b3, b4, b5, b6, b7, t1, b8⟩, hG⟩
  obtain ⟨a4, a5, a6, a7, a8, t2, h2, hf⟩ := id hG
  rcases hf with ⟨c1, c2⟩ | ⟨c1, c2, dK, sK, XK, c3, c4, c5, c6⟩
  · exact ⟨_, M, X, C_back0 b1 c1, M_back0 b2 c2, ⟨⟨d, s, t, b1, b2, b3, b4, b5, b6, b7, t1, b8⟩, hG⟩, CO.rfl', MO.rfl'⟩
  · have e1 := C_back b1 (c4.inv c5) c6 b7 h2 c1
    obtain ⟨d', R, e2, r1, r2⟩ := M_back b2 b3 c2 c3
    rw [c4.n (j := 0) (by decide)] at e1
    exact FIN (f := fun M => fX_back M (0, 0, 0)) (g := fun X => fM_back X (44, 0, 0)) (Y := M) (X' := R) b1 (r1.W b2) e1 e2 (EQs.cp c4 c5) c5 c6.cp ⟨t1, b8⟩ (hG.go (CG.rfl' b1) ⟨r1, fun x _ => r2 x⟩) CO.rfl' (MG.mo ⟨r1, fun x _ => r2 x⟩)
theorem K_image : CALL (fun M => fX_image M (0, 0, 0)) (fun X => fM_image X (44, 0, 0)) := by
  rintro M X ⟨⟨d, s, t, b1, b2, b3, b4, b5, b6, b7, t1, b8⟩, hG⟩
  obtain ⟨a4, a5, a6, a7, a8, t2, h2, -⟩ := id hG
  have e1 := C_image b1 (b4.inv b5) b6 b7 h2
  obtain ⟨F, e2, k1, k2, k3⟩ := M_image b2 b3
  rw [b4.n (j := 0) (by decide)] at e1
  have cy : ∀ κ b i x : Nat, (b ≠ 2 ∨ κ = 0 ∨ κ = 10 ∨ 22 < κ) → ¬ (κ = 0 ∧ x = 3) → (xsi (cM 2 (sCp t t2) M) (0, 0, 0) 3 1).1 (κ, b, i) x = M.1 (κ, b, i) x := fun κ b i x k1 k2 => by
    rw [xsi_1, if_neg (fun e => k2 ⟨(Prod.mk.inj e.1).1, e.2⟩)]
    rcases k1 with k1 | k1
    · exact cM_o (Or.inl k1)
    · exact cM_out k1
  have cy0 : ∀ x : Nat, x ≠ 3 → (xsi (cM 2 (sCp t t2) M) (0, 0, 0) 3 1).1 (0, 0, 0) x = M.1 (0, 0, 0) x := fun x h => cy _ _ _ _ (Or.inl (by decide)) (fun e => h e.2)
  have cx : ∀ κ b i x : Nat, κ ≠ 44 → κ ≠ 72 → F.1 (κ, b, i) x = X.1 (κ, b, i) x := fun κ b i x h1 h2 => by
    rw [k3.1 _ _ (fun e => h1 (Prod.mk.inj e.1).1) (fun e => h2 (Prod.mk.inj e.1).1), xsi_1, if_neg (fun e => h1 (Prod.mk.inj e.1).1)]
  have cx0 : ∀ x : Nat, ¬ (32 ≤ x ∧ x ≤ 34) → F.1 (44, 0, 0) x = X.1 (44, 0, 0) x := fun x h => by
    rw [k3.1 _ _ (fun e => by have := e.2; omega) (fun e => absurd e.1 (by decide)), xsi_1, if_neg (fun e => by have := e.2; omega)]
  have f32 : F.1 (44, 0, 0) 32 = 1 := by
    rw [k3.1 _ _ (fun e => by have := e.2; omega) (fun e => absurd e.1 (by decide)), xsi_1, if_pos ⟨rfl, rfl⟩]
  have yl : ∀ κ b i x : Nat, b ≠ 2 ∨ 22 < κ → (xsi (cM 2 (sCp t t2) M) (0, 0, 0) 3 1).2.1 (κ, b, i) x = M.2.1 (κ, b, i) x := fun κ b i x h => by
    show (cM 2 (sCp t t2) M).2.1 (κ, b, i) x = _
    rcases h with h | h
    · exact cM_oL (Or.inl h)
    · exact cM_oL (Or.inr (cL_big (by omega)))
  have y3 : (xsi (cM 2 (sCp t t2) M) (0, 0, 0) 3 1).1 (0, 0, 0) 3 = 1 := by rw [xsi_1, if_pos ⟨rfl, rfl⟩]
  have hB2 : HB 2 (sCp t t2) (xsi (cM 2 (sCp t t2) M) (0, 0, 0) 3 1) := HB_cM.to (fun κ i k hk => Or.inl (by rw [xsi_1, if_neg (fun e => absurd (Prod.mk.inj (Prod.mk.inj e.1).2).1 (by decide))])) (fun _ _ _ _ => rfl)
  have hb : ∀ b u, b ≠ 2 → HB b u M → HB b u (xsi (cM 2 (sCp t t2) M) (0, 0, 0) 3 1) := fun b u hb h => h.to (fun κ i k hk => by
    by_cases h0 : κ = 0
    · exact Or.inr (Or.inl h0)
    · exact Or.inl (cy _ _ _ _ (Or.inl hb) (fun e => h0 e.1))) (fun κ i k _ => yl _ _ _ _ (Or.inl hb))
  have wY : XW (xsi (cM 2 (sCp t t2) M) (0, 0, 0) 3 1) := b1
  have yr : (xsi (cM 2 (sCp t t2) M) (0, 0, 0) 3 1).2.2 = M.2.2 := rfl
  generalize xsi (cM 2 (sCp t t2) M) (0, 0, 0) 3 1 = Y at e1 cy cy0 yl y3 hB2 hb wY yr
  have x2 : F.2.2 = X.2.2 := k3.2.2
  have xl : ∀ κ b i x : Nat, κ ≠ 73 → F.2.1 (κ, b, i) x = X.2.1 (κ, b, i) x := fun κ b i x h => k3.2.1 _ _ (fun e => h (Prod.mk.inj e.1).1)
  have wF : XW F := by unfold XW at b2 ⊢; rw [x2]; exact b2
  have nk : ∀ κ x : Nat, κ ≠ 0 → ¬ (κ = 0 ∧ x = 3) := fun κ x h e => h e.1
  refine ⟨_, Y, F, e1, e2, ⟨⟨d, s, t, wY, wF, k1, b4, b5, b6, hb _ _ (by decide) b7, t1, hb _ _ (by decide) b8⟩,
    a4.to (fun x => cy _ _ _ _ (Or.inl (by decide)) (nk _ _ (by decide))) (fun x _ => cx _ _ _ _ (by decide) (by decide)),
    a5.to (fun x => cy _ _ _ _ (Or.inl (by decide)) (nk _ _ (by decide))) (fun x => cx _ _ _ _ (by decide) (by decide)) (cy0 _ (by decide)) (cx0 _ (by decide)),
    a6.to (fun i x => cy _ _ _ _ (Or.inl (by decide)) (nk _ _ (by decide))) (fun x => cy _ _ _ _ (Or.inl (by decide)) (nk _ _ (by decide))) (fun x => cx _ _ _ _ (by decide) (by decide)) (fun x => cx _ _ _ _ (by decide) (by decide)),
    a7.to (cy0 _ (by decide)) (cx0 _ (by decide)),
    a8.to (fun k j x k1 k2 => cy _ _ _ _ (Or.inl (by decide)) (nk _ _ (by omega))) (fun x => cx _ _ _ _ (by decide) (by decide)) (cx0 _ (by decide)) (cx0 _ (by decide)) (cy0 _ (by decide)) (by rw [yr]) (by rw [yr]),
    ⟨sCp t t2, hB2, Or.inr ⟨y3, f32, d, s, _, k2, EQs.cp b4 b5, b5, b6.cp⟩⟩⟩, ⟨fun a x h => ?_, fun a x h => ?_, by rw [yr]⟩, ⟨fun a x h => ?_, fun a x h => ?_, x2⟩⟩
  · obtain ⟨κ, b, i⟩ := a
    have h : 44 ≤ κ := h
    exact cy _ _ _ _ (Or.inr (Or.inr (Or.inr (by omega)))) (nk _ _ (by omega))
  · obtain ⟨κ, b, i⟩ := a
    have h : 44 ≤ κ := h
    exact yl _ _ _ _ (Or.inr (by omega))
  · obtain ⟨κ, b, i⟩ := a
    have h : κ < 44 := h
    exact cx _ _ _ _ (by omega) (by omega)
  · obtain ⟨κ, b, i⟩ := a
    have h : κ < 44 := h
    exact xl _ _ _ _ (by omega)
