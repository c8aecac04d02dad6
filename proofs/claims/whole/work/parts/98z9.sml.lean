/-! names, why, count, at, lines, feed -/
theorem MG.rfl' {X : xMem} : MG X X := ⟨AgX.rfl', fun _ _ => rfl⟩
theorem CG.rfl' {M : xMem} (hW : XW M) : CG M M := ⟨fun _ _ _ => rfl, fun _ _ _ => rfl, hW, fun _ _ _ => rfl⟩
theorem CO.rfl' {M : xMem} : CO M M := ⟨fun _ _ _ => rfl, fun _ _ _ => rfl, rfl⟩
theorem MO.rfl' {M : xMem} : MO M M := ⟨fun _ _ _ => rfl, fun _ _ _ => rfl, rfl⟩
theorem CALL_i {α : Type} {f g : xMem → Option (α × xMem)} (h : ∀ M X d s t, GA d s t M X → GS M X → ∃ v, f M = some (v, M) ∧ g X = some (v, X)) : CALL f g := by
  rintro M X ⟨⟨d, s, t, hA⟩, hG⟩
  obtain ⟨v, h1, h2⟩ := h M X d s t hA hG
  exact ⟨v, M, X, h1, h2, ⟨⟨d, s, t, hA⟩, hG⟩, CO.rfl', MO.rfl'⟩
theorem K_names {a0 : Int32} : CALL (fun M => fX_names M (0, 0, 0) a0) (fun X => fM_names X (44, 0, 0) a0) := CALL_i (fun M X d s t hA hG => by
  obtain ⟨b1, b2, b3, b4, b5, b6, b7, t1, b8⟩ := hA
  obtain ⟨nm, hN⟩ := hG.1
  have e1 := C_names (t := t) (Y := M) (X := X) (nm := nm) (a0 := a0) b1 hN
  have e2 := M_names (d := d) (s := s) (Y := M) (X := X) (nm := nm) (a0 := a0) b2 hN
  rw [b7.eq] at e1
  rw [b3] at e2
  exact ⟨_, e1, e2⟩)
theorem K_count {a0 : Int32} : CALL (fun M => fX_count M (0, 0, 0) a0) (fun X => fM_count X (44, 0, 0) a0) := CALL_i (fun M X d s t hA hG => by
  obtain ⟨b1, b2, b3, b4, b5, b6, b7, t1, b8⟩ := hA
  obtain ⟨nm, hN⟩ := hG.1
  obtain ⟨ta, hT⟩ := hG.2.1
  have e1 := C_count (t := t) (Y := M) (X := X) (nm := nm) (a0 := a0) b1 (b4.inv b5) hN hT
  have e2 := M_count (d := d) (s := s) (Y := M) (X := X) (nm := nm) (a0 := a0) b2 b5 hN hT
  rw [b7.eq, rCount_ok b4 b5] at e1
  rw [b3] at e2
  exact ⟨_, e1, e2⟩)
theorem K_why : CALL (fun M => fX_why M (0, 0, 0)) (fun X => fM_why X (44, 0, 0)) := CALL_i (fun M X d s t hA hG => by
  obtain ⟨b1, b2, b3, b4, b5, b6, b7, t1, b8⟩ := hA
  have e1 := C_why (t := t) (Y := M) b1
  have e2 := M_why (d := d) (s := s) (X := X) b2
  have h7 : M.1 (0, 0, 0) 13 = X.1 (44, 0, 0) 49 := hG.2.2.2.1
  rw [b7.eq, h7] at e1
  rw [b3] at e2
  exact ⟨_, e1, e2⟩)
theorem K_at {a0 a1 : Int32} : CALL (fun M => fX_at M (0, 0, 0) a0 a1) (fun X => fM_at X (44, 0, 0) a0 a1) := CALL_i (fun M X d s t hA hG => by
  obtain ⟨b1, b2, b3, b4, b5, b6, b7, t1, b8⟩ := hA
  obtain ⟨bs, bp, g1, g2⟩ := hG.2.2.1
  have e1 := C_at (a0 := a0) (a1 := a1) b1 g1
  have e2 := M_at (d := d) (s := s) (a0 := a0) (a1 := a1) b2 g2
  rw [b3] at e2
  exact ⟨_, e1, e2⟩)
theorem K_lines {a0 a1 : Int32} : CALL (fun M => fX_lines M (0, 0, 0) a0 a1) (fun X => fM_lines X (44, 0, 0) a0 a1) := by
  rintro M X ⟨⟨d, s, t, b1, b2, b3, b4, b5, b6, b7, t1, b8⟩, hG⟩
  obtain ⟨Y, y1, y2, e1⟩ := C_lines (t := t) (Y := M) (a0 := a0) (a1 := a1) b1 (b4.inv b5)
  have e2 := M_lines (d := d) (s := s) (X := X) (a0 := a0) (a1 := a1) b2 b5
  rw [b7.eq, rLines_ok b4 b5] at e1
  rw [b3] at e2
  have wY : XW Y := by unfold XW at b1 ⊢; rw [y1]; exact b1
  have e2' : fM_lines X (44, 0, 0) a0 a1 = some (rLines s a0 a1, mM d s X) := by rw [b3]; exact e2
  refine FIN (f := fun M => fX_lines M (0, 0, 0) a0 a1) (g := fun X => fM_lines X (44, 0, 0) a0 a1) (Y := Y) (X' := X) wY b2 e1 e2' b4 b5 b6 ⟨t1, b8.to (fun κ i k hk => ?_) (fun _ _ _ _ => by rw [y1])⟩ (hG.go ⟨fun a x h => y2 a x (fun e => ?_), fun a x _ => by rw [y1], wY, fun a x _ => by rw [y1]⟩ MG.rfl') ⟨fun a x h => y2 a x (fun e => ?_), fun a x _ => by rw [y1], by rw [y1]⟩ MO.rfl'
  · by_cases h10 : κ = 10
    · exact Or.inr (Or.inr h10)
    · exact Or.inl (y2 _ _ (fun e => h10 (Prod.mk.inj e).1))
  · rw [e] at h; unfold ckC at h; exact absurd h (by decide)
  · rw [e] at h; exact absurd h (by decide)
theorem yF_1 {ta j : Nat} {a0 : Int32} {κ κ' a : xId} {x : Nat} {Y : xMem} (h1 : a ≠ κ) (h2 : ¬ (a = κ' ∧ x = j)) : (yF ta a0 κ κ' j Y).1 a x = Y.1 a x := by
  unfold yF
  split
  · rw [xsi_1, if_neg h2, xsi_1, if_neg (fun e => h1 e.1)]
  · rfl
theorem yF_2 {ta j : Nat} {a0 : Int32} {κ κ' : xId} {Y : xMem} : (yF ta a0 κ κ' j Y).2 = Y.2 := by
  unfold yF
  split <;> rfl
theorem K_feed {a0 : Int32} : CALL (fun M => fX_feed M (0, 0, 0) a0) (fun X => fM_feed X (44, 0, 0) a0) := by
  rintro M X ⟨⟨d, s, t, b1, b2, b3, b4, b5, b6, b7, t1, b8⟩, hG⟩
  obtain ⟨a4, ⟨ta, hT⟩, a6, a7, a8, a9⟩ := hG
  have e1 := C_feed (t := t) (Y := M) (X := X) (a0 := a0) b1 hT
  have e2 := M_feed (d := d) (s := s) (Y := M) (X := X) (a0 := a0) b2 hT
  rw [b7.eq] at e1
  rw [b3] at e2
  have hT' := hT.feed (a0 := a0)
  have y2 : (yF ta a0 (25, 0, 0) (0, 0, 0) 6 M).2 = M.2 := yF_2
  have x2 : (yF ta a0 (75, 0, 0) (44, 0, 0) 42 X).2 = X.2 := yF_2
  have cy : ∀ κ b i x : Nat, κ ≠ 25 → ¬ (κ = 0 ∧ x = 6) → (yF ta a0 (25, 0, 0) (0, 0, 0) 6 M).1 (κ, b, i) x = M.1 (κ, b, i) x := fun κ b i x h1 h2 => yF_1 (fun e => h1 (Prod.mk.inj e).1) (fun e => h2 ⟨(Prod.mk.inj e.1).1, e.2⟩)
  have cy0 : ∀ x : Nat, x ≠ 6 → (yF ta a0 (25, 0, 0) (0, 0, 0) 6 M).1 (0, 0, 0) x = M.1 (0, 0, 0) x := fun x h => cy _ _ _ _ (by decide) (fun e => h e.2)
  have cx : ∀ κ b i x : Nat, κ ≠ 75 → ¬ (κ = 44 ∧ x = 42) → (yF ta a0 (75, 0, 0) (44, 0, 0) 42 X).1 (κ, b, i) x = X.1 (κ, b, i) x := fun κ b i x h1 h2 => yF_1 (fun e => h1 (Prod.mk.inj e).1) (fun e => h2 ⟨(Prod.mk.inj e.1).1, e.2⟩)
  have cx0 : ∀ x : Nat, x ≠ 42 → (yF ta a0 (75, 0, 0) (44, 0, 0) 42 X).1 (44, 0, 0) x = X.1 (44, 0, 0) x := fun x h => cx _ _ _ _ (by decide) (fun e => h e.2)
  generalize hY : yF ta a0 (25, 0, 0) (0, 0, 0) 6 M = Y at e1 hT' y2 cy cy0
  generalize hX : yF ta a0 (75, 0, 0) (44, 0, 0) 42 X = X' at e2 hT' x2 cx cx0
  have wY : XW Y := by unfold XW at b1 ⊢; rw [y2]; exact b1
  have wX : XW X' := by unfold XW at b2 ⊢; rw [x2]; exact b2
  have nk : ∀ κ x : Nat, κ ≠ 0 → ¬ (κ = 0 ∧ x = 6) := fun κ x h e => h e.1
  have nx : ∀ κ x : Nat, κ ≠ 44 → ¬ (κ = 44 ∧ x = 42) := fun κ x h e => h e.1
  refine FIN (f := fun M => fX_feed M (0, 0, 0) a0) (g := fun X => fM_feed X (44, 0, 0) a0) (Y := Y) (X' := X') wY wX e1 e2 b4 b5 b6 ⟨t1, b8.to (fun κ i k hk => ?_) (fun _ _ _ _ => by rw [y2])⟩
    ⟨a4.to (fun x => cy _ _ _ _ (by decide) (nk _ _ (by decide))) (fun x _ => cx _ _ _ _ (by decide) (nx _ _ (by decide))), ⟨_, hT'⟩,
      a6.to (fun i x => cy _ _ _ _ (by decide) (nk _ _ (by decide))) (fun x => cy _ _ _ _ (by decide) (nk _ _ (by decide))) (fun x => cx _ _ _ _ (by decide) (nx _ _ (by decide))) (fun x => cx _ _ _ _ (by decide) (nx _ _ (by decide))),
      a7.to (cy0 _ (by decide)) (cx0 _ (by decide)),
      a8.to (fun k j x k1 k2 => cy _ _ _ _ (by omega) (nk _ _ (by omega))) (fun x => cx _ _ _ _ (by decide) (nx _ _ (by decide))) (cx0 _ (by decide)) (cx0 _ (by decide)) (cy0 _ (by decide)) (by rw [y2]) (by rw [y2]),
      a9.to (fun κ i k hk _ h0 => cy _ _ _ _ (by omega) (nk _ _ h0)) (fun κ i k hk => by rw [y2]) (cy0 _ (by decide)) (cx0 _ (by decide)) (fun x hx => cx _ _ _ _ (by decide) (nx _ _ (by decide))) (fun x hx => by rw [x2])⟩
    ⟨fun a x h => ?_, fun a x _ => by rw [y2], by rw [y2]⟩ ⟨fun a x h => ?_, fun a x _ => by rw [x2], by rw [x2]⟩
  · by_cases h0 : κ = 0
    · exact Or.inr (Or.inl h0)
    · exact Or.inl (cy _ _ _ _ (by omega) (nk _ _ h0))
  · obtain ⟨κ, b, i⟩ := a
    have h : 44 ≤ κ := h
    exact cy _ _ _ _ (by omega) (nk _ _ (by omega))
  · obtain ⟨κ, b, i⟩ := a
    have h : κ < 44 := h
    exact cx _ _ _ _ (by omega) (nx _ _ (by omega))
