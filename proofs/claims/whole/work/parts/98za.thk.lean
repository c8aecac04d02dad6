/-! thoughts: ahead, trip, drawn, dry, tuned -/
theorem CFr.cg {M M' : xMem} (h : CFr M M') : CG M M' := ⟨fun a x e => h.1 a x (fun v => by
  obtain ⟨κ, b, i⟩ := a
  unfold ckC at e
  unfold vol at v
  dsimp only at e v
  omega), fun a x e => h.2.1 a x (fun v => by omega), h.2.2.1, fun a x e => h.2.2.2.1 a x e⟩
theorem CFr.co {M M' : xMem} (h : CFr M M') : CO M M' := ⟨fun a x e => h.1 a x (fun v => by
  obtain ⟨κ, b, i⟩ := a
  unfold vol at v
  dsimp only at e v
  omega), fun a x e => h.2.1 a x (fun v => by omega), h.2.2.2.2⟩
theorem FINt {α : Type} {f g : xMem → Option (α × xMem)} {M X M' R : xMem} {d d' : Int32} {s t u : xS} {v : α} (hA : GA d s t M X) (hG : GS M X) (h1 : f M = some (v, M')) (h2 : g X = some (v, R)) (hC : CFr M M') (hu : HB 1 u M') (hR : mM d' s R = R) (hX : AgX X R) (h71 : ∀ x, x < 26 → R.1 (71, 0, 0) x = X.1 (71, 0, 0) x) : ∃ v M' X', f M = some (v, M') ∧ g X = some (v, X') ∧ LR2 M' X' ∧ CO M M' ∧ MO X X' := by
  obtain ⟨b1, b2, b3, b4, b5, b6, b7, t1, b8⟩ := hA
  exact ⟨v, M', R, h1, h2, ⟨⟨d', s, t, hC.2.2.1, hX.W b2, hR, b4, b5, b6, hC.hb (by decide) b7, u, hu⟩, hG.go hC.cg ⟨hX, h71⟩⟩, hC.co, MG.mo ⟨hX, h71⟩⟩
theorem FINm {α : Type} {f g : xMem → Option (α × xMem)} {M X N R : xMem} {d d' : Int32} {s t u : xS} {v : α} (hA : GA d s t M X) (hG : GS M X) (h1 : f M = some (v, cM 1 u N)) (hN : FrN M N) (h2 : g X = some (v, mM d' s R)) (hX : AgX X R) (h71 : ∀ x, x < 26 → R.1 (71, 0, 0) x = X.1 (71, 0, 0) x) : ∃ v M' X', f M = some (v, M') ∧ g X = some (v, X') ∧ LR2 M' X' ∧ CO M M' ∧ MO X X' :=
  FINt hA hG h1 h2 (CFr_FrN hA.1 hN) HB_cM mM_mM ⟨fun a x hk => (kpX_out hk).trans (hX.1 a x hk), fun a x hk => (mM_L (by unfold kpL at hk; omega)).trans (hX.2.1 a x hk), hX.2.2⟩ (fun x hx => mM_71.trans (h71 x hx))
theorem K_ahead {a0 a1 a2 a3 : Int32} : CALL (fun M => fX_ahead M (0, 0, 0) a0 a1 a2 a3) (fun X => fM_ahead X (44, 0, 0) a0 a1 a2 a3) := by
  rintro M X ⟨⟨d, s, t, hA⟩, hG⟩
  obtain ⟨b1, b2, b3, b4, b5, b6, b7, t1, b8⟩ := id hA
  obtain ⟨u, e1⟩ := C_ahead (a0 := a0) (a1 := a1) (a2 := a2) (a3 := a3) b1 (b4.inv b5) b6 b7 b8
  obtain ⟨d', R, e2, r1, r2⟩ := M_ahead (a0 := a0) (a1 := a1) (a2 := a2) (a3 := a3) b2 b5 b3
  rw [rAhead_ok b4 b5] at e1
  exact FINm (f := fun M => fX_ahead M (0, 0, 0) a0 a1 a2 a3) (g := fun X => fM_ahead X (44, 0, 0) a0 a1 a2 a3) hA hG e1 FrN.rfl' e2 r1 r2
theorem K_trip {a0 a1 a2 a3 : Int32} : CALL (fun M => fX_trip M (0, 0, 0) a0 a1 a2 a3) (fun X => fM_trip X (44, 0, 0) a0 a1 a2 a3) := by
  rintro M X ⟨⟨d, s, t, hA⟩, hG⟩
  obtain ⟨b1, b2, b3, b4, b5, b6, b7, t1, b8⟩ := id hA
  obtain ⟨u, N, e1, hN⟩ := C_trip (a0 := a0) (a1 := a1) (a2 := a2) (a3 := a3) b1 (b4.inv b5) b6 b7 b8
  obtain ⟨d', R, e2, r1, r2⟩ := M_trip (a0 := a0) (a1 := a1) (a2 := a2) (a3 := a3) b2 b5 b3
  rw [rTrip_ok b4 b5] at e1
  exact FINm (f := fun M => fX_trip M (0, 0, 0) a0 a1 a2 a3) (g := fun X => fM_trip X (44, 0, 0) a0 a1 a2 a3) hA hG e1 hN e2 r1 r2
theorem K_drawn {a0 a1 a2 : Int32} : CALL (fun M => fX_drawn M (0, 0, 0) a0 a1 a2) (fun X => fM_drawn X (44, 0, 0) a0 a1 a2) := by
  rintro M X ⟨⟨d, s, t, hA⟩, hG⟩
  obtain ⟨b1, b2, b3, b4, b5, b6, b7, t1, b8⟩ := id hA
  obtain ⟨u, N, e1, hN⟩ := C_drawn (a0 := a0) (a1 := a1) (a2 := a2) b1 (b4.inv b5) b6 b7 b8
  obtain ⟨d', R, e2, r1, r2⟩ := M_drawn (a0 := a0) (a1 := a1) (a2 := a2) b2 b5 b3
  rw [rDrawn_ok b4 b5] at e1
  exact FINm (f := fun M => fX_drawn M (0, 0, 0) a0 a1 a2) (g := fun X => fM_drawn X (44, 0, 0) a0 a1 a2) hA hG e1 hN e2 r1 r2
theorem GS.tc {d : Int32} {s t : xS} {M X : xMem} (hA : GA d s t M X) (hG : GS M X) : ∃ j nm, (M.1 (0, 0, 0) 9 = 0 ∧ X.1 (44, 0, 0) 46 = 0) ∨ (M.1 (0, 0, 0) 9 = 1 ∧ X.1 (44, 0, 0) 46 = 1 ∧ TC j d s t nm M X) := by
  obtain ⟨b1, b2, b3, b4, b5, b6, b7, b8⟩ := hA
  obtain ⟨nm, hN⟩ := hG.1
  obtain ⟨j, hj, h7, h8, h⟩ := hG.2.2.2.2.1
  refine ⟨j, nm, ?_⟩
  rcases h with h | ⟨h1, h2, h3⟩
  · exact Or.inl h
  · exact Or.inr ⟨h1, h2, b1, b2, hj, h7, b7, b8, b3, b4, b5, b6, hN, h3⟩
theorem K_dry {a0 : Int32} : CALL (fun M => fX_dry M (0, 0, 0) a0) (fun X => fM_dry X (44, 0, 0) a0) := by
  rintro M X ⟨⟨d, s, t, hA⟩, hG⟩
  obtain ⟨b1, b2, b3, b4, b5, b6, b7, b8⟩ := id hA
  obtain ⟨j, nm, hf⟩ := hG.tc hA
  obtain ⟨v, M', R, d', u, e1, e2, k1, k2, k3, k4, k5⟩ := DRY (a0 := a0) b1 b2 b3 b8 hf
  exact FINt (f := fun M => fX_dry M (0, 0, 0) a0) (g := fun X => fM_dry X (44, 0, 0) a0) hA hG e1 e2 k1 k2 k3 k4 k5
theorem K_tuned {a0 : Int32} : CALL (fun M => fX_tuned M (0, 0, 0) a0) (fun X => fM_tuned X (44, 0, 0) a0) := by
  rintro M X ⟨⟨d, s, t, hA⟩, hG⟩
  obtain ⟨b1, b2, b3, b4, b5, b6, b7, b8⟩ := id hA
  obtain ⟨j, nm, hf⟩ := hG.tc hA
  obtain ⟨v, M', R, d', u, e1, e2, k1, k2, k3, k4, k5⟩ := TUNED (a0 := a0) b1 b2 b3 b8 hf
  exact FINt (f := fun M => fX_tuned M (0, 0, 0) a0) (g := fun X => fM_tuned X (44, 0, 0) a0) hA hG e1 e2 k1 k2 k3 k4 k5
