/-! the law's relation of two memories: the class's and the model's -/
def ckC (a : xId) : Prop := (a.1 = 0 ∧ a.2.1 = 0) ∨ (25 ≤ a.1 ∧ a.1 ≤ 35) ∨ a.1 = 38 ∨ a.1 = 42 ∨ a.1 = 43 ∨ (a.2.1 = 2 ∧ a.1 ≤ 22 ∧ a.1 ≠ 10)
def CG (M M' : xMem) : Prop := (∀ a x, ckC a → M'.1 a x = M.1 a x) ∧ (∀ a x, a.2.1 = 2 ∧ a.1 ≤ 22 → M'.2.1 a x = M.2.1 a x) ∧ XW M' ∧ (∀ a x, a.1 = 0 ∨ a.1 = 26 → M'.2.2.1 a x = M.2.2.1 a x)
def MG (X R : xMem) : Prop := AgX X R ∧ ∀ x, x < 26 → R.1 (71, 0, 0) x = X.1 (71, 0, 0) x
def CO (M M' : xMem) : Prop := (∀ a x, 44 ≤ a.1 → M'.1 a x = M.1 a x) ∧ (∀ a x, 44 ≤ a.1 → M'.2.1 a x = M.2.1 a x) ∧ M'.2.2.2 = M.2.2.2
def MO (X R : xMem) : Prop := (∀ a x, a.1 < 44 → R.1 a x = X.1 a x) ∧ (∀ a x, a.1 < 44 → R.2.1 a x = X.2.1 a x) ∧ R.2.2 = X.2.2
theorem MG.mo {X R : xMem} (h : MG X R) : MO X R := ⟨fun a x e => h.1.1 a x (Or.inl e), fun a x e => h.1.2.1 a x (Or.inl e), h.1.2.2⟩
def GA (d : Int32) (s t : xS) (M X : xMem) : Prop := XW M ∧ XW X ∧ mM d s X = X ∧ EQs s t ∧ INV s ∧ UC t ∧ HB 0 t M ∧ ∃ t1, HB 1 t1 M
def G4 (M X : xMem) : Prop := ∃ nm, NMr 38 nm M X
def G5 (M X : xMem) : Prop := ∃ ta, RT ta M X
def G6 (M X : xMem) : Prop := ∃ bs bp, RBc bs bp M ∧ RBm bs bp X
def G7 (M X : xMem) : Prop := M.1 (0, 0, 0) 13 = X.1 (44, 0, 0) 49
def G8 (M X : xMem) : Prop := ∃ j, j < 2 ∧ M.2.2.1 (0, 0, 0) 7 = some (26, 0, j) ∧ M.2.2.1 (0, 0, 0) 8 = some (26, 0, 1 - j) ∧ ((M.1 (0, 0, 0) 9 = 0 ∧ X.1 (44, 0, 0) 46 = 0) ∨ (M.1 (0, 0, 0) 9 = 1 ∧ X.1 (44, 0, 0) 46 = 1 ∧ TRp j M X))
def G9 (M X : xMem) : Prop := ∃ t2, HB 2 t2 M ∧ ((M.1 (0, 0, 0) 3 = 0 ∧ X.1 (44, 0, 0) 32 = 0) ∨ (M.1 (0, 0, 0) 3 = 1 ∧ X.1 (44, 0, 0) 32 = 1 ∧ ∃ dK sK XK, KPm 0 (mM dK sK XK) X ∧ EQs sK t2 ∧ INV sK ∧ UC t2))
theorem G4.to {M X M' X' : xMem} (h : G4 M X) (h1 : ∀ x, M'.1 (38, 0, 0) x = M.1 (38, 0, 0) x) (h2 : ∀ x, x < 26 → X'.1 (71, 0, 0) x = X.1 (71, 0, 0) x) : G4 M' X' := by
  obtain ⟨nm, h⟩ := h
  exact ⟨nm, fun k hk => ⟨(h1 k).trans (h k hk).1, (h2 k hk).trans (h k hk).2⟩⟩
theorem G5.to {M X M' X' : xMem} (h : G5 M X) (h1 : ∀ x, M'.1 (25, 0, 0) x = M.1 (25, 0, 0) x) (h2 : ∀ x, X'.1 (75, 0, 0) x = X.1 (75, 0, 0) x) (h3 : M'.1 (0, 0, 0) 6 = M.1 (0, 0, 0) 6) (h4 : X'.1 (44, 0, 0) 42 = X.1 (44, 0, 0) 42) : G5 M' X' := by
  obtain ⟨ta, a1, a2, a3, a4⟩ := h
  exact ⟨ta, h3.trans a1, h4.trans a2, a3, fun k hk => (h1 k).trans ((a4 k hk).trans (h2 k).symm)⟩
theorem G6.to {M X M' X' : xMem} (h : G6 M X) (h1 : ∀ i x, M'.1 (42, 0, i) x = M.1 (42, 0, i) x) (h2 : ∀ x, M'.1 (43, 0, 0) x = M.1 (43, 0, 0) x) (h3 : ∀ x, X'.1 (79, 0, 0) x = X.1 (79, 0, 0) x) (h4 : ∀ x, X'.1 (80, 0, 0) x = X.1 (80, 0, 0) x) : G6 M' X' := by
  obtain ⟨bs, bp, ⟨a1, a2⟩, a3, a4⟩ := h
  exact ⟨bs, bp, ⟨fun k hk => (h2 k).trans (a1 k hk), fun i j hi hj => (h1 i j).trans (a2 i j hi hj)⟩, fun k hk => (h4 k).trans (a3 k hk), fun x hx => (h3 x).trans (a4 x hx)⟩
theorem G7.to {M X M' X' : xMem} (h : G7 M X) (h1 : M'.1 (0, 0, 0) 13 = M.1 (0, 0, 0) 13) (h2 : X'.1 (44, 0, 0) 49 = X.1 (44, 0, 0) 49) : G7 M' X' := h1.trans (Eq.trans h h2.symm)
theorem TRp.to {j : Nat} {M X M' X' : xMem} (h : TRp j M X) (h1 : ∀ k x, 26 ≤ k → k ≤ 32 → M'.1 (k, 0, j) x = M.1 (k, 0, j) x) (h2 : ∀ x, X'.1 (76, 0, 0) x = X.1 (76, 0, 0) x) (h3 : X'.1 (44, 0, 0) 43 = X.1 (44, 0, 0) 43) : TRp j M' X' := by
  obtain ⟨L, R, tp, a1, a2, a3⟩ := h
  exact ⟨L, R, tp, a1.to (fun k r k1 k2 => h1 k r (by omega) k2) (funext h2), (h1 26 6 (by decide) (by decide)).trans a2, h3.trans a3⟩
theorem G8.to {M X M' X' : xMem} (h : G8 M X) (h1 : ∀ k j x, 26 ≤ k → k ≤ 32 → M'.1 (k, 0, j) x = M.1 (k, 0, j) x) (h2 : ∀ x, X'.1 (76, 0, 0) x = X.1 (76, 0, 0) x) (h3 : X'.1 (44, 0, 0) 43 = X.1 (44, 0, 0) 43) (h4 : X'.1 (44, 0, 0) 46 = X.1 (44, 0, 0) 46) (h5 : M'.1 (0, 0, 0) 9 = M.1 (0, 0, 0) 9) (h7 : M'.2.2.1 (0, 0, 0) 7 = M.2.2.1 (0, 0, 0) 7) (h8 : M'.2.2.1 (0, 0, 0) 8 = M.2.2.1 (0, 0, 0) 8) : G8 M' X' := by
  obtain ⟨j, hj, a1, a2, a3⟩ := h
  refine ⟨j, hj, h7.trans a1, h8.trans a2, ?_⟩
  rcases a3 with ⟨b1, b2⟩ | ⟨b1, b2, b3⟩
  · exact Or.inl ⟨h5.trans b1, h4.trans b2⟩
  · exact Or.inr ⟨h5.trans b1, h4.trans b2, b3.to (fun k x k1 k2 => h1 k j x k1 k2) h2 h3⟩
theorem G9.to {M X M' X' : xMem} (h : G9 M X) (h1 : ∀ κ i k, κ ≤ 22 → κ ≠ 10 → κ ≠ 0 → M'.1 (κ, 2, i) k = M.1 (κ, 2, i) k) (h2 : ∀ κ i k, κ ≤ 22 → M'.2.1 (κ, 2, i) k = M.2.1 (κ, 2, i) k) (h3 : M'.1 (0, 0, 0) 3 = M.1 (0, 0, 0) 3) (h4 : X'.1 (44, 0, 0) 32 = X.1 (44, 0, 0) 32) (h5 : ∀ x, x < 4600 → X'.1 (72, 0, 0) x = X.1 (72, 0, 0) x) (h6 : ∀ x, x < 4 → X'.2.1 (73, 0, 0) x = X.2.1 (73, 0, 0) x) : G9 M' X' := by
  obtain ⟨t2, a1, a3⟩ := h
  refine ⟨t2, a1.to (fun κ i k hk => ?_) h2, ?_⟩
  · by_cases h10 : κ = 10
    · exact Or.inr (Or.inr h10)
    · by_cases h0 : κ = 0
      · exact Or.inr (Or.inl h0)
      · exact Or.inl (h1 κ i k hk h10 h0)
  rcases a3 with ⟨b1, b2⟩ | ⟨b1, b2, dK, sK, XK, b3, b4⟩
  · exact Or.inl ⟨h3.trans b1, h4.trans b2⟩
  · exact Or.inr ⟨h3.trans b1, h4.trans b2, dK, sK, XK, b3.to (fun x _ hx => h5 x (by omega)) (fun x _ hx => h6 x (by omega)), b4⟩
def GS (M X : xMem) : Prop := G4 M X ∧ G5 M X ∧ G6 M X ∧ G7 M X ∧ G8 M X ∧ G9 M X
theorem CG.c {M M' : xMem} (h : CG M M') {κ b i x : Nat} (hk : (κ = 0 ∧ b = 0) ∨ (25 ≤ κ ∧ κ ≤ 35) ∨ κ = 38 ∨ κ = 42 ∨ κ = 43 ∨ (b = 2 ∧ κ ≤ 22 ∧ κ ≠ 10)) : M'.1 (κ, b, i) x = M.1 (κ, b, i) x := h.1 _ _ hk
theorem GS.go {M X M' X' : xMem} (h : GS M X) (hC : CG M M') (hX : MG X X') : GS M' X' := by
  obtain ⟨a4, a5, a6, a7, a8, a9⟩ := h
  have k44 : ∀ x, (x = 32 ∨ x = 42 ∨ x = 43 ∨ x = 46 ∨ x = 49) → X'.1 (44, 0, 0) x = X.1 (44, 0, 0) x := fun x hx => hX.1.1 _ _ (Or.inr (Or.inr (Or.inr (Or.inr (Or.inr (Or.inl ⟨rfl, hx⟩))))))
  have k0 : ∀ x, M'.1 (0, 0, 0) x = M.1 (0, 0, 0) x := fun x => hC.c (Or.inl ⟨rfl, rfl⟩)
  refine ⟨a4.to (fun x => hC.c (Or.inr (Or.inr (Or.inl rfl)))) hX.2, a5.to (fun x => hC.c (Or.inr (Or.inl (by decide)))) (fun x => hX.1.1 _ _ (Or.inr (Or.inl rfl))) (k0 _) (k44 _ (by decide)),
    a6.to (fun i x => hC.c (Or.inr (Or.inr (Or.inr (Or.inl rfl))))) (fun x => hC.c (Or.inr (Or.inr (Or.inr (Or.inr (Or.inl rfl)))))) (fun x => hX.1.1 _ _ (Or.inr (Or.inr (Or.inr (Or.inl rfl))))) (fun x => hX.1.1 _ _ (Or.inr (Or.inr (Or.inr (Or.inr (Or.inl rfl)))))),
    a7.to (k0 _) (k44 _ (by decide)),
    a8.to (fun k j x k1 k2 => hC.c (Or.inr (Or.inl ⟨by omega, by omega⟩))) (fun x => hX.1.1 _ _ (Or.inr (Or.inr (Or.inl rfl)))) (k44 _ (by decide)) (k44 _ (by decide)) (k0 _) (hC.2.2.2 _ _ (Or.inl rfl)) (hC.2.2.2 _ _ (Or.inl rfl)),
    a9.to (fun κ i k hk h10 h0 => hC.c (Or.inr (Or.inr (Or.inr (Or.inr (Or.inr ⟨rfl, hk, h10⟩)))))) (fun κ i k hk => hC.2.1 _ _ ⟨rfl, hk⟩) (k0 _) (k44 _ (by decide)) (fun x hx => hX.1.1 _ _ (Or.inr (Or.inr (Or.inr (Or.inr (Or.inr (Or.inr ⟨rfl, hx⟩))))))) (fun x hx => hX.1.2.1 _ _ (Or.inr ⟨rfl, hx⟩))⟩
def LR2 (M X : xMem) : Prop := (∃ d s t, GA d s t M X) ∧ GS M X
def CALL {α : Type} (f g : xMem → Option (α × xMem)) : Prop := ∀ M X, LR2 M X → ∃ v M' X', f M = some (v, M') ∧ g X = some (v, X') ∧ LR2 M' X' ∧ CO M M' ∧ MO X X'
theorem CG_0 {t : xS} {M : xMem} (hW : XW M) : CG M (cM 0 t M) := by
  refine ⟨fun a x h => ?_, fun a x h => ?_, hW, fun a x _ => rfl⟩
  · obtain ⟨κ, b, i⟩ := a
    unfold ckC at h
    dsimp only at h
    by_cases h2 : b = 2
    · exact cM_o (Or.inl (by omega))
    · exact cM_out (by omega)
  · obtain ⟨κ, b, i⟩ := a
    have h : b = 2 ∧ κ ≤ 22 := h
    exact cM_oL (Or.inl (by omega))
theorem CO_0 {b : Nat} {t : xS} {M : xMem} : CO M (cM b t M) := ⟨fun a x h => by
  obtain ⟨κ, b, i⟩ := a
  have h : 44 ≤ κ := h
  exact cM_out (Or.inr (Or.inr (by omega))), fun a x h => by
  obtain ⟨κ, b, i⟩ := a
  have h : 44 ≤ κ := h
  exact cM_oL (Or.inr (cL_big (by omega))), rfl⟩
theorem MG_m {d : Int32} {s : xS} {X : xMem} : MG X (mM d s X) := ⟨⟨fun a x h => kpX_out h, fun a x h => mM_L (by unfold kpL at h; omega), rfl⟩, fun x _ => mM_71⟩
/-- calls that touch the depot only -/
theorem CALL_r {α : Type} {f g : xMem → Option (α × xMem)} {r : xS → α × xS} (hc : ∀ (t : xS) (Y : xMem), XW Y → INV t → f (cM 0 t Y) = some ((r t).1, cM 0 (r t).2 Y)) (hm : ∀ (d : Int32) (s : xS) (X : xMem), XW X → INV s → g (mM d s X) = some ((r s).1, mM d (r s).2 X)) (ok : ∀ s t, EQs s t → INV s → (r t).1 = (r s).1 ∧ EQs (r s).2 (r t).2 ∧ INV (r s).2) (uc : ∀ t, INV t → UC t → UC (r t).2) : CALL f g := by
  rintro M X ⟨⟨d, s, t, a1, a2, a3, a4, a5, a6, a7, t1, a8⟩, hG⟩
  obtain ⟨o1, o2, o3⟩ := ok s t a4 a5
  have hI := a4.inv a5
  have e1 := hc t M a1 hI
  have e2 := hm d s X a2 a5
  rw [a7.eq, o1] at e1
  rw [a3] at e2
  exact ⟨(r s).1, cM 0 (r t).2 M, mM d (r s).2 X, e1, e2, ⟨⟨d, (r s).2, (r t).2, a1, a2, mM_mM, o2, o3, uc t hI a6, HB_cM, t1, a8.ov (by decide)⟩, hG.go (CG_0 a1) MG_m⟩, CO_0, MG_m.mo⟩
theorem CALL_p {α : Type} {f g : xMem → Option (α × xMem)} {r : xS → α} (hc : ∀ (t : xS) (Y : xMem), XW Y → INV t → f (cM 0 t Y) = some (r t, cM 0 t Y)) (hm : ∀ (d : Int32) (s : xS) (X : xMem), XW X → INV s → g (mM d s X) = some (r s, mM d s X)) (ok : ∀ s t, EQs s t → INV s → r t = r s) : CALL f g :=
  CALL_r (r := fun t => (r t, t)) hc hm (fun s t h hI => ⟨ok s t h hI, h, hI⟩) (fun _ _ h => h)
