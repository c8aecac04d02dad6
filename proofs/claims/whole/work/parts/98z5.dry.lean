/-! dry, tuned -/
def vol (a : xId) : Prop := (a.2.1 = 1 ∧ a.1 ≤ 22) ∨ a.1 = 10 ∨ a.1 = 23 ∨ a.1 = 24 ∨ a.1 = 36 ∨ a.1 = 37 ∨ a.1 = 39
def CFr (M M' : xMem) : Prop := (∀ a x, ¬ vol a → M'.1 a x = M.1 a x) ∧ (∀ a x, ¬ (a.2.1 = 1 ∧ a.1 ≤ 22) → M'.2.1 a x = M.2.1 a x) ∧ XW M' ∧ (∀ a x, a.1 = 0 ∨ a.1 = 26 → M'.2.2.1 a x = M.2.2.1 a x) ∧ M'.2.2.2 = M.2.2.2
theorem CFr.rfl' {M : xMem} (hW : XW M) : CFr M M := ⟨fun _ _ _ => rfl, fun _ _ _ => rfl, hW, fun _ _ _ => rfl, rfl⟩
theorem CFr.tr {M M' M'' : xMem} (h : CFr M M') (h2 : CFr M' M'') : CFr M M'' := ⟨fun a x e => (h2.1 a x e).trans (h.1 a x e), fun a x e => (h2.2.1 a x e).trans (h.2.1 a x e), h2.2.2.1, fun a x e => (h2.2.2.2.1 a x e).trans (h.2.2.2.1 a x e), h2.2.2.2.2.trans h.2.2.2.2⟩
theorem CFr.hb {b : Nat} {t : xS} {M M' : xMem} (h : CFr M M') (hb : b ≠ 1) (hB : HB b t M) : HB b t M' := hB.to (fun κ i k hk => by
  by_cases h10 : κ = 10
  · exact Or.inr (Or.inr h10)
  · exact Or.inl (h.1 _ _ (fun e => by
      rcases e with ⟨e1, -⟩ | e | e | e | e | e | e
      · exact hb e1
      · exact h10 e
      · have : κ = 23 := e; omega
      · have : κ = 24 := e; omega
      · have : κ = 36 := e; omega
      · have : κ = 37 := e; omega
      · have : κ = 39 := e; omega))) (fun κ i k hk => h.2.1 _ _ (fun e => hb e.1))
/-- a thought's block is its own -/
theorem CFr.ov {u : xS} {M N : xMem} (hW : XW N) (h1 : ∀ a x, ¬ vol a → N.1 a x = M.1 a x) (h2 : N.2.1 = M.2.1) (h3 : ∀ a x, a.1 = 0 ∨ a.1 = 26 → N.2.2.1 a x = M.2.2.1 a x) (h4 : N.2.2.2 = M.2.2.2) : CFr M (cM 1 u N) := by
  refine ⟨fun a x e => ?_, fun a x e => ?_, hW, h3, h4⟩
  · obtain ⟨κ, b, i⟩ := a
    by_cases hb : b = 1
    · have hκ : ¬ κ ≤ 22 := fun e2 => e (Or.inl ⟨hb, e2⟩)
      rw [cM_out (Or.inr (Or.inr (by omega)))]; exact h1 _ _ e
    · rw [cM_o (Or.inl hb)]; exact h1 _ _ e
  · obtain ⟨κ, b, i⟩ := a
    by_cases hb : b = 1
    · have hκ : ¬ κ ≤ 22 := fun e2 => e ⟨hb, e2⟩
      rw [cM_oL (Or.inr (cL_big (by omega))), h2]
    · rw [cM_oL (Or.inl hb), h2]
theorem CFr_FrN {u : xS} {M N : xMem} (hW : XW M) (h : FrN M N) : CFr M (cM 1 u N) := CFr.ov (h.W hW) (fun a x e => h.1 a x (fun e2 => e (Or.inr (Or.inr (Or.inl e2)))) (fun e2 => e (Or.inr (Or.inr (Or.inr (Or.inl e2)))))) (by rw [h.2]) (fun a x _ => by rw [h.2]) (by rw [h.2])
theorem CFr_RFr {u : xS} {M N : xMem} (h : RFr 39 (nCp M) N) : CFr M (cM 1 u N) := CFr.ov h.2.2.1 (fun a x e => by
  rw [h.1 a x (fun e2 => e (Or.inr (Or.inr (Or.inr (Or.inr (Or.inl (by rw [e2]))))))) (fun e2 => e (Or.inr (Or.inr (Or.inr (Or.inr (Or.inr (Or.inl (by rw [e2])))))))) (fun e2 => e (Or.inr (Or.inr (Or.inr (Or.inr (Or.inr (Or.inr (by rw [e2]))))))))]
  exact nCp_1 (fun e2 => e (Or.inr (Or.inr (Or.inr (Or.inr (Or.inr (Or.inr (by rw [e2])))))))) ) (by rw [h.2.1]; rfl) (fun a x e => by
  rw [h.2.2.2.1 a x (fun e2 => by rw [e2] at e; rcases e with e | e <;> exact absurd e (by decide))]; rfl) (by rw [h.2.2.2.2]; rfl)
/-- what a run in thought asks -/
def TC (j : Nat) (d : Int32) (s t : xS) (nm : Nat → Nat) (M X : xMem) : Prop := XW M ∧ XW X ∧ j < 2 ∧ M.2.2.1 (0, 0, 0) 7 = some (26, 0, j) ∧ HB 0 t M ∧ (∃ t1, HB 1 t1 M) ∧ mM d s X = X ∧ EQs s t ∧ INV s ∧ UC t ∧ NMr 38 nm M X ∧ TRp j M X
theorem TC.go {j : Nat} {d d' : Int32} {s t u : xS} {nm : Nat → Nat} {M X M' R : xMem} (h : TC j d s t nm M X) (hC : CFr M M') (hu : HB 1 u M') (hA : AgX X R) (h71 : ∀ x, x < 26 → R.1 (71, 0, 0) x = X.1 (71, 0, 0) x) (hR : mM d' s R = R) : TC j d' s t nm M' R := by
  obtain ⟨a1, a2, a3, a4, a5, a6, a7, a8, a9, a10, a11, L, Rr, tp, a12, a13, a14⟩ := h
  have nv : ∀ k i : Nat, (k = 0 ∨ (25 ≤ k ∧ k ≤ 35) ∨ k = 38) → ∀ b, ¬ vol (k, b, i) ∨ (k = 0 ∧ b = 1) := fun k i hk b => by
    by_cases hb : k = 0 ∧ b = 1
    · exact Or.inr hb
    · refine Or.inl (fun e => ?_)
      unfold vol at e
      dsimp only at e
      omega
  refine ⟨hC.2.2.1, hA.W a2, a3, by rw [hC.2.2.2.1 _ _ (Or.inl rfl)]; exact a4, hC.hb (by decide) a5, ⟨u, hu⟩, hR, a8, a9, a10, fun k hk => ⟨?_, ?_⟩, L, Rr, tp, ?_, ?_, ?_⟩
  · rw [hC.1 _ _ ((nv 38 0 (by omega) 0).resolve_right (by decide))]; exact (a11 k hk).1
  · rw [h71 k hk]; exact (a11 k hk).2
  · exact a12.to (fun k r k1 k2 => hC.1 _ _ ((nv k j (by omega) 0).resolve_right (by omega))) (by funext q; exact hA.1 _ _ (Or.inr (Or.inr (Or.inl rfl))))
  · rw [hC.1 _ _ ((nv 26 j (by omega) 0).resolve_right (by decide))]; exact a13
  · rw [hA.1 _ _ (Or.inr (Or.inr (Or.inr (Or.inr (Or.inr (Or.inl ⟨rfl, by omega⟩))))))]; exact a14
/-- one run in thought with r rounds -/
theorem TC.think {j r : Nat} {d : Int32} {s t t1 : xS} {nm : Nat → Nat} {M X : xMem} (h : TC j d s t nm M X) (h1 : HB 1 t1 M) (hr : r ≤ 8) :
    ∃ s' u' N' σ' w' d' R, fR_goThrough (cM 1 (sTh r (sCp t t1)) (nCp M)) (36, 0, 0) (some (26, 0, j)) (some (1, 1, 0)) (some (39, 0, 0)) = some (cM 1 u' N') ∧ CFr M (cM 1 u' N') ∧ XW N' ∧ EQs s' u' ∧ INV s' ∧ (cM 1 u' N').1 (36, 0, 0) 0 = nI σ' ∧ (cM 1 u' N').1 (36, 0, 0) 1 = w'
      ∧ fM_runsInThought X (44, 0, 0) (nI r) = some R ∧ mM d' s R = R ∧ TC j d' s t nm (cM 1 u' N') R ∧ AgX X R ∧ (∀ x, x < 26 → R.1 (71, 0, 0) x = X.1 (71, 0, 0) x) ∧ R.1 (44, 0, 0) 47 = nI σ' ∧ R.1 (44, 0, 0) 48 = w' ∧ R.1 (44, 0, 0) 50 = nI (s'.1 19 2) - nI (s.1 19 2) ∧ R.1 (44, 0, 0) 51 = nI (qHow s' (fun _ => true) 1) := by
  obtain ⟨a1, a2, a3, a4, a5, a6, a7, a8, a9, a10, a11, a12⟩ := h
  obtain ⟨s', u', N', σ', w', d', R, c1, c2, c3, c4, c5, c6, c7, c8, c9, c10, c11, c12, c13⟩ := THINK (t1 := t1) (r := r) a1 a2 a3 a7 a8 a9 a10 a11 a12 hr
  have hC : CFr M (cM 1 u' N') := CFr_RFr c2
  have hA2 : AgX X (mM d' s R) := ⟨fun a x hk => (kpX_out hk).trans (c8.1 a x hk), fun a x hk => (mM_L (by unfold kpL at hk; omega)).trans (c8.2.1 a x hk), c8.2.2⟩
  have h71 : ∀ x, x < 26 → (mM d' s R).1 (71, 0, 0) x = X.1 (71, 0, 0) x := fun x hx => mM_71.trans (c9 x hx)
  have hRR : mM d' s (mM d' s R) = mM d' s R := mM_mM
  have hTC : TC j d s t nm M X := ⟨a1, a2, a3, a4, a5, a6, a7, a8, a9, a10, a11, a12⟩
  exact ⟨s', u', N', σ', w', d', mM d' s R, c1, hC, c2.2.2.1, c3, c4, (cM_out (Or.inr (Or.inr (by decide)))).trans c5, (cM_out (Or.inr (Or.inr (by decide)))).trans c6, c7, hRR, hTC.go hC HB_cM hA2 h71 hRR, hA2, h71, (mM_oF (by decide)).trans c10, (mM_oF (by decide)).trans c11, (mM_oF (by decide)).trans c12, (mM_oF (by decide)).trans c13⟩
theorem DRY {j : Nat} {d : Int32} {s t : xS} {nm : Nat → Nat} {M X : xMem} {a0 : Int32} (hW : XW M) (hWX : XW X) (hM : mM d s X = X) (h1 : ∃ t1, HB 1 t1 M) (hf : (M.1 (0, 0, 0) 9 = 0 ∧ X.1 (44, 0, 0) 46 = 0) ∨ (M.1 (0, 0, 0) 9 = 1 ∧ X.1 (44, 0, 0) 46 = 1 ∧ TC j d s t nm M X)) :
    ∃ v M' R d' u, fX_dry M (0, 0, 0) a0 = some (v, M') ∧ fM_dry X (44, 0, 0) a0 = some (v, R) ∧ CFr M M' ∧ HB 1 u M' ∧ mM d' s R = R ∧ AgX X R ∧ ∀ x, x < 26 → R.1 (71, 0, 0) x = X.1 (71, 0, 0) x := by
  obtain ⟨t1, h1⟩ := h1
  have ok : okI 0 3 a0 = true ↔ (¬ a0 < 0 ∧ ¬ (3 : Int32) < a0) := by
    unfold okI
    constructor
    · intro h
      by_cases c1 : a0 < nI 0
      · rw [if_pos c1] at h; cases h
      · rw [if_neg c1] at h
        by_cases c2 : nI 3 < a0
        · rw [if_pos c2] at h; cases h
        · exact ⟨c1, c2⟩
    · rintro ⟨c1, c2⟩
      rw [if_neg (show ¬ a0 < nI 0 from c1), if_neg (show ¬ nI 3 < a0 from c2)]
  have no : fX_dry M (0, 0, 0) a0 = some (-2000000000, M) → fM_dry X (44, 0, 0) a0 = some (-2000000000, X) → ∃ v M' R d' u, fX_dry M (0, 0, 0) a0 = some (v, M') ∧ fM_dry X (44, 0, 0) a0 = some (v, R) ∧ CFr M M' ∧ HB 1 u M' ∧ mM d' s R = R ∧ AgX X R ∧ ∀ x, x < 26 → R.1 (71, 0, 0) x = X.1 (71, 0, 0) x := fun e1 e2 => ⟨_, M, X, d, t1, e1, e2, CFr.rfl' hW, h1, hM, AgX.rfl', fun _ _ => rfl⟩
  by_cases hok : okI 0 3 a0 = true
  · obtain ⟨c1, c2⟩ := ok.mp hok
    rcases hf with ⟨f1, f2⟩ | ⟨f1, f2, hT⟩
    · refine no ?_ ?_
      · unfold fX_dry
        rw [if_neg c1, if_neg c2, xgI_w hW sh_0, Option.bind_some, f1, if_pos rfl]
      · unfold fM_dry
        rw [isIn_03, Option.bind_some]
        dsimp only
        rw [if_neg (by rw [hok]; decide), xgI_w hWX sh_44, Option.bind_some, f2, if_pos rfl]
    · obtain ⟨s', u', N', σ', w', d', R, g1, g2, g3, g4, g5, g6, g7, g8, g9, g10, g11, g12, g13, g14, g15, g16⟩ := hT.think h1 (r := 0) (by decide)
      have hWR : XW R := g11.W hWX
      have hWu : XW (cM 1 u' N') := g3
      have b7 : (cM 1 u' N').1 (1, 1, 0) 7 = nI (u'.1 19 2) := cM_rT (e := 0) rfl
      have k7 : (cM 1 u' N').1 (1, 0, 0) 7 = nI (t.1 19 2) := (g10.2.2.2.2.1).1 1 0 7 _ (cI_T (e := 0) rfl)
      have hE := hT.2.2.2.2.2.2.2.1
      have hI := hT.2.2.2.2.2.2.2.2.1
      have hU := hT.2.2.2.2.2.2.2.2.2.1
      refine ⟨if a0 = 0 then nI σ' else if a0 = 1 then w' else if a0 = 2 then nI (s'.1 19 2) - nI (s.1 19 2) else nI (qHow s' (fun _ => true) 1), cM 1 u' N', R, d', u', ?_, ?_, g2, HB_cM, g9, g11, g12⟩
      · unfold fX_dry
        rw [if_neg c1, if_neg c2, xgI_w hW sh_0, Option.bind_some, f1, if_neg (by decide), tR_1 hW, Option.bind_some, tR_0 hW, Option.bind_some, xob_w hW (sh_1 (by decide)), Option.bind_some, D_cpy hW (by decide) (by decide) (by decide) (hE.inv hI) hU hT.2.2.2.2.1 h1, Option.bind_some]
        refine (TH_c (b := 1) (t0 := sCp t t1) hW hT.2.2.1 hT.2.2.2.1 rfl g1).trans ?_
        by_cases k0 : a0 = 0
        · rw [if_pos k0, if_pos k0, tR_10 hWu, Option.bind_some, xgI_w hWu sh_36, Option.bind_some, g6]
        · rw [if_neg k0, if_neg k0]
          by_cases k1 : a0 = 1
          · rw [if_pos k1, if_pos k1, tR_10 hWu, Option.bind_some, xgI_w hWu sh_36, Option.bind_some, g7]
          · rw [if_neg k1, if_neg k1]
            by_cases k2 : a0 = 2
            · rw [if_pos k2, if_pos k2, tR_1 hWu, Option.bind_some, xgI_w hWu (sh_1 (by decide)), Option.bind_some, b7, tR_0 hWu, Option.bind_some, xgI_w hWu (sh_1 (by decide)), Option.bind_some, k7, g4.n (j := 2) (by decide), hE.n (j := 2) (by decide)]
            · have hh := D_howMany (b := 1) (t := u') (Y := N') (v := 1) (w := (-1 : Int32)) (S := fun _ => true) g3 (by decide) (g4.inv g5) (by decide) (fun x _ => propext ⟨fun _ => rfl, fun _ => Or.inl rfl⟩)
              rw [if_neg k2, if_neg k2, tR_1 hWu, Option.bind_some, tR_p hWu (by decide), Option.bind_some, xob_w hWu (sh_2 (by decide)), Option.bind_some, show fA_howMany (cM 1 u' N') (2, 1, 0) (-1 : Int32) (1 : Int32) = _ from hh, Option.bind_some, g4.how g5.R]
      · unfold fM_dry
        rw [isIn_03, Option.bind_some]
        dsimp only
        rw [if_neg (by rw [hok]; decide), xgI_w hWX sh_44, Option.bind_some, f2, if_neg (by decide), xob_w hWX sh_44, Option.bind_some, kl_0, g8, Option.bind_some]
        by_cases k0 : a0 = nI 0
        · rw [if_pos k0, if_pos k0, xgI_w hWR sh_44, Option.bind_some, g13]
        · rw [if_neg k0, if_neg k0]
          by_cases k1 : a0 = 1
          · rw [if_pos k1, if_pos k1, xgI_w hWR sh_44, Option.bind_some, g14]
          · rw [if_neg k1, if_neg k1]
            by_cases k2 : a0 = 2
            · rw [if_pos k2, if_pos k2, xgI_w hWR sh_44, Option.bind_some, g15]
            · rw [if_neg k2, if_neg k2, xgI_w hWR sh_44, Option.bind_some, g16]
  · refine no ?_ ?_
    · unfold fX_dry
      by_cases c1 : a0 < 0
      · rw [if_pos c1]
      · rw [if_neg c1, if_pos (Classical.not_not.mp (fun e => hok (ok.mpr ⟨c1, e⟩)))]
    · unfold fM_dry
      rw [isIn_03, Option.bind_some]
      dsimp only
      rw [if_pos (by rw [bfal hok]; rfl)]
/-- tuned, from r rounds on -/
theorem TUN {j : Nat} {s t : xS} {nm : Nat → Nat} {a0 : Int32} : ∀ e r f g l2 l3 (d : Int32) (M X : xMem), r + e = 9 → 1 ≤ r → e < f → e < g → l2 ≤ 8 → TC j d s t nm M X →
    ∃ v M' R d' u, fX_tuned_28 f M (some (0, 0, 0)) a0 (nI l2) l3 (nI r) = some (v, M') ∧ fM_tuned_28 g X (some (44, 0, 0)) a0 (nI l2) l3 (nI r) = some (v, R) ∧ CFr M M' ∧ HB 1 u M' ∧ mM d' s R = R ∧ AgX X R ∧ ∀ x, x < 26 → R.1 (71, 0, 0) x = X.1 (71, 0, 0) x := by
  intro e
  induction e with
  | zero =>
    intro r f g l2 l3 d M X hr hr1 hf hg hl hT
    obtain ⟨f, rfl⟩ : ∃ q, f = q + 1 := ⟨f - 1, by omega⟩
    obtain ⟨g, rfl⟩ : ∃ q, g = q + 1 := ⟨g - 1, by omega⟩
    have hr : r = 9 := by omega
    subst hr
    obtain ⟨t1, h1⟩ := hT.2.2.2.2.2.1
    refine ⟨if a0 = 0 then nI l2 else l3, M, X, d, t1, ?_, ?_, CFr.rfl' hT.1, h1, hT.2.2.2.2.2.2.1, AgX.rfl', fun _ _ => rfl⟩
    · unfold fX_tuned_28
      rw [if_pos (by decide)]
      split <;> rfl
    · unfold fM_tuned_28
      rw [if_pos (by decide)]
      split <;> rfl
  | succ e ih =>
    intro r f g l2 l3 d M X hr hr1 hf hg hl hT
    obtain ⟨f, rfl⟩ : ∃ q, f = q + 1 := ⟨f - 1, by omega⟩
    obtain ⟨g, rfl⟩ : ∃ q, g = q + 1 := ⟨g - 1, by omega⟩
    obtain ⟨t1, h1⟩ := hT.2.2.2.2.2.1
    have hW := hT.1
    have hWX := hT.2.1
    have hE := hT.2.2.2.2.2.2.2.1
    have hI := hT.2.2.2.2.2.2.2.2.1
    have hU := hT.2.2.2.2.2.2.2.2.2.1
    obtain ⟨s', u', N', σ', w', d', R, g1, g2, g3, g4, g5, g6, g7, g8, g9, g10, g11, g12, g13, g14, g15, g16⟩ := hT.think h1 (r := r) (by omega)
    have hWR : XW R := g11.W hWX
    have hWu : XW (cM 1 u' N') := g3
    have b7 : (cM 1 u' N').1 (1, 1, 0) 7 = nI (u'.1 19 2) := cM_rT (e := 0) rfl
    have k7 : (cM 1 u' N').1 (1, 0, 0) 7 = nI (t.1 19 2) := (g10.2.2.2.2.1).1 1 0 7 _ (cI_T (e := 0) rfl)
    have hsth : sTh r (sCp t t1) = sAnew (sCp t t1) r ((sCp t t1).1 19 0) 0 := if_neg (by omega)
    have hIc : INV (sCp t t1) := (EQs.cp (t1 := t1) EQs.rfl' (hE.inv hI)).inv (hE.inv hI)
    rw [hsth] at g1
    have hcl : fX_tuned_28 (f + 1) M (some (0, 0, 0)) a0 (nI l2) l3 (nI r) = (if nI l2 = 0 then fX_tuned_28 f (cM 1 u' N') (some (0, 0, 0)) a0 (nI r) (nI (s'.1 19 2) - nI (s.1 19 2)) (nI (r + 1)) else if l3 ≤ nI (s'.1 19 2) - nI (s.1 19 2) then fX_tuned_28 f (cM 1 u' N') (some (0, 0, 0)) a0 (nI l2) l3 (nI (r + 1)) else fX_tuned_28 f (cM 1 u' N') (some (0, 0, 0)) a0 (nI r) (nI (s'.1 19 2) - nI (s.1 19 2)) (nI (r + 1))) := by
      have hWc : XW (cM 1 (sCp t t1) M) := hW
      rw [show fX_tuned_28 (f + 1) M (some (0, 0, 0)) a0 (nI l2) l3 (nI r) = _ from by unfold fX_tuned_28 fX_tuned_116 fX_tuned_122; rfl]
      rw [if_neg (show ¬ (8 : Int32) < nI r from by rw [show (8 : Int32) = nI 8 from rfl, nI_ltI (by decide) (by omega)]; omega), tR_1 hW, Option.bind_some, tR_0 hW, Option.bind_some, xob_w hW (sh_1 (by decide)), Option.bind_some, D_cpy hW (by decide) (by decide) (by decide) (hE.inv hI) hU hT.2.2.2.2.1 h1, Option.bind_some, tR_1 hWc, Option.bind_some, xob_w hWc (sh_1 (by decide)), Option.bind_some, D_startAnew hW (by decide) hIc hr1 (by omega), Option.bind_some]
      refine (TH_c (b := 1) (t0 := sAnew (sCp t t1) r ((sCp t t1).1 19 0) 0) hW hT.2.2.1 hT.2.2.2.1 rfl g1).trans ?_
      rw [tR_1 hWu, Option.bind_some, xgI_w hWu (sh_1 (by decide)), Option.bind_some, b7, tR_0 hWu, Option.bind_some, xgI_w hWu (sh_1 (by decide)), Option.bind_some, k7, g4.n (j := 2) (by decide), hE.n (j := 2) (by decide), nI_k1]
    have hml : fM_tuned_28 (g + 1) X (some (44, 0, 0)) a0 (nI l2) l3 (nI r) = (if nI l2 ≤ 0 then fM_tuned_28 g R (some (44, 0, 0)) a0 (nI r) (nI (s'.1 19 2) - nI (s.1 19 2)) (nI (r + 1)) else if nI (s'.1 19 2) - nI (s.1 19 2) < l3 then fM_tuned_28 g R (some (44, 0, 0)) a0 (nI r) (nI (s'.1 19 2) - nI (s.1 19 2)) (nI (r + 1)) else fM_tuned_28 g R (some (44, 0, 0)) a0 (nI l2) l3 (nI (r + 1))) := by
      rw [show fM_tuned_28 (g + 1) X (some (44, 0, 0)) a0 (nI l2) l3 (nI r) = _ from by unfold fM_tuned_28 fM_tuned_56 fM_tuned_64; rfl]
      rw [if_neg (show ¬ (8 : Int32) < nI r from by rw [show (8 : Int32) = nI 8 from rfl, nI_ltI (by decide) (by omega)]; omega), xob_w hWX sh_44, Option.bind_some, g8, Option.bind_some, xgI_w hWR sh_44, Option.bind_some, g15, nI_k1]
      rfl
    have go : ∀ l2' l3', l2' ≤ 8 → ∃ v M' R' d' u, fX_tuned_28 f (cM 1 u' N') (some (0, 0, 0)) a0 (nI l2') l3' (nI (r + 1)) = some (v, M') ∧ fM_tuned_28 g R (some (44, 0, 0)) a0 (nI l2') l3' (nI (r + 1)) = some (v, R') ∧ CFr M M' ∧ HB 1 u M' ∧ mM d' s R' = R' ∧ AgX X R' ∧ ∀ x, x < 26 → R'.1 (71, 0, 0) x = X.1 (71, 0, 0) x := fun l2' l3' hl' => by
      obtain ⟨v, M', R', d2, u, k1, k2, k3, k4, k5, k6, k7⟩ := ih (r + 1) f g l2' l3' d' (cM 1 u' N') R (by omega) (by omega) (by omega) (by omega) hl' g10
      exact ⟨v, M', R', d2, u, k1, k2, g2.tr k3, k4, k5, g11.tr k6, fun x hx => (k7 x hx).trans (g12 x hx)⟩
    rw [hcl, hml]
    by_cases c1 : l2 = 0
    · rw [if_pos (by rw [c1]; rfl), if_pos (by rw [c1]; decide)]
      exact go r _ (by omega)
    · rw [if_neg (show ¬ nI l2 = 0 from by rw [kl_0, nI_eq (by omega) (by decide)]; exact c1), if_neg (show ¬ nI l2 ≤ 0 from by rw [kl_0, nI_leI (by omega) (by decide)]; omega)]
      by_cases c2 : l3 ≤ nI (s'.1 19 2) - nI (s.1 19 2)
      · rw [if_pos c2, if_neg (fun e => by
          rw [Int32.lt_iff_toInt_lt] at e
          rw [Int32.le_iff_toInt_le] at c2
          omega)]
        exact go l2 l3 hl
      · rw [if_neg c2, if_pos (by
          rw [Int32.lt_iff_toInt_lt]
          rw [Int32.le_iff_toInt_le] at c2
          omega)]
        exact go r _ (by omega)
theorem TUNED {j : Nat} {d : Int32} {s t : xS} {nm : Nat → Nat} {M X : xMem} {a0 : Int32} (hW : XW M) (hWX : XW X) (hM : mM d s X = X) (h1 : ∃ t1, HB 1 t1 M) (hf : (M.1 (0, 0, 0) 9 = 0 ∧ X.1 (44, 0, 0) 46 = 0) ∨ (M.1 (0, 0, 0) 9 = 1 ∧ X.1 (44, 0, 0) 46 = 1 ∧ TC j d s t nm M X)) :
    ∃ v M' R d' u, fX_tuned M (0, 0, 0) a0 = some (v, M') ∧ fM_tuned X (44, 0, 0) a0 = some (v, R) ∧ CFr M M' ∧ HB 1 u M' ∧ mM d' s R = R ∧ AgX X R ∧ ∀ x, x < 26 → R.1 (71, 0, 0) x = X.1 (71, 0, 0) x := by
  obtain ⟨t1, h1⟩ := h1
  have no : ∀ v, fX_tuned M (0, 0, 0) a0 = some (v, M) → fM_tuned X (44, 0, 0) a0 = some (v, X) → ∃ v M' R d' u, fX_tuned M (0, 0, 0) a0 = some (v, M') ∧ fM_tuned X (44, 0, 0) a0 = some (v, R) ∧ CFr M M' ∧ HB 1 u M' ∧ mM d' s R = R ∧ AgX X R ∧ ∀ x, x < 26 → R.1 (71, 0, 0) x = X.1 (71, 0, 0) x := fun v e1 e2 => ⟨v, M, X, d, t1, e1, e2, CFr.rfl' hW, h1, hM, AgX.rfl', fun _ _ => rfl⟩
  have isIn_01 : fM_isIn X a0 (0 : Int32) (1 : Int32) = some (bI (okI 0 1 a0), X) := M_isInG
  by_cases c1 : a0 < 0
  · refine no (-1) ?_ ?_
    · unfold fX_tuned
      rw [if_pos c1]
    · unfold fM_tuned
      rw [isIn_01, Option.bind_some]
      dsimp only
      rw [if_pos (by unfold okI; rw [if_pos (show a0 < nI 0 from c1)]; rfl)]
  · by_cases c2 : a0 ≤ 1
    · have hok : okI 0 1 a0 = true := by
        have c2' : a0 ≤ nI 1 := c2
        unfold okI
        rw [if_neg (show ¬ a0 < nI 0 from c1), if_neg (fun e => by
          rw [Int32.lt_iff_toInt_lt] at e
          rw [Int32.le_iff_toInt_le] at c2'
          omega)]
      rcases hf with ⟨f1, f2⟩ | ⟨f1, f2, hT⟩
      · refine no (-5) ?_ ?_
        · unfold fX_tuned
          rw [if_neg c1, if_pos c2, xgI_w hW sh_0, Option.bind_some, f1, if_pos rfl]
        · unfold fM_tuned
          rw [isIn_01, Option.bind_some]
          dsimp only
          rw [if_neg (by rw [hok]; decide), xgI_w hWX sh_44, Option.bind_some, f2, if_pos rfl]
      · obtain ⟨v, M', R, d', u, k1, k2, k3⟩ := TUN (a0 := a0) 8 1 xF xF 0 (nI 0) d M X rfl (by decide) (by unfold xF; omega) (by unfold xF; omega) (by decide) hT
        refine ⟨v, M', R, d', u, ?_, ?_, k3⟩
        · unfold fX_tuned
          rw [if_neg c1, if_pos c2, xgI_w hW sh_0, Option.bind_some, f1, if_neg (by decide)]
          exact k1
        · unfold fM_tuned
          rw [isIn_01, Option.bind_some]
          dsimp only
          rw [if_neg (by rw [hok]; decide), xgI_w hWX sh_44, Option.bind_some, f2, if_neg (by decide)]
          exact k2
    · refine no (-1) ?_ ?_
      · unfold fX_tuned
        rw [if_neg c1, if_neg c2]
      · unfold fM_tuned
        rw [isIn_01, Option.bind_some]
        dsimp only
        rw [if_pos (by
          have : okI 0 1 a0 = false := by
            by_cases hh : okI 0 1 a0 = true
            · obtain ⟨w, rfl, -, hw⟩ := okI_v (by decide) (by decide) hh
              exact absurd (show nI w ≤ nI 1 from nI_le hw (by decide)) c2
            · exact bfal hh
          rw [this]; rfl)]
