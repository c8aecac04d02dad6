/-! image, back -/
theorem tR_2 {M : xMem} (hW : XW M) : xgR M (some (0, 0, 0)) 7 2 = some (some (1, 2, 0)) := (xgR_w hW sh_0 (by decide) (by decide) rfl).trans rfl
theorem HB.n {b : Nat} {t : xS} {M : xMem} (h : HB b t M) : M.1 (1, b, 0) 4 = nI (t.1 19 0) := h.1 1 0 4 _ (cI_T (e := 0) rfl)
theorem C_image {M : xMem} {t t2 : xS} (hW : XW M) (hI : INV t) (hU : UC t) (h0 : HB 0 t M) (h2 : HB 2 t2 M) : fX_image M (0, 0, 0) = some (nI (t.1 19 0), xsi (cM 2 (sCp t t2) M) (0, 0, 0) 3 1) := by
  have hW2 : XW (cM 2 (sCp t t2) M) := hW
  have hW3 : XW (xsi (cM 2 (sCp t t2) M) (0, 0, 0) 3 1) := hW
  unfold fX_image
  rw [tR_2 hW, Option.bind_some, tR_0 hW, Option.bind_some, xob_w hW (sh_1 (by decide)), Option.bind_some, D_cpy hW (by decide) (by decide) (by decide) hI hU h0 h2, Option.bind_some, xpZ_w hW2 sh_0 (Or.inr rfl), Option.bind_some, tR_0 hW3, Option.bind_some, xgI_w hW3 (sh_1 (by decide)), Option.bind_some, xsi_1, if_neg (fun e => absurd e.1 (by decide)), cM_o (Or.inl (by decide)), h0.n]
theorem C_back {M : xMem} {t tK : xS} (hW : XW M) (hI : INV tK) (hU : UC tK) (h0 : HB 0 t M) (h2 : HB 2 tK M) (hm : M.1 (0, 0, 0) 3 = 1) : fX_back M (0, 0, 0) = some (nI (tK.1 19 0), cM 0 (sCp tK t) M) := by
  have hW2 : XW (cM 0 (sCp tK t) M) := hW
  unfold fX_back
  rw [xgI_w hW sh_0, Option.bind_some, hm, if_neg (by decide), tR_0 hW, Option.bind_some, tR_2 hW, Option.bind_some, xob_w hW (sh_1 (by decide)), Option.bind_some, D_cpy hW (by decide) (by decide) (by decide) hI hU h2 h0, Option.bind_some, tR_0 hW2, Option.bind_some, xgI_w hW2 (sh_1 (by decide)), Option.bind_some, (HB_cM (b := 0) (t := sCp tK t) (Y := M)).n, sCp_n (by decide) (by decide) (by decide)]
theorem C_back0 {M : xMem} (hW : XW M) (hm : M.1 (0, 0, 0) 3 = 0) : fX_back M (0, 0, 0) = some (-5, M) := by
  unfold fX_back
  rw [xgI_w hW sh_0, Option.bind_some, hm, if_pos rfl]
theorem M_image {d : Int32} {s : xS} {M : xMem} (hW : XW M) (hM : mM d s M = M) : ∃ F, fM_image M (44, 0, 0) = some (nI (s.1 19 0), F) ∧ mM d s F = F ∧ KPm 0 (mM d s (xsi M (44, 0, 0) 32 1)) F ∧ FrK 0 (xsi M (44, 0, 0) 32 1) F := by
  have hW1 : XW (xsi M (44, 0, 0) 32 1) := hW
  have e1 : mM d s (xsi M (44, 0, 0) 32 1) = xsi M (44, 0, 0) 32 1 := by rw [← mM_oF' (by decide), hM]
  obtain ⟨F, h1, h2, h3⟩ := M_allTo (w := 0) hW1 (by decide)
  have hF : mM d s F = F := FrK_abs (w := 0) (X := xsi M (44, 0, 0) 32 1) (by rw [e1]; exact h3)
  have hWF : XW F := by unfold XW at hW ⊢; rw [h3.2.2]; exact hW
  refine ⟨F, ?_, hF, by rw [e1]; exact h2, h3⟩
  unfold fM_image
  rw [xpZ_w hW sh_44 (Or.inr rfl), Option.bind_some, xob_w hW1 sh_44, Option.bind_some, show fM_passesAll (xsi M (44, 0, 0) 32 1) (44, 0, 0) (0 : Int32) (1 : Int32) = some F from h1, Option.bind_some, xgI_w hWF sh_44, Option.bind_some]
  have e13 : F.1 (44, 0, 0) 13 = nI (s.1 19 0) := by rw [← hF]; rfl
  rw [e13]
theorem M_back0 {M : xMem} (hW : XW M) (hm : M.1 (44, 0, 0) 32 = 0) : fM_back M (44, 0, 0) = some (-5, M) := by
  unfold fM_back
  rw [xgI_w hW sh_44, Option.bind_some, hm, if_pos rfl]
theorem M_back {d dK : Int32} {s sK : xS} {M XK : xMem} (hW : XW M) (hM : mM d s M = M) (hm : M.1 (44, 0, 0) 32 = 1) (hK : KPm 0 (mM dK sK XK) M) : ∃ d' R, fM_back M (44, 0, 0) = some (nI (sK.1 19 0), mM d' sK R) ∧ AgX M R ∧ ∀ x, R.1 (71, 0, 0) x = M.1 (71, 0, 0) x := by
  obtain ⟨R, h1, h2, h13, h14, -, h57, hf, hl, h22⟩ := M_allFr (w := 0) hW (by decide) hK
  have hWR : XW R := by unfold XW at hW ⊢; rw [h22]; exact hW
  have e15 : R.1 (44, 0, 0) 15 = nI (s.1 19 2) + d := by
    rw [hf _ _ inLK_44 (fun e => by omega) (fun e => absurd e.2.1 (by decide)), ← hM]; rfl
  have ha : mM (nI (s.1 19 2) + d - nI (sK.1 19 2)) sK R = R := mM_of h2 h13 h14 (e15.trans (sub_add_i _ _).symm) h57
  refine ⟨nI (s.1 19 2) + d - nI (sK.1 19 2), R, ?_, ⟨fun a x hk => ?_, fun a x hx => ?_, h22⟩, fun x => ?_⟩
  · unfold fM_back
    rw [xgI_w hW sh_44, Option.bind_some, hm, if_neg (by decide), xob_w hW sh_44, Option.bind_some, show fM_passesAll M (44, 0, 0) (0 : Int32) (0 : Int32) = some R from h1, Option.bind_some, xgI_w hWR sh_44, Option.bind_some, h13, ha]
    rfl
  · exact hf a x (kpX_LK hk) (fun e => by
      have e1 : a.1 = 44 := by rw [e.1]
      unfold kpX at hk; omega) (fun e => absurd e.1 (by decide))
  · exact hl _ _ (fun e => by
      have e1 : a.1 = 57 := by rw [e.1]
      unfold kpL at hx; omega)
  · exact hf _ _ (fun ⟨r, hr, e, _⟩ => by
      have h1 : ∀ r ∈ LK, r.1 ≠ 71 := by decide
      exact h1 r hr (Prod.mk.inj e).1.symm) (fun e => absurd e.1 (by decide)) (fun e => absurd e.1 (by decide))
