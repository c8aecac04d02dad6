/-! bins, names, feed, lines: calls with rows of their own -/
theorem FIN {α : Type} {f g : xMem → Option (α × xMem)} {M X Y X' : xMem} {d : Int32} {s' t' : xS} {v : α} (hWY : XW Y) (hWX : XW X') (h1 : f M = some (v, cM 0 t' Y)) (h2 : g X = some (v, mM d s' X')) (hE : EQs s' t') (hI : INV s') (hU : UC t') (hB : ∃ t1, HB 1 t1 Y) (hG : GS Y X') (c1 : CO M Y) (c2 : MO X X') : ∃ v M' X', f M = some (v, M') ∧ g X = some (v, X') ∧ LR2 M' X' ∧ CO M M' ∧ MO X X' := by
  obtain ⟨t1, hB⟩ := hB
  have k1 : CO Y (cM 0 t' Y) := CO_0
  have k2 : MO X' (mM d s' X') := MG_m.mo
  exact ⟨v, _, _, h1, h2, ⟨⟨d, s', t', hWY, hWX, mM_mM, hE, hI, hU, HB_cM, t1, hB.ov (by decide)⟩, hG.go (CG_0 hWY) MG_m⟩,
    ⟨fun a x h => (k1.1 a x h).trans (c1.1 a x h), fun a x h => (k1.2.1 a x h).trans (c1.2.1 a x h), k1.2.2.trans c1.2.2⟩, ⟨fun a x h => (k2.1 a x h).trans (c2.1 a x h), fun a x h => (k2.2.1 a x h).trans (c2.2.1 a x h), k2.2.2.trans c2.2.2⟩⟩
theorem FIN6 {α : Type} {f g : xMem → Option (α × xMem)} {M X Y X' : xMem} {d : Int32} {t1 s' t' : xS} {v : α} (hG : GS M X) (hWM : XW M) (hWX : XW X) (hB : HB 1 t1 M) (hY2 : Y.2 = M.2) (hY : ∀ a x, a.1 ≠ 42 → a.1 ≠ 43 → Y.1 a x = M.1 a x) (hX2 : X'.2 = X.2) (hX : ∀ a x, a.1 ≠ 79 → a.1 ≠ 80 → a.1 ≠ 81 → X'.1 a x = X.1 a x) (h6 : G6 Y X') (h1 : f M = some (v, cM 0 t' Y)) (h2 : g X = some (v, mM d s' X')) (hE : EQs s' t') (hI : INV s') (hU : UC t') : ∃ v M' X', f M = some (v, M') ∧ g X = some (v, X') ∧ LR2 M' X' ∧ CO M M' ∧ MO X X' := by
  have wY : XW Y := by unfold XW at hWM ⊢; rw [hY2]; exact hWM
  have wX : XW X' := by unfold XW at hWX ⊢; rw [hX2]; exact hWX
  have hr : ∀ a x, M.2.2.1 a x = Y.2.2.1 a x := fun a x => by rw [hY2]
  obtain ⟨a4, a5, -, a7, a8, a9⟩ := hG
  have cy : ∀ κ b i x : Nat, κ ≠ 42 → κ ≠ 43 → Y.1 (κ, b, i) x = M.1 (κ, b, i) x := fun κ b i x h1 h2 => hY (κ, b, i) x h1 h2
  have cx : ∀ κ b i x : Nat, κ ≠ 79 → κ ≠ 80 → κ ≠ 81 → X'.1 (κ, b, i) x = X.1 (κ, b, i) x := fun κ b i x h1 h2 h3 => hX (κ, b, i) x h1 h2 h3
  have hB2 : HB 1 t1 Y := hB.to (fun κ i k hk => Or.inl (cy _ _ _ _ (by omega) (by omega))) (fun κ i k hk => by rw [hY2])
  refine FIN wY wX h1 h2 hE hI hU ⟨t1, hB2⟩ ⟨a4.to (fun x => cy _ _ _ _ (by decide) (by decide)) (fun x _ => cx _ _ _ _ (by decide) (by decide) (by decide)),
      a5.to (fun x => cy _ _ _ _ (by decide) (by decide)) (fun x => cx _ _ _ _ (by decide) (by decide) (by decide)) (cy _ _ _ _ (by decide) (by decide)) (cx _ _ _ _ (by decide) (by decide) (by decide)), h6,
      a7.to (cy _ _ _ _ (by decide) (by decide)) (cx _ _ _ _ (by decide) (by decide) (by decide)),
      a8.to (fun k j x k1 k2 => cy _ _ _ _ (by omega) (by omega)) (fun x => cx _ _ _ _ (by decide) (by decide) (by decide)) (cx _ _ _ _ (by decide) (by decide) (by decide)) (cx _ _ _ _ (by decide) (by decide) (by decide)) (cy _ _ _ _ (by decide) (by decide)) (hr _ _).symm (hr _ _).symm,
      a9.to (fun κ i k hk _ _ => cy _ _ _ _ (by omega) (by omega)) (fun κ i k hk => by rw [hY2]) (cy _ _ _ _ (by decide) (by decide)) (cx _ _ _ _ (by decide) (by decide) (by decide)) (fun x hx => cx _ _ _ _ (by decide) (by decide) (by decide)) (fun x hx => by rw [hX2])⟩
    ⟨fun a x h => hY a x (by omega) (by omega), fun a x _ => by rw [hY2], by rw [hY2]⟩ ⟨fun a x h => hX a x (by omega) (by omega) (by omega), fun a x _ => by rw [hX2], by rw [hX2]⟩
theorem K_bin {a0 a1 : Int32} : CALL (fun M => fX_bin M (0, 0, 0) a0 a1) (fun X => fM_bin X (44, 0, 0) a0 a1) := by
  rintro M X ⟨⟨d, s, t, b1, b2, b3, b4, b5, b6, b7, t1, b8⟩, hG⟩
  obtain ⟨bs, bp, g1, g2⟩ := hG.2.2.1
  have e1 := C_bin (a0 := a0) (a1 := a1) b1
  have e2 := M_bin (d := d) (s := s) (a0 := a0) (a1 := a1) b2
  rw [b3] at e2
  have hE : ∀ {Y : xMem}, (if cN 4 a0 < 4 ∧ cN 41 a1 < 41 then cBin (cN 4 a0) (cN 41 a1) M else M) = Y → HB 0 t Y → fX_bin M (0, 0, 0) a0 a1 = some (rBin a0 a1, cM 0 t Y) := fun h hh => by rw [hh.eq, ← h]; exact e1
  by_cases hc : cN 4 a0 < 4 ∧ cN 41 a1 < 41
  · rw [if_pos hc] at e2
    have hb : ∀ a x, a.1 ≠ 42 → a.1 ≠ 43 → (cBin (cN 4 a0) (cN 41 a1) M).1 a x = M.1 a x := fun a x h1 h2 => by
      unfold cBin
      rw [xsi_1, if_neg (fun e => h2 (by rw [e.1])), pat_1, if_neg (fun e => h1 (by rw [(of_decide_eq_true e).1]))]
    exact FIN6 (f := fun M => fX_bin M (0, 0, 0) a0 a1) (g := fun X => fM_bin X (44, 0, 0) a0 a1) (v := rBin a0 a1) (d := d) (t' := t) (Y := cBin (cN 4 a0) (cN 41 a1) M) (X' := mBin (cN 4 a0) (cN 41 a1) X) hG b1 b2 b8 rfl hb rfl (fun a x h1 h2 h3 => by
      unfold mBin
      rw [xsi_1, if_neg (fun e => h2 (by rw [e.1])), pat_1, if_neg (fun e => h1 (by rw [(of_decide_eq_true e).1]))]) ⟨_, _, g1.bin hc.1 hc.2, g2.bin hc.1 hc.2⟩ (hE (if_pos hc) (b7.to (fun κ i k hk => Or.inl (hb _ _ (show κ ≠ 42 by omega) (show κ ≠ 43 by omega))) (fun _ _ _ _ => rfl))) e2 b4 b5 b6
  · rw [if_neg hc] at e2
    exact FIN6 (f := fun M => fX_bin M (0, 0, 0) a0 a1) (g := fun X => fM_bin X (44, 0, 0) a0 a1) (v := rBin a0 a1) (d := d) (t' := t) (Y := M) (X' := X) hG b1 b2 b8 rfl (fun _ _ _ _ => rfl) rfl (fun _ _ _ _ _ => rfl) ⟨bs, bp, g1, g2⟩ (hE (if_neg hc) b7) e2 b4 b5 b6
theorem K_lay {a0 a1 a2 : Int32} : CALL (fun M => fX_lay M (0, 0, 0) a0 a1 a2) (fun X => fM_lay X (44, 0, 0) a0 a1 a2) := by
  rintro M X ⟨⟨d, s, t, b1, b2, b3, b4, b5, b6, b7, t1, b8⟩, hG⟩
  obtain ⟨bs, bp, g1, g2⟩ := hG.2.2.1
  have e1 := C_lay (t := t) (Y := M) (a0 := a0) (a1 := a1) (a2 := a2) b1 (b4.inv b5) (by rw [b7.eq]; exact g1)
  have e2 := M_lay (d := d) (s := s) (a0 := a0) (a1 := a1) (a2 := a2) b2 b5 g2
  obtain ⟨o1, o2⟩ := rLay_ok (bs := bs) (a0 := a0) (a1 := a1) (a2 := a2) b4 b5
  rw [b3] at e2
  rw [b7.eq, o1, o2] at e1
  by_cases hc : (gLay s a0 a2 && kLay bs a0 a1) = true
  · rw [if_pos hc] at e1 e2
    obtain ⟨c1, c2⟩ := Bool.and_eq_true_iff.mp hc
    obtain ⟨v1, v2⟩ := lay_v c1
    have c3 := of_decide_eq_true c2
    exact FIN6 (f := fun M => fX_lay M (0, 0, 0) a0 a1 a2) (g := fun X => fM_lay X (44, 0, 0) a0 a1 a2) (v := rLay s bs a0 a1 a2) (Y := xsi M (42, 0, cN 4 a0) (cN (bs (cN 4 a0)) a1) a2) (X' := xsi X (79, 0, 0) (40 * cN 4 a0 + cN (bs (cN 4 a0)) a1) (if 0 ≤ a2 then a2 else -9)) hG b1 b2 b8 rfl (fun a x h1 h2 => by rw [xsi_1, if_neg (fun e => h1 (by rw [e.1]))]) rfl (fun a x h1 h2 h3 => by rw [xsi_1, if_neg (fun e => h1 (by rw [e.1]))]) ⟨_, _, g1.lay (by omega) v1, g2.lay v2⟩ e1 e2 b4 b5 b6
  · rw [if_neg hc] at e1 e2
    exact FIN6 (f := fun M => fX_lay M (0, 0, 0) a0 a1 a2) (g := fun X => fM_lay X (44, 0, 0) a0 a1 a2) (v := rLay s bs a0 a1 a2) (Y := M) (X' := X) hG b1 b2 b8 rfl (fun _ _ _ _ => rfl) rfl (fun _ _ _ _ _ => rfl) ⟨bs, bp, g1, g2⟩ e1 e2 b4 b5 b6
theorem UC.pour {bs : Nat → Nat} {k p : Nat} {a1 : Int32} (hp : p < 4) : ∀ {d i : Nat} {t : xS} {bp : Nat → Nat}, INV t → UC t → UC (sPour bs k p a1 d i t bp).2.1 := by
  intro d
  induction d with
  | zero => intro i t bp hI hU; exact hU
  | succ d ih =>
    intro i t bp hI hU
    unfold sPour
    by_cases h1 : xP t bs bp k (a1 + nI i) < 1984
    · have e17 : t.1 17 (xP t bs bp k (a1 + nI i)) = 1 := (live_ok (s := t) (a := en 32768 m1 (aP bs bp k (a1 + nI i))) h1).2
      have h13 := (hI.V h1 (by rw [e17]; decide)).1
      by_cases h2 : qFit t (xP t bs bp k (a1 + nI i)) = true
      · rw [if_pos ⟨h1, h2⟩]
        exact ih (hI.gives h1 e17 hp) (hU.k (UF.rfl'.gives (hI.R.pg (p := xP t bs bp k (a1 + nI i) / 62) (by omega) h13).1))
      · rw [if_neg (fun e => h2 e.2)]; exact hU
    · rw [if_neg (fun e => h1 e.1)]; exact hU
theorem K_pour {a0 a1 a2 a3 : Int32} : CALL (fun M => fX_pour M (0, 0, 0) a0 a1 a2 a3) (fun X => fM_pour X (44, 0, 0) a0 a1 a2 a3) := by
  rintro M X ⟨⟨d, s, t, b1, b2, b3, b4, b5, b6, b7, t1, b8⟩, hG⟩
  obtain ⟨bs, bp, g1, g2⟩ := hG.2.2.1
  obtain ⟨Y, y1, y2, y3, e1⟩ := C_pour (t := t) (Y := M) (a0 := a0) (a1 := a1) (a2 := a2) (a3 := a3) b1 (b4.inv b5) g1
  obtain ⟨X', x1, x2, x3, e2⟩ := M_pour (d := d) (s := s) (a0 := a0) (a1 := a1) (a2 := a2) (a3 := a3) b2 b5 g2
  obtain ⟨o1, o2, o3, o4⟩ := rPour_ok (bs := bs) (bp := bp) (a0 := a0) (a1 := a1) (a2 := a2) (a3 := a3) b4 b5
  rw [b3] at e2
  rw [b7.eq, o1] at e1
  have hU : UC (rPour t bs bp a0 a1 a2 a3).2.1 := by
    unfold rPour
    split
    · rename_i h
      exact UC.pour (of_decide_eq_true h).2.2 (b4.inv b5) b6
    · exact b6
  exact FIN6 (f := fun M => fX_pour M (0, 0, 0) a0 a1 a2 a3) (g := fun X => fM_pour X (44, 0, 0) a0 a1 a2 a3) (v := (rPour s bs bp a0 a1 a2 a3).1) (Y := Y) (X' := X') hG b1 b2 b8 y1 (fun a x h1 _ => y2 a x h1) x1 (fun a x h1 _ _ => x2 a x (fun e => h1 (by rw [e]))) ⟨_, _, y3, by rw [o2]; exact x3⟩ e1 e2 o3 o4 hU
theorem K_shift {a0 a1 a2 a3 a4 : Int32} : CALL (fun M => fX_shift M (0, 0, 0) a0 a1 a2 a3 a4) (fun X => fM_shift X (44, 0, 0) a0 a1 a2 a3 a4) := by
  rintro M X ⟨⟨d, s, t, b1, b2, b3, b4, b5, b6, b7, t1, b8⟩, hG⟩
  obtain ⟨bs, bp, g1, g2⟩ := hG.2.2.1
  have e1 := C_shift (a0 := a0) (a1 := a1) (a2 := a2) (a3 := a3) (a4 := a4) b1 g1
  obtain ⟨X', x1, x2, x3, e2⟩ := M_shift (d := d) (s := s) (a0 := a0) (a1 := a1) (a2 := a2) (a3 := a3) (a4 := a4) b2 g2
  rw [b3] at e2
  by_cases hc : gShift bs a0 a1 a2 a3 a4 = true
  · rw [if_pos hc] at e1 x3
    unfold gShift at hc
    obtain ⟨c1, c2⟩ := Bool.and_eq_true_iff.mp hc
    have d1 := of_decide_eq_true c1
    have d2 := of_decide_eq_true c2
    have hr := g1.shift (i := cN 41 a1) (i' := cN 41 a3) (n := cN 41 a4) d1.1 d2.1 (by omega) (by omega)
    have hb : ∀ a x, a.1 ≠ 42 → a.1 ≠ 43 → (cSh (cN 4 a0) (cN 41 a1) (cN 4 a2) (cN 41 a3) (cN 41 a4) M).1 a x = M.1 a x := fun a x h1 _ => by
      unfold cSh
      rw [xsri_1, if_neg (fun e => h1 (by rw [e]))]
    have h0 : HB 0 t (cSh (cN 4 a0) (cN 41 a1) (cN 4 a2) (cN 41 a3) (cN 41 a4) M) := b7.to (fun κ i k hk => Or.inl (hb _ _ (show κ ≠ 42 by omega) (show κ ≠ 43 by omega))) (fun _ _ _ _ => rfl)
    exact FIN6 (f := fun M => fX_shift M (0, 0, 0) a0 a1 a2 a3 a4) (g := fun X => fM_shift X (44, 0, 0) a0 a1 a2 a3 a4) (v := rShift bs a0 a1 a2 a3 a4) (Y := cSh (cN 4 a0) (cN 41 a1) (cN 4 a2) (cN 41 a3) (cN 41 a4) M) (X' := X') (t' := t) hG b1 b2 b8 rfl hb x1 (fun a x h1 _ h3 => x2 a x (fun e => h1 (by rw [e])) (fun e => h3 (by rw [e]))) ⟨_, _, hr, x3⟩ (by rw [h0.eq]; exact e1) e2 b4 b5 b6
  · rw [if_neg hc] at e1 x3
    exact FIN6 (f := fun M => fX_shift M (0, 0, 0) a0 a1 a2 a3 a4) (g := fun X => fM_shift X (44, 0, 0) a0 a1 a2 a3 a4) (v := rShift bs a0 a1 a2 a3 a4) (Y := M) (X' := X') (t' := t) hG b1 b2 b8 rfl (fun _ _ _ _ => rfl) x1 (fun a x h1 _ h3 => x2 a x (fun e => h1 (by rw [e])) (fun e => h3 (by rw [e]))) ⟨_, _, g1, x3⟩ (by rw [b7.eq]; exact e1) e2 b4 b5 b6
