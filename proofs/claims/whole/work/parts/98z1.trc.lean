/-! a trace is read to its end -/
def FrT0 (j : Nat) (M M' : xMem) : Prop := (∀ a x, ¬ (26 ≤ a.1 ∧ a.1 ≤ 34 ∧ a.2.2 = j) → M'.1 a x = M.1 a x) ∧ M'.2 = M.2
theorem FrT.z {j R : Nat} {M M' : xMem} (h : FrT j R M M') : FrT0 j M M' := h.2
theorem FrT0.tr {j : Nat} {M M' M'' : xMem} (h : FrT0 j M M') (h2 : FrT0 j M' M'') : FrT0 j M M'' := ⟨fun a x e => (h2.1 a x e).trans (h.1 a x e), h2.2.trans h.2⟩
theorem FrT0.t25 {j : Nat} {M M' : xMem} (h : FrT0 j M M') : M'.1 (25, 0, 0) = M.1 (25, 0, 0) := by
  funext x; exact h.1 _ _ (fun e => by have := e.1; omega)
theorem sg_f0 {j L : Nat} {M M' : xMem} (h : FrT0 j M M') (q : Nat) : sg L M' q = sg L M q := by
  unfold sg; rw [h.t25]
theorem sgm_f {L : Nat} {X X' : xMem} (h : FrM X X') (q : Nat) : sgm L X' q = sgm L X q := h.sgm L q
def clM (j p R o n : Nat) (M : xMem) : xMem := xsi (xsi (pAr j 6 R (xsi (pAt j (p + 1) M) (33, 0, j) 1 (nI n))) (32, 0, j) R (nI o)) (32, 0, j) o (nI R)
theorem TS.cls {j L p R o : Nat} {rest : List Nat} {M : xMem} (h : TS j L p R (o :: rest) M) (hR : R < 100) : TS j L (p + 1) R rest (xsi (pAt j (p + 1) M) (33, 0, j) 1 (nI rest.length)) ∧ TS j L (p + 1) (R + 1) rest (clM j p R o rest.length M) := by
  have key : TS j L (p + 1) R rest (xsi (pAt j (p + 1) M) (33, 0, j) 1 (nI rest.length)) := by
    obtain ⟨h1, h2, h3, h4, h5', h6, h7, h8, h9, h10, h11⟩ := h.at (p' := p + 1)
    rw [List.length_cons] at h5'
    have n26 : ∀ q, (xsi (pAt j (p + 1) M) (33, 0, j) 1 (nI rest.length)).1 (26, 0, j) q = (pAt j (p + 1) M).1 (26, 0, j) q := fun q => by
      rw [xsi_1, if_neg (fun e => absurd (Prod.mk.inj e.1).1 (by decide))]
    exact ⟨h1, h2, h3, h4, by omega, h6, by rw [n26]; exact h7, by rw [n26]; exact h8, by rw [n26]; exact h9, by rw [xsi_1, if_pos ⟨rfl, rfl⟩], plL_w h11.2 (fun i _ => by rw [xsi_1, if_neg (fun e => absurd (Prod.mk.inj e.1).1 (by decide))])⟩
  exact ⟨key, ((key.add (a := 6) hR).setr (by decide)).setr (by decide)⟩
theorem cl_fr {j p R o n : Nat} {M : xMem} : FrT0 j M (clM j p R o n M) := by
  unfold clM pAr pAt
  refine ⟨fun a x e => ?_, rfl⟩
  have ne : ∀ κ : Nat, 26 ≤ κ → κ ≤ 34 → ∀ k, ¬ (a = (κ, 0, j) ∧ x = k) := fun κ h1 h2 k e2 => e (by rw [e2.1]; exact ⟨h1, h2, rfl⟩)
  rw [xsi_1, if_neg (ne 32 (by decide) (by decide) _), xsi_1, if_neg (ne 32 (by decide) (by decide) _), xsi_1, if_neg (ne 26 (by decide) (by decide) _), xsi_1, if_neg (ne 27 (by decide) (by decide) _), xsi_1, if_neg (ne 33 (by decide) (by decide) _), xsi_1, if_neg (ne 26 (by decide) (by decide) _)]
/-- one bracket closed, by the class -/
theorem T_cls {j L p R o f : Nat} {rest : List Nat} {M : xMem} (h : TS j L p R (o :: rest) M) (hR : R < 100) (ho : o < R) (hp : p ≤ 100) : fT_readCloses_8 (f + 1) M (some (26, 0, j)) (nI (rest.length + 1)) = if sg L M p = nI 41 then fT_readCloses_8 f (clM j p R o rest.length M) (some (26, 0, j)) (nI rest.length) else some M := by
  have hj := h.2.1
  have h1 : TS j L (p + 1) R (o :: rest) (pAt j (p + 1) M) := h.at
  obtain ⟨h2, h3⟩ := h.cls hR
  have hl := h.2.2.2.2.1
  rw [List.length_cons] at hl
  have h4 : TS j L (p + 1) (R + 1) rest (pAr j 6 R (xsi (pAt j (p + 1) M) (33, 0, j) 1 (nI rest.length))) := h2.add hR
  have h5 : TS j L (p + 1) (R + 1) rest (xsi (pAr j 6 R (xsi (pAt j (p + 1) M) (33, 0, j) 1 (nI rest.length))) (32, 0, j) R (nI o)) := h4.setr (by decide)
  have e33 : (pAt j (p + 1) M).1 (33, 0, j) 1 = nI (rest.length + 1) := h1.2.2.2.2.2.2.2.2.2.1
  have e34 : (xsi (pAt j (p + 1) M) (33, 0, j) 1 (nI rest.length)).1 (34, 0, j) rest.length = nI o := by
    rw [xsi_1, if_neg (fun e => absurd (Prod.mk.inj e.1).1 (by decide))]
    exact h1.2.2.2.2.2.2.2.2.2.2.1
  have r7 : xgR (pAt j (p + 1) M) (some (26, 0, j)) 6 7 = some (some (33, 0, j)) := (xgR_w h1.1 (sh_26 hj) (by decide) (by decide) rfl).trans rfl
  have hpop : fP_takeLatest (pAt j (p + 1) M) (33, 0, j) = some (nI o, xsi (pAt j (p + 1) M) (33, 0, j) 1 (nI rest.length)) := by
    unfold fP_takeLatest
    rw [xgI_w h1.1 (sh_33 hj), Option.bind_some, e33, if_neg (show ¬ nI (rest.length + 1) = 0 from by rw [kl_0, nI_eq (by omega) (by decide)]; omega), Option.bind_some, kl_1, pk_sub (by omega), Nat.add_sub_cancel, xpI_w h1.1 (sh_33 hj), Option.bind_some, show xgR (xsi (pAt j (p + 1) M) (33, 0, j) 1 (nI rest.length)) (some (33, 0, j)) 4 0 = some (some (34, 0, j)) from (xgR_w h2.1 (sh_33 hj) (by decide) (by decide) rfl).trans rfl, Option.bind_some, xgI_w h2.1 (sh_33 hj), Option.bind_some, xsi_1, if_pos ⟨rfl, rfl⟩, xaI_w h2.1 (sh_34 hj) (by omega) (by decide), Option.bind_some, e34]
  rw [show fT_readCloses_8 (f + 1) M (some (26, 0, j)) (nI (rest.length + 1)) = _ from by unfold fT_readCloses_8 fT_readCloses_69; rfl]
  rw [if_neg (show ¬ nI (rest.length + 1) ≤ (0 : Int32) from by rw [kl_0, nI_leI (by omega) (by decide)]; omega), h.o6, Option.bind_some, T_sign h hp, Option.bind_some]
  by_cases c1 : sg L M p = nI 41
  · rw [if_pos (show sg L M p = (41 : Int32) from c1), if_pos c1]
    dsimp only
    rw [if_neg (by decide), r7, Option.bind_some, xob_w h1.1 (sh_33 hj), Option.bind_some, hpop, Option.bind_some]
    dsimp only
    rw [h2.o6, Option.bind_some, show fT_addRow (xsi (pAt j (p + 1) M) (33, 0, j) 1 (nI rest.length)) (26, 0, j) (6 : Int32) = _ from T_add h2 hR, Option.bind_some]
    dsimp only
    rw [h4.tr (k := 5) (by decide), Option.bind_some, h4.o6, Option.bind_some, T_set h4 (by decide), Option.bind_some, if_neg (show ¬ nI o < (0 : Int32) from nI_pos (by omega)), show xsi (pAr j 6 R (xsi (pAt j (p + 1) M) (33, 0, j) 1 (nI rest.length))) (27 + 5, 0, j) R (nI o) = xsi (pAr j 6 R (xsi (pAt j (p + 1) M) (33, 0, j) 1 (nI rest.length))) (32, 0, j) R (nI o) from rfl, h5.gI, Option.bind_some, h5.2.2.2.2.2.2.2.2.1, if_neg (show ¬ nI (R + 1) ≤ nI o from by rw [nI_leI (by omega) (by omega)]; omega), h5.tr (k := 5) (by decide), Option.bind_some, Option.bind_some, kl_1, pk_sub (by omega), Nat.add_sub_cancel, xuI_w h5.1 (h5.shr (k := 32) (by decide)) (by omega) (by decide), Option.bind_some]
    have e1 : nI (rest.length + 1) + (-1 : Int32) = nI rest.length := pk_m1 _
    rw [show nI (rest.length + 1) + -nI 1 = nI rest.length from e1]
    rfl
  · rw [if_neg (show ¬ sg L M p = (41 : Int32) from c1), if_neg c1]
    dsimp only
    rw [if_pos rfl]
/-- closes, on both sides -/
theorem CLOSES {j L : Nat} {τ : Nat → Int32} : ∀ (st : List Nat) (p R : Nat) (tp : Nat → Nat) (M X : xMem) (f g : Nat), TS j L p R st M → MT L p st.length X → (∀ q, sgm L X q = sg L M q) → M.1 (25, 0, 0) = τ → PGs j M τ L R tp st p false → st.length < f → st.length < g → ∃ p' R' tp' st' M' X', fT_readCloses_8 f M (some (26, 0, j)) (nI st.length) = some M' ∧ fM_readsBetween_0 g X (some (44, 0, 0)) = fM_readsBetween_31 X' (some (44, 0, 0)) ∧ TS j L p' R' st' M' ∧ MT L p' st'.length X' ∧ PGs j M' τ L R' tp' st' p' false ∧ FrT0 j M M' ∧ FrM X X' ∧ p ≤ p' := by
  intro st
  induction st with
  | nil =>
    intro p R tp M X f g h hm hτ hM hP hf hg
    obtain ⟨f, rfl⟩ : ∃ q, f = q + 1 := ⟨f - 1, by have : 0 < f := hf; omega⟩
    obtain ⟨g, rfl⟩ : ∃ q, g = q + 1 := ⟨g - 1, by have : 0 < g := hg; omega⟩
    refine ⟨p, R, tp, [], M, X, ?_, ?_, h, hm, hP, ⟨fun _ _ _ => rfl, rfl⟩, FrM.rfl', Nat.le_refl _⟩
    · unfold fT_readCloses_8
      rw [if_pos (by decide)]
    · unfold fM_readsBetween_0
      rw [hm.gI, Option.bind_some, hm.2.2.2, if_pos (by decide)]
  | cons o rest ih =>
    intro p R tp M X f g h hm hτ hM hP hf hg
    rw [List.length_cons] at hf hg hm ⊢
    obtain ⟨f, rfl⟩ : ∃ q, f = q + 1 := ⟨f - 1, by omega⟩
    obtain ⟨g, rfl⟩ : ∃ q, g = q + 1 := ⟨g - 1, by omega⟩
    have hL := h.2.2.1
    have hl := h.2.2.2.2.1
    rw [List.length_cons] at hl
    have hpL := hP.2.1
    have hRp := hP.1
    have hoR : o < R := stk_lt (op := opB j M) (cl := clB j M) (by rw [hP.2.2.2.2.2.2.1]; exact List.mem_cons_self)
    have hmb : fM_readsBetween_0 (g + 1) X (some (44, 0, 0)) = if sg L M p = nI 41 then fM_readsBetween_0 g (xsi (mAt (p + 1) X) (44, 0, 0) 45 (nI rest.length)) (some (44, 0, 0)) else fM_readsBetween_31 X (some (44, 0, 0)) := by
      have m1 : MT L (p + 1) (rest.length + 1) (mAt (p + 1) X) := hm.at
      rw [show fM_readsBetween_0 (g + 1) X (some (44, 0, 0)) = _ from by unfold fM_readsBetween_0; rfl]
      rw [hm.gI, Option.bind_some, hm.2.2.2, if_neg (show ¬ nI (rest.length + 1) ≤ (0 : Int32) from by rw [kl_0, nI_leI (by omega) (by decide)]; omega), hm.ob, Option.bind_some, show fM_reads X (44, 0, 0) (41 : Int32) (41 : Int32) = _ from S_reads hm hL (by omega), Option.bind_some, hτ]
      by_cases c1 : sg L M p = nI 41
      · rw [if_pos (okI_1 (a := 41) (by decide) c1), if_pos c1]
        dsimp only
        rw [if_neg (by decide), m1.gI, Option.bind_some, m1.2.2.2, kl_1, pk_sub (by omega), Nat.add_sub_cancel, m1.pI, Option.bind_some]
      · rw [if_neg (okI_0 (a := 41) (by decide) c1), if_neg c1]
        dsimp only
        rw [if_pos rfl]
    by_cases c1 : sg L M p = nI 41
    · have b1 : p < L := by
        by_cases hh : p < L
        · exact hh
        · unfold sg at c1; rw [if_neg hh] at c1; exact absurd c1 (by decide)
      have t41 : τ p = nI 41 := by
        have : sg L M p = M.1 (25, 0, 0) p := if_pos b1
        rw [← hM, ← this]; exact c1
      have hR : R < 100 := by omega
      rw [if_pos c1] at hmb
      have hcl := T_cls (f := f) h hR hoR (by omega)
      rw [if_pos c1] at hcl
      have m1 : MT L (p + 1) (rest.length + 1) (mAt (p + 1) X) := hm.at
      have m2 : MT L (p + 1) rest.length (xsi (mAt (p + 1) X) (44, 0, 0) 45 (nI rest.length)) := ⟨m1.1, by rw [xsi_1, if_neg (by decide)]; exact m1.2.1, by rw [xsi_1, if_neg (by decide)]; exact m1.2.2.1, by rw [xsi_1, if_pos ⟨rfl, rfl⟩]⟩
      have fm : FrM X (xsi (mAt (p + 1) X) (44, 0, 0) 45 (nI rest.length)) := (FrM.rfl'.w (Or.inl rfl)).w (Or.inr rfl)
      have fc := cl_fr (j := j) (p := p) (R := R) (o := o) (n := rest.length) (M := M)
      have hP' : PGs j (clM j p R o rest.length M) τ L (R + 1) (fun r => if r = R then p else tp r) rest (p + 1) false := by
        refine hP.close (fun k r k1 k2 hr hk => ?_) ?_ t41 (by omega) ?_ ?_
        · unfold clM pAr pAt
          rw [xsi_1, if_neg (fun e => hk ⟨(Prod.mk.inj e.1).1, e.2⟩), xsi_1, if_neg (fun e => by omega), xsi_1, if_neg (fun e => by have := (Prod.mk.inj e.1).1; omega), xsi_1, if_neg (fun e => by omega), xsi_1, if_neg (fun e => by have := (Prod.mk.inj e.1).1; omega), xsi_1, if_neg (fun e => by have := (Prod.mk.inj e.1).1; omega)]
        · simp [clM, pAr, pAt, xsi_1]
        · unfold clM; rw [xsi_1, if_neg (fun e => by omega), xsi_1, if_pos ⟨rfl, rfl⟩]
        · unfold clM; rw [xsi_1, if_pos ⟨rfl, rfl⟩]
      obtain ⟨p', R', tp', st', M', X', g1, g2, g3, g4, g5, g6, g7, g8⟩ := ih (p + 1) (R + 1) _ (clM j p R o rest.length M) _ f g (h.cls hR).2 m2 (fun q => by rw [sgm_f fm, sg_f0 fc, hτ]) (by rw [fc.t25]; exact hM) hP' (by omega) (by omega)
      exact ⟨p', R', tp', st', M', X', hcl.trans g1, hmb.trans g2, g3, g4, g5, fc.tr g6, fm.tr g7, by omega⟩
    · rw [if_neg c1] at hmb
      have hcl : fT_readCloses_8 (f + 1) M (some (26, 0, j)) (nI (rest.length + 1)) = some M := by
        by_cases hR : R < 100
        · have := T_cls (f := f) h hR hoR (by omega)
          rw [if_neg c1] at this
          exact this
        · rw [show fT_readCloses_8 (f + 1) M (some (26, 0, j)) (nI (rest.length + 1)) = _ from by unfold fT_readCloses_8 fT_readCloses_69; rfl]
          rw [if_neg (show ¬ nI (rest.length + 1) ≤ (0 : Int32) from by rw [kl_0, nI_leI (by omega) (by decide)]; omega), h.o6, Option.bind_some, T_sign h (by omega), Option.bind_some, if_neg (show ¬ sg L M p = (41 : Int32) from c1)]
          dsimp only
          rw [if_pos rfl]
      exact ⟨p, R, tp, o :: rest, M, X, hcl, hmb, h, hm, hP, ⟨fun _ _ _ => rfl, rfl⟩, FrM.rfl', Nat.le_refl _⟩
