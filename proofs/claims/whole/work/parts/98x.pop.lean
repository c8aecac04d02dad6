/-! brackets are opened -/
def tOp (j p R n : Nat) (M : xMem) : xMem := xsi (xsi (pAt j (p + 1) M) (34, 0, j) n (nI R)) (33, 0, j) 1 (nI (n + 1))
theorem TS.opn {j L p R : Nat} {st : List Nat} {M : xMem} (h : TS j L p (R + 1) st M) (h5 : st.length < 5) : TS j L (p + 1) (R + 1) (R :: st) (tOp j p R st.length M) := by
  obtain ⟨h1, h2, h3, h4, h5', h6, h7, h8, h9, h10, h11⟩ := h.at (p' := p + 1)
  have n26 : ∀ q, (tOp j p R st.length M).1 (26, 0, j) q = (pAt j (p + 1) M).1 (26, 0, j) q := fun q => by
    unfold tOp
    rw [xsi_1, if_neg (fun e => absurd (Prod.mk.inj e.1).1 (by decide)), xsi_1, if_neg (fun e => absurd (Prod.mk.inj e.1).1 (by decide))]
  have n34 : ∀ q, (tOp j p R st.length M).1 (34, 0, j) q = if q = st.length then nI R else (pAt j (p + 1) M).1 (34, 0, j) q := fun q => by
    unfold tOp
    rw [xsi_1, if_neg (fun e => absurd (Prod.mk.inj e.1).1 (by decide)), xsi_1]
    by_cases hq : q = st.length
    · rw [if_pos ⟨rfl, hq⟩, if_pos hq]
    · rw [if_neg (fun e => hq e.2), if_neg hq]
  refine ⟨h1, h2, h3, h4, by rw [List.length_cons]; omega, h6, by rw [n26]; exact h7, by rw [n26]; exact h8, by rw [n26]; exact h9, ?_, ?_, plL_w h11 (fun i hi => ?_)⟩
  · unfold tOp; rw [xsi_1, if_pos ⟨rfl, rfl⟩, List.length_cons]
  · rw [n34, if_pos rfl]
  · rw [n34, if_neg (by omega)]
theorem FrT.opn {j L p R n : Nat} {M M' : xMem} (h : FrT j R M M') : FrT j R M (tOp j p L n M') := (h.at.w (by decide) (by omega)).w (by decide) (by omega)
theorem T_open {j L p R : Nat} {st : List Nat} {M : xMem} (h : TS j L p (R + 1) st M) (hp : p ≤ 100) : fT_readOpen M (26, 0, j) = some (if st.length < 5 ∧ sg L M p = nI 40 then (1, tOp j p R st.length M) else (0, M)) := by
  have hr : ∀ M', XW M' → xgR M' (some (26, 0, j)) 6 7 = some (some (33, 0, j)) := fun M' hW => (xgR_w hW (sh_26 h.2.1) (by decide) (by decide) rfl).trans rfl
  have h5 := h.2.2.2.2.1
  unfold fT_readOpen
  rw [hr M h.1, Option.bind_some, xgI_w h.1 (sh_33 h.2.1), Option.bind_some, h.2.2.2.2.2.2.2.2.2.1]
  by_cases c1 : st.length < 5
  · rw [if_neg (show ¬ (5 : Int32) ≤ nI st.length from by rw [show (5 : Int32) = nI 5 from rfl, nI_leI (by decide) (by omega)]; omega), h.o6, Option.bind_some, T_sign h hp, Option.bind_some]
    by_cases c2 : sg L M p = nI 40
    · have h1 : TS j L (p + 1) (R + 1) st (pAt j (p + 1) M) := h.at
      have hs33 : ∀ M', XW M' → xgR M' (some (33, 0, j)) 4 0 = some (some (34, 0, j)) := fun M' hW => (xgR_w hW (sh_33 h.2.1) (by decide) (by decide) rfl).trans rfl
      have hW2 : XW (xsi (pAt j (p + 1) M) (34, 0, j) st.length (nI R)) := h1.1
      rw [if_pos (show sg L M p = (40 : Int32) from c2), if_pos (show st.length < 5 ∧ sg L M p = nI 40 from ⟨c1, c2⟩)]
      dsimp only
      rw [if_neg (by decide), hr _ h1.1, Option.bind_some, h1.gI, Option.bind_some, h1.2.2.2.2.2.2.2.2.1, xob_w h1.1 (sh_33 h.2.1), Option.bind_some, kl_1, pk_sub (by omega), Nat.add_sub_cancel]
      unfold fP_put tOp
      rw [xgI_w h1.1 (sh_33 h.2.1), Option.bind_some, h1.2.2.2.2.2.2.2.2.2.1, hs33 _ h1.1, Option.bind_some, xal_w h1.1 (sh_34 h.2.1) (by decide) (by decide), Option.bind_some, if_neg (show ¬ nI 5 ≤ nI st.length from by rw [nI_leI (by decide) (by omega)]; omega), Option.bind_some, Option.bind_some, xuI_w h1.1 (sh_34 h.2.1) c1 (by decide), Option.bind_some, xgI_w hW2 (sh_33 h.2.1), Option.bind_some, xsi_1, if_neg (fun e => absurd (Prod.mk.inj e.1).1 (by decide)), h1.2.2.2.2.2.2.2.2.2.1, kl_1, nI_add, xpI_w hW2 (sh_33 h.2.1), Option.bind_some, Option.bind_some]
    · rw [if_neg (show ¬ sg L M p = (40 : Int32) from c2), if_neg (show ¬ (st.length < 5 ∧ sg L M p = nI 40) from fun e => c2 e.2)]
      dsimp only
      rw [if_pos rfl]
  · rw [if_pos (show (5 : Int32) ≤ nI st.length from by rw [show (5 : Int32) = nI 5 from rfl]; exact nI_le (by omega) (by omega)), if_neg (show ¬ (st.length < 5 ∧ sg L M p = nI 40) from fun e => c1 e.1)]
def mOpn (p k : Nat) (X : xMem) : xMem := xsi (mAt (p + 1) X) (44, 0, 0) 45 (nI (k + 1))
theorem MT.opn {L p k : Nat} {X : xMem} (h : MT L p k X) : MT L (p + 1) (k + 1) (mOpn p k X) := by
  have h1 := h.at (p' := p + 1)
  unfold mOpn
  exact ⟨h1.1, by rw [xsi_1, if_neg (by decide)]; exact h1.2.1, by rw [xsi_1, if_neg (by decide)]; exact h1.2.2.1, by rw [xsi_1, if_pos ⟨rfl, rfl⟩]⟩
theorem S_opens {L p k : Nat} {X : xMem} (h : MT L p k X) (hL : L ≤ 100) (hp : p ≤ 200) (hk : k ≤ 5) : fM_opens X (44, 0, 0) = some (if k < 5 ∧ sgm L X p = nI 40 then (1, mOpn p k X) else (0, X)) := by
  have h1 : MT L (p + 1) k (mAt (p + 1) X) := h.at
  unfold fM_opens mOpn
  rw [h.gI, Option.bind_some, h.2.2.2]
  by_cases c1 : k < 5
  · rw [if_neg (show ¬ nI k = (5 : Int32) from fun e => by
      have e2 : nI k = nI 5 := e
      rw [nI_eq (by omega) (by decide)] at e2
      omega), h.ob, Option.bind_some, show fM_reads X (44, 0, 0) (40 : Int32) (40 : Int32) = _ from S_reads h hL hp, Option.bind_some]
    by_cases c2 : sgm L X p = nI 40
    · rw [if_pos (okI_1 (a := 40) (by decide) c2), if_pos (show k < 5 ∧ sgm L X p = nI 40 from ⟨c1, c2⟩)]
      dsimp only
      rw [if_neg (by decide), h1.gI, Option.bind_some, h1.2.2.2, nI_k1, h1.pI, Option.bind_some]
    · rw [if_neg (okI_0 (a := 40) (by decide) c2), if_neg (show ¬ (k < 5 ∧ sgm L X p = nI 40) from fun e => c2 e.2)]
      dsimp only
      rw [if_pos rfl]
  · rw [if_pos (show nI k = (5 : Int32) from by rw [show k = 5 from by omega]; rfl), if_neg (show ¬ (k < 5 ∧ sgm L X p = nI 40) from fun e => c1 e.1)]
theorem p_ask {j L p R : Nat} {st : List Nat} {M X : xMem} (h : TS j L p R st M) (hm : MT L p st.length X) (hτ : ∀ q, sgm L X q = sg L M q) (hp : p < L) (hR : R < 100) (hv : sg L M p = nI 63) : SOUT j L p R st M X := by
  have hL := h.2.2.1
  have h5 := h.2.2.2.2.1
  have t0 : M.1 (25, 0, 0) p = nI 63 := by have : sg L M p = M.1 (25, 0, 0) p := if_pos hp; rw [← this]; exact hv
  have h1 : TS j L (p + 1) R st (pAt j (p + 1) M) := h.at
  have m1 : MT L (p + 1) st.length (mAt (p + 1) X) := hm.at
  have h2 : TS j L (p + 1) (R + 1) st (pAr j 5 R (pAt j (p + 1) M)) := h1.add hR
  have f2 : FrT j R M (pAr j 5 R (pAt j (p + 1) M)) := FrT.rfl'.at.add
  have hbeg : fT_readBegin M (26, 0, j) = (fT_readAsk (pAt j (p + 1) M) (26, 0, j)).bind fun q10 => if q10.1 = 0 ∨ q10.1 = 1 then some (q10.1, q10.2) else none := by
    unfold fT_readBegin
    rw [h.o6, Option.bind_some, T_letter h (by omega), Option.bind_some]
    dsimp only
    rw [hv, if_neg (by decide), if_neg (by decide), if_pos (show nI 63 = (63 : Int32) from rfl), h.gI, Option.bind_some, h.2.2.2.2.2.2.2.1, nI_k1, h.pI, Option.bind_some, show xsi M (26, 0, j) 10 (nI (p + 1)) = pAt j (p + 1) M from rfl, h1.o6, Option.bind_some]
  have hst : fM_readsStatement X (44, 0, 0) = _ := S_stm hm hL (by omega) (by rw [hτ, hv]; decide)
  rw [hτ, hv, if_neg (by decide), if_neg (by decide), if_pos (show nI 63 = (63 : Int32) from rfl), show fM_reads (mAt (p + 1) X) (44, 0, 0) (48 : Int32) (51 : Int32) = _ from S_reads m1 hL (by omega), Option.bind_some, sgm_mAt, hτ] at hst
  have hgv := Eq.refl (fT_readAsk (pAt j (p + 1) M) (26, 0, j))
  conv at hgv => rhs; unfold fT_readAsk
  rw [h1.o6, Option.bind_some, show fT_addRow (pAt j (p + 1) M) (26, 0, j) (5 : Int32) = _ from T_add h1 hR, Option.bind_some] at hgv
  dsimp only at hgv
  rw [h2.tr (k := 2) (by decide), Option.bind_some, h2.o6, Option.bind_some, T_into h2 (by omega) (by decide), Option.bind_some, sg_fr f2] at hgv
  by_cases c1 : okI 48 51 (sg L M (p + 1)) = true
  · obtain ⟨cc, e1, e2, e3⟩ := ok_val (by decide) (by decide) c1
    have b1 := sg_lt (by decide) (by decide) c1
    have h3 : TS j L (p + 2) (R + 1) st (xsi (pAt j (p + 2) (pAr j 5 R (pAt j (p + 1) M))) (29, 0, j) R (nI cc)) := (h2.at (p' := p + 2)).setr (by decide)
    have f3 : FrT j R M (xsi (pAt j (p + 2) (pAr j 5 R (pAt j (p + 1) M))) (29, 0, j) R (nI cc)) := f2.at.w (by decide) (by omega)
    have m2 : MT L (p + 2) st.length (mAt (p + 2) X) := hm.at
    rw [if_pos c1, e3] at hgv
    rw [if_pos c1] at hst
    dsimp only at hgv hst
    rw [if_neg (by decide), show p + 1 + 1 = p + 2 from rfl, show (xsi (pAt j (p + 2) (pAr j 5 R (pAt j (p + 1) M))) (27 + 2, 0, j) R (nI cc)) = xsi (pAt j (p + 2) (pAr j 5 R (pAt j (p + 1) M))) (29, 0, j) R (nI cc) from rfl, h3.o6, Option.bind_some, T_open h3 (by omega), Option.bind_some, sg_fr f3] at hgv
    rw [if_neg (by decide), mAt_mAt, show p + 1 + 1 = p + 2 from rfl, m2.ob, Option.bind_some, S_opens m2 hL (by omega) h5, Option.bind_some, sgm_mAt, hτ] at hst
    by_cases c2 : st.length < 5 ∧ sg L M (p + 2) = nI 40
    · have b2 : p + 2 < L := by
        by_cases hh : p + 2 < L
        · exact hh
        · have c2' := c2.2; unfold sg at c2'; rw [if_neg hh] at c2'; exact absurd c2' (by decide)
      rw [if_pos c2] at hgv hst
      dsimp only at hgv hst
      rw [if_neg (by decide)] at hgv hst
      refine Or.inr (Or.inr ⟨p + 3, _, mOpn (p + 2) st.length (mAt (p + 2) X), ?_, h3.opn c2.1, f3.opn, Or.inr (Or.inr (Or.inr (Or.inr (Or.inr (Or.inl ⟨cc, by omega, ?_, ?_, t0, b1.2 ▸ e1, ?_, rfl⟩))))), ?_, ?_, by omega, hst, m2.opn, (FrM.rfl'.w (Or.inl rfl)).w (Or.inl rfl) |>.w (Or.inr rfl)⟩)
      · rw [hbeg, hgv, Option.bind_some, if_pos (Or.inr rfl)]
      · simp [tOp, pAt, pAr, xsi_1]
      · simp [tOp, pAt, pAr, xsi_1]
      · have : sg L M (p + 2) = M.1 (25, 0, 0) (p + 2) := if_pos b2
        rw [← this]; exact c2.2
      · exact opB_y (a := 5) (by simp [tOp, pAt, pAr, xsi_1]) (by omega)
      · exact clB_n (a := 5) (by simp [tOp, pAt, pAr, xsi_1]) (by omega)
    · rw [if_neg c2] at hgv hst
      dsimp only at hgv hst
      rw [if_pos rfl] at hgv hst
      refine Or.inl ⟨p + 2, _, mAt (p + 2) X, ?_, h3.2.2.2.2.2.2.2.1, f3, hst, m2.2.2.1, FrM.rfl'.w (Or.inl rfl), by omega⟩
      rw [hbeg, hgv, Option.bind_some, if_pos (Or.inl rfl)]
  · rw [if_neg c1] at hgv hst
    dsimp only at hgv hst
    rw [if_pos rfl] at hgv hst
    refine Or.inl ⟨p + 1, _, mAt (p + 1) X, ?_, ?_, f2.w (κ := 29) (i := R) (v := -1) (by decide) (by omega), hst, m1.2.2.1, FrM.rfl'.w (Or.inl rfl), by omega⟩
    · rw [hbeg, hgv, Option.bind_some, if_pos (Or.inl rfl)]
    · simp [pAt, pAr, xsi_1]
