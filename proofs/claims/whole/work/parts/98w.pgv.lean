/-! gives, questions, repeats, takes and writes are read -/
theorem p_give {j L p R : Nat} {st : List Nat} {M X : xMem} (h : TS j L p R st M) (hm : MT L p st.length X) (hτ : ∀ q, sgm L X q = sg L M q) (hp : p < L) (hR : R < 100) (hv : sg L M p = nI 126) : SOUT j L p R st M X := by
  have hL := h.2.2.1
  have t0 : M.1 (25, 0, 0) p = nI 126 := by have : sg L M p = M.1 (25, 0, 0) p := if_pos hp; rw [← this]; exact hv
  have h1 : TS j L (p + 1) R st (pAt j (p + 1) M) := h.at
  have m1 : MT L (p + 1) st.length (mAt (p + 1) X) := hm.at
  have hbeg : fT_readBegin M (26, 0, j) = (fT_readGive (pAt j (p + 1) M) (26, 0, j)).bind fun q10 => if q10.1 = 0 ∨ q10.1 = 1 then some (q10.1, q10.2) else none := by
    unfold fT_readBegin
    rw [h.o6, Option.bind_some, T_letter h (by omega), Option.bind_some]
    dsimp only
    rw [hv, if_neg (by decide), if_pos (show nI 126 = (126 : Int32) from rfl), h.gI, Option.bind_some, h.2.2.2.2.2.2.2.1, nI_k1, h.pI, Option.bind_some, show xsi M (26, 0, j) 10 (nI (p + 1)) = pAt j (p + 1) M from rfl, h1.o6, Option.bind_some]
  have hst : fM_readsStatement X (44, 0, 0) = _ := S_stm hm hL (by omega) (by rw [hτ, hv]; decide)
  rw [hτ, hv, if_neg (by decide), if_neg (by decide), if_neg (by decide), if_pos (show nI 126 = (126 : Int32) from rfl), show fM_reads (mAt (p + 1) X) (44, 0, 0) (97 : Int32) (122 : Int32) = _ from S_reads m1 hL (by omega), Option.bind_some, sgm_mAt, hτ] at hst
  have hgv := Eq.refl (fT_readGive (pAt j (p + 1) M) (26, 0, j))
  conv at hgv => rhs; unfold fT_readGive
  rw [h1.o6, Option.bind_some, show fT_readOneOf (pAt j (p + 1) M) (26, 0, j) (97 : Int32) (122 : Int32) = _ from T_one h1 (by omega) (by decide), Option.bind_some, sg_pAt, pAt_pAt] at hgv
  by_cases c1 : okI 97 122 (sg L M (p + 1)) = true
  · obtain ⟨kk, e1, e2, e3⟩ := ok_val (by decide) (by decide) c1
    have b1 := sg_lt (by decide) (by decide) c1
    have h2 : TS j L (p + 2) R st (pAt j (p + 2) M) := h.at
    have h3 : TS j L (p + 2) (R + 1) st (pAr j 1 R (pAt j (p + 2) M)) := h2.add hR
    have h4 : TS j L (p + 2) (R + 1) st (xsi (pAr j 1 R (pAt j (p + 2) M)) (28, 0, j) R (nI kk)) := h3.setr (by decide)
    have f4 : FrT j R M (xsi (pAr j 1 R (pAt j (p + 2) M)) (28, 0, j) R (nI kk)) := FrT.rfl'.at.add.w (by decide) (by omega)
    have m2 : MT L (p + 2) st.length (mAt (p + 2) X) := hm.at
    rw [if_pos c1] at hgv hst
    dsimp only at hgv hst
    rw [e3, if_neg (show ¬ nI kk = (-1 : Int32) from fun e => nI_pos (show kk < 2 ^ 31 by omega) (e ▸ (by decide))), show p + 1 + 1 = p + 2 from rfl, h2.o6, Option.bind_some, show fT_addRow (pAt j (p + 2) M) (26, 0, j) (1 : Int32) = _ from T_add h2 hR, Option.bind_some] at hgv
    dsimp only at hgv
    rw [h3.tr (k := 1) (by decide), Option.bind_some, h3.o6, Option.bind_some, T_set h3 (by decide), Option.bind_some, h4.o6, Option.bind_some, T_sign h4 (by omega), Option.bind_some, sg_fr f4] at hgv
    rw [if_neg (by decide), mAt_mAt, show p + 1 + 1 = p + 2 from rfl, m2.ob, Option.bind_some, show fM_reads (mAt (p + 2) X) (44, 0, 0) (64 : Int32) (64 : Int32) = _ from S_reads m2 hL (by omega), Option.bind_some, sgm_mAt, hτ] at hst
    by_cases c2 : sg L M (p + 2) = nI 64
    · have b2 : p + 2 < L := by
        by_cases hh : p + 2 < L
        · exact hh
        · unfold sg at c2; rw [if_neg hh] at c2; exact absurd c2 (by decide)
      have h5 : TS j L (p + 3) (R + 1) st (pAt j (p + 3) (xsi (pAr j 1 R (pAt j (p + 2) M)) (28, 0, j) R (nI kk))) := h4.at
      have f5 : FrT j R M (pAt j (p + 3) (xsi (pAr j 1 R (pAt j (p + 2) M)) (28, 0, j) R (nI kk))) := f4.at
      have m3 : MT L (p + 3) st.length (mAt (p + 3) X) := hm.at
      rw [if_pos (show sg L M (p + 2) = (64 : Int32) from c2)] at hgv
      dsimp only at hgv
      rw [if_neg (by decide), show p + 2 + 1 = p + 3 from rfl, h5.tr (k := 3) (by decide), Option.bind_some, h5.o6, Option.bind_some, T_into h5 (by omega) (by decide), Option.bind_some, sg_fr f5, pAt_pAt] at hgv
      rw [if_pos (okI_1 (a := 64) (by decide) c2)] at hst
      dsimp only at hst
      rw [if_neg (by decide), mAt_mAt, show p + 2 + 1 = p + 3 from rfl, m3.ob, Option.bind_some, show fM_reads (mAt (p + 3) X) (44, 0, 0) (48 : Int32) (51 : Int32) = _ from S_reads m3 hL (by omega), Option.bind_some, sgm_mAt, hτ] at hst
      by_cases c3 : okI 48 51 (sg L M (p + 3)) = true
      · obtain ⟨pp, g1, g2, g3⟩ := ok_val (by decide) (by decide) c3
        have b3 := sg_lt (by decide) (by decide) c3
        rw [if_pos c3] at hgv hst
        dsimp only at hgv hst
        rw [if_neg (by decide), show p + 3 + 1 = p + 4 from rfl, g3] at hgv
        rw [if_neg (by decide), mAt_mAt, show p + 3 + 1 = p + 4 from rfl] at hst
        refine Or.inr (Or.inl ⟨p + 4, _, mAt (p + 4) X, ?_, (h5.at (p' := p + 4)).setr (k := 30) (i := R) (v := nI pp) (by decide), f5.at.w (by decide) (by omega), Or.inr (Or.inl ⟨kk, pp, by omega, by omega, ?_, ?_, ?_, t0, b1.2 ▸ e1, ?_, b3.2 ▸ g1, rfl⟩), ?_, ?_, by omega, hst, hm.at, FrM.rfl'.w (Or.inl rfl)⟩)
        · rw [hbeg, hgv, Option.bind_some, if_pos (Or.inr rfl), pAt_pAt]
        · simp [pAt, pAr, xsi_1]
        · simp [pAt, pAr, xsi_1]
        · simp [pAt, pAr, xsi_1]
        · have : sg L M (p + 2) = M.1 (25, 0, 0) (p + 2) := if_pos b2
          rw [← this]; exact c2
        · exact opB_n (a := 1) (by simp [pAt, pAr, xsi_1]) (by omega)
        · exact clB_n (a := 1) (by simp [pAt, pAr, xsi_1]) (by omega)
      · rw [if_neg c3] at hgv hst
        dsimp only at hgv hst
        rw [if_pos rfl] at hgv hst
        refine Or.inl ⟨p + 3, _, mAt (p + 3) X, ?_, ?_, f5.w (κ := 30) (i := R) (v := -1) (by decide) (by omega), hst, m3.2.2.1, FrM.rfl'.w (Or.inl rfl), by omega⟩
        · rw [hbeg, hgv, Option.bind_some, if_pos (Or.inl rfl)]
        · simp [pAt, pAr, xsi_1]
    · rw [if_neg (show ¬ sg L M (p + 2) = (64 : Int32) from c2)] at hgv
      dsimp only at hgv
      rw [if_pos rfl] at hgv
      rw [if_neg (okI_0 (a := 64) (by decide) c2)] at hst
      dsimp only at hst
      rw [if_pos rfl] at hst
      refine Or.inl ⟨p + 2, _, mAt (p + 2) X, ?_, ?_, f4, hst, m2.2.2.1, FrM.rfl'.w (Or.inl rfl), by omega⟩
      · rw [hbeg, hgv, Option.bind_some, if_pos (Or.inl rfl)]
      · simp [pAt, pAr, xsi_1]
  · rw [if_neg c1] at hgv hst
    dsimp only at hgv hst
    rw [if_pos rfl] at hgv hst
    refine Or.inl ⟨p + 1, _, mAt (p + 1) X, ?_, ?_, FrT.rfl'.at (p := p + 1), hst, m1.2.2.1, FrM.rfl'.w (Or.inl rfl), by omega⟩
    · rw [hbeg, hgv, Option.bind_some, if_pos (Or.inl rfl)]
    · simp [pAt, xsi_1]
