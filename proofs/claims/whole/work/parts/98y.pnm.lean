/-! repeats and namings are read -/
theorem T_numInto {j L p R : Nat} {st : List Nat} {M : xMem} (h : TS j L p (R + 1) st M) (hp : p ≤ 100) : (okI 48 57 (sg L M p) = false → fT_readNumberInto M (26, 0, j) = some (0, xsi M (31, 0, j) R (-1))) ∧ (okI 48 57 (sg L M p) = true → ∃ n, nE L M p < 3 ∧ fT_readNumberInto M (26, 0, j) = some (1, xsi (pAt j (p + (nE L M p + 1)) M) (31, 0, j) R (nI n)) ∧ NumD (M.1 (25, 0, 0)) (nE L M p + 1) p n 0 ∧ p + (nE L M p + 1) ≤ L) := by
  have hnum := T_num h (by omega)
  constructor
  · intro h0
    unfold fT_readNumberInto
    rw [h.o6, Option.bind_some, hnum.1 h0, Option.bind_some]
    dsimp only
    rw [h.tr (k := 4) (by decide), Option.bind_some, h.o6, Option.bind_some, T_set h (by decide), Option.bind_some, if_pos rfl]
  · intro h0
    obtain ⟨n, e1, e2, e3, e4⟩ := hnum.2 h0
    have hn := NumD_lt e3 e1
    have h1 : TS j L (p + (nE L M p + 1)) (R + 1) st (pAt j (p + (nE L M p + 1)) M) := h.at
    refine ⟨n, e1, ?_, e3, e4⟩
    unfold fT_readNumberInto
    rw [h.o6, Option.bind_some, e2, Option.bind_some]
    dsimp only
    rw [h1.tr (k := 4) (by decide), Option.bind_some, h1.o6, Option.bind_some, T_set h1 (by decide), Option.bind_some, if_neg (show ¬ nI n = (-1 : Int32) from fun e => nI_pos (show n < 2 ^ 31 by omega) (e ▸ (by decide)))]
theorem sgm_ext {L : Nat} {X M : xMem} (hτ : ∀ q, sgm L X q = sg L M q) (p : Nat) : (if okI 48 57 (sgm L X (p + 1)) = true then (if okI 48 57 (sgm L X (p + 2)) = true then 2 else 1) else 0) = nE L M p := by
  unfold nE; rw [hτ, hτ]
theorem nE_fr {j R L p : Nat} {M M' : xMem} (h : FrT j R M M') : nE L M' p = nE L M p := by
  unfold nE; rw [sg_fr h, sg_fr h]
theorem p_many {j L p R : Nat} {st : List Nat} {M X : xMem} (h : TS j L p R st M) (hm : MT L p st.length X) (hτ : ∀ q, sgm L X q = sg L M q) (hp : p < L) (hR : R < 100) (hv : okI 48 57 (sg L M p) = true) : SOUT j L p R st M X := by
  have hL := h.2.2.1
  have h5 := h.2.2.2.2.1
  obtain ⟨k0, hk0, -, t0, -⟩ := dg_val hv
  have sv : sg L M p = nI (48 + k0) := by have : sg L M p = M.1 (25, 0, 0) p := if_pos hp; rw [this]; exact t0
  have ne : ∀ a, a < 2 ^ 31 → a < 48 ∨ 57 < a → ¬ nI (48 + k0) = nI a := fun a h1 h2 => by rw [nI_eq (by omega) h1]; omega
  have h2 : TS j L p (R + 1) st (pAr j 4 R M) := h.add hR
  have f2 : FrT j R M (pAr j 4 R M) := FrT.rfl'.add
  have hn2 := (T_numInto h2 (by omega)).2 (by rw [sg_fr f2]; exact hv)
  obtain ⟨n, e1, e2, e3, e4⟩ := hn2
  rw [nE_fr f2] at e1 e2 e3 e4
  rw [f2.t25] at e3
  have h3 : TS j L (p + (nE L M p + 1)) (R + 1) st (xsi (pAt j (p + (nE L M p + 1)) (pAr j 4 R M)) (31, 0, j) R (nI n)) := (h2.at (p' := p + (nE L M p + 1))).setr (by decide)
  have f3 : FrT j R M (xsi (pAt j (p + (nE L M p + 1)) (pAr j 4 R M)) (31, 0, j) R (nI n)) := f2.at.w (by decide) (by omega)
  have m2 : MT L (p + (nE L M p + 1)) st.length (mAt (p + (nE L M p + 1)) X) := hm.at
  have hrep := Eq.refl (fT_readRepeat M (26, 0, j))
  conv at hrep => rhs; unfold fT_readRepeat
  rw [h.o6, Option.bind_some, show fT_addRow M (26, 0, j) (4 : Int32) = _ from T_add h hR, Option.bind_some] at hrep
  dsimp only at hrep
  rw [h2.o6, Option.bind_some, e2, Option.bind_some] at hrep
  dsimp only at hrep
  rw [if_neg (by decide), h3.o6, Option.bind_some, T_open h3 (by omega), Option.bind_some, sg_fr f3] at hrep
  have hbeg : fT_readBegin M (26, 0, j) = (fT_readRepeat M (26, 0, j)).bind fun q16 => if q16.1 = 0 ∨ q16.1 = 1 then some (q16.1, q16.2) else none := by
    unfold fT_readBegin
    rw [h.o6, Option.bind_some, T_letter h (by omega), Option.bind_some]
    dsimp only
    rw [sv, if_neg (show ¬ nI (48 + k0) = (33 : Int32) from ne 33 (by decide) (by decide)), if_neg (show ¬ nI (48 + k0) = (126 : Int32) from ne 126 (by decide) (by decide)), if_neg (show ¬ nI (48 + k0) = (63 : Int32) from ne 63 (by decide) (by decide)), if_neg (show ¬ nI (48 + k0) < (48 : Int32) from by rw [show (48 : Int32) = nI 48 from rfl, nI_ltI (by omega) (by decide)]; omega), if_neg (show ¬ (57 : Int32) < nI (48 + k0) from by rw [show (57 : Int32) = nI 57 from rfl, nI_ltI (by decide) (by omega)]; omega), h.o6, Option.bind_some]
  have hst := Eq.refl (fM_readsStatement X (44, 0, 0))
  conv at hst => rhs; unfold fM_readsStatement
  rw [hm.ob, Option.bind_some, S_sign hm hL (by omega), Option.bind_some] at hst
  dsimp only at hst
  rw [isDgI, Option.bind_some] at hst
  dsimp only at hst
  rw [hτ, hv, if_neg (by decide), hm.ob, Option.bind_some, S_rdnum hm hL (by omega), Option.bind_some, hτ, if_pos hv] at hst
  dsimp only at hst
  rw [if_neg (by decide), sgm_ext hτ, m2.ob, Option.bind_some, S_opens m2 hL (by omega) h5, Option.bind_some, sgm_mAt, hτ] at hst
  by_cases c2 : st.length < 5 ∧ sg L M (p + (nE L M p + 1)) = nI 40
  · have b2 : p + (nE L M p + 1) < L := by
      by_cases hh : p + (nE L M p + 1) < L
      · exact hh
      · have c2' := c2.2; unfold sg at c2'; rw [if_neg hh] at c2'; exact absurd c2' (by decide)
    rw [if_pos c2] at hrep hst
    dsimp only at hrep hst
    rw [if_neg (by decide)] at hrep hst
    refine Or.inr (Or.inr ⟨p + (nE L M p + 1) + 1, _, mOpn (p + (nE L M p + 1)) st.length (mAt (p + (nE L M p + 1)) X), ?_, h3.opn c2.1, f3.opn, Or.inr (Or.inr (Or.inr (Or.inr (Or.inl ⟨n, nE L M p, e1, ?_, ?_, e3, ?_, rfl⟩)))), ?_, ?_, by omega, hst, m2.opn, (FrM.rfl'.w (Or.inl rfl)).w (Or.inl rfl) |>.w (Or.inr rfl)⟩)
    · rw [hbeg, hrep, Option.bind_some, if_pos (Or.inr rfl)]
    · simp [tOp, pAt, pAr, xsi_1]
    · simp [tOp, pAt, pAr, xsi_1]
    · have : sg L M (p + (nE L M p + 1)) = M.1 (25, 0, 0) (p + (nE L M p + 1)) := if_pos b2
      rw [← this]; exact c2.2
    · exact opB_y (a := 4) (by simp [tOp, pAt, pAr, xsi_1]) (by omega)
    · exact clB_n (a := 4) (by simp [tOp, pAt, pAr, xsi_1]) (by omega)
  · rw [if_neg c2] at hrep hst
    dsimp only at hrep hst
    rw [if_pos rfl] at hrep hst
    refine Or.inl ⟨p + (nE L M p + 1), _, mAt (p + (nE L M p + 1)) X, ?_, h3.2.2.2.2.2.2.2.1, f3, hst, m2.2.2.1, FrM.rfl'.w (Or.inl rfl), by omega⟩
    rw [hbeg, hrep, Option.bind_some, if_pos (Or.inl rfl)]
theorem p_name {j L p R : Nat} {st : List Nat} {M X : xMem} (h : TS j L p R st M) (hm : MT L p st.length X) (hτ : ∀ q, sgm L X q = sg L M q) (hp : p < L) (hR : R < 100) (hv : okI 48 57 (sg L M p) = false) (n33 : ¬ sg L M p = nI 33) (n63 : ¬ sg L M p = nI 63) (n126 : ¬ sg L M p = nI 126) : SOUT j L p R st M X := by
  have hL := h.2.2.1
  have h1 : TS j L (p + 1) R st (pAt j (p + 1) M) := h.at
  have m1 : MT L (p + 1) st.length (mAt (p + 1) X) := hm.at
  have hbeg : fT_readBegin M (26, 0, j) = (fT_readNaming M (26, 0, j)).bind fun q18 => if q18.1 = 0 ∨ q18.1 = 1 then some (q18.1, q18.2) else none := by
    unfold fT_readBegin fT_readBegin_88
    rw [h.o6, Option.bind_some, T_letter h (by omega), Option.bind_some]
    dsimp only
    rw [if_neg (show ¬ sg L M p = (33 : Int32) from n33), if_neg (show ¬ sg L M p = (126 : Int32) from n126), if_neg (show ¬ sg L M p = (63 : Int32) from n63)]
    by_cases c1 : sg L M p < (48 : Int32)
    · rw [if_pos c1, h.o6, Option.bind_some]
    · rw [if_neg c1]
      by_cases c2 : (57 : Int32) < sg L M p
      · rw [if_pos c2, h.o6, Option.bind_some]
      · exfalso
        unfold okI at hv
        rw [if_neg (show ¬ sg L M p < nI 48 from c1), if_neg (show ¬ nI 57 < sg L M p from c2)] at hv
        cases hv
  have hst : fM_readsStatement X (44, 0, 0) = _ := S_stm hm hL (by omega) (by rw [hτ]; exact hv)
  rw [hτ] at hst
  have hnm := Eq.refl (fT_readNaming M (26, 0, j))
  conv at hnm => rhs; unfold fT_readNaming
  rw [h.o6, Option.bind_some, show fT_readOneOf M (26, 0, j) (97 : Int32) (122 : Int32) = _ from T_one h (by omega) (by decide), Option.bind_some] at hnm
  by_cases c1 : okI 97 122 (sg L M p) = true
  · obtain ⟨v, e1, e2, e3⟩ := ok_val (by decide) (by decide) c1
    have b1 := sg_lt (by decide) (by decide) c1
    have t0 : M.1 (25, 0, 0) p = nI (97 + v) := b1.2 ▸ e1
    have hset := Eq.refl (fM_readsSet (mAt (p + 1) X) (44, 0, 0))
    conv at hset => rhs; unfold fM_readsSet
    rw [m1.ob, Option.bind_some, show fM_reads (mAt (p + 1) X) (44, 0, 0) (58 : Int32) (58 : Int32) = _ from S_reads m1 hL (by omega), Option.bind_some, sgm_mAt, hτ, mAt_mAt] at hset
    rw [if_pos c1] at hnm hst
    dsimp only at hnm
    rw [e3, if_neg (show ¬ nI v = (-1 : Int32) from fun e => nI_pos (show v < 2 ^ 31 by omega) (e ▸ (by decide))), h1.o6, Option.bind_some, T_sign h1 (by omega), Option.bind_some, sg_pAt, pAt_pAt] at hnm
    have h2 : TS j L (p + 2) R st (pAt j (p + 2) M) := h.at
    have m2 : MT L (p + 2) st.length (mAt (p + 2) X) := hm.at
    by_cases c61 : sg L M (p + 1) = nI 61
    · -- a take
      have b2 : p + 1 < L := by
        by_cases hh : p + 1 < L
        · exact hh
        · unfold sg at c61; rw [if_neg hh] at c61; exact absurd c61 (by decide)
      have t1 : M.1 (25, 0, 0) (p + 1) = nI 61 := by have : sg L M (p + 1) = M.1 (25, 0, 0) (p + 1) := if_pos b2; rw [← this]; exact c61
      have h3 : TS j L (p + 2) (R + 1) st (pAr j 0 R (pAt j (p + 2) M)) := h2.add hR
      have h4 : TS j L (p + 2) (R + 1) st (xsi (pAr j 0 R (pAt j (p + 2) M)) (28, 0, j) R (nI v)) := h3.setr (by decide)
      have f4 : FrT j R M (xsi (pAr j 0 R (pAt j (p + 2) M)) (28, 0, j) R (nI v)) := FrT.rfl'.at.add.w (by decide) (by omega)
      rw [if_pos (show sg L M (p + 1) = (61 : Int32) from c61)] at hnm
      dsimp only at hnm
      rw [if_neg (by decide)] at hnm
      unfold fT_readNaming_38 fT_readNaming_48 fT_readNaming_100 at hnm
      rw [if_neg (by decide), show p + 1 + 1 = p + 2 from rfl, h2.o6, Option.bind_some, show fT_addRow (pAt j (p + 2) M) (26, 0, j) (0 : Int32) = _ from T_add h2 hR, Option.bind_some] at hnm
      dsimp only at hnm
      rw [h3.tr (k := 1) (by decide), Option.bind_some, h3.o6, Option.bind_some, T_set h3 (by decide), Option.bind_some, if_neg (by decide), show xsi (pAr j 0 R (pAt j (p + 2) M)) (27 + 1, 0, j) R (nI v) = xsi (pAr j 0 R (pAt j (p + 2) M)) (28, 0, j) R (nI v) from rfl, h4.tr (k := 2) (by decide), Option.bind_some, h4.o6, Option.bind_some, T_into h4 (by omega) (by decide), Option.bind_some, sg_fr f4] at hnm
      rw [if_neg (okI_0 (a := 58) (by decide) (by rw [c61]; decide))] at hset
      dsimp only at hset
      rw [if_pos rfl, m1.ob, Option.bind_some, show fM_reads (mAt (p + 1) X) (44, 0, 0) (61 : Int32) (61 : Int32) = _ from S_reads m1 hL (by omega), Option.bind_some, sgm_mAt, hτ, mAt_mAt, if_pos (okI_1 (a := 61) (by decide) c61)] at hset
      dsimp only at hset
      rw [if_neg (by decide), show p + 1 + 1 = p + 2 from rfl, m2.ob, Option.bind_some, show fM_reads (mAt (p + 2) X) (44, 0, 0) (48 : Int32) (51 : Int32) = _ from S_reads m2 hL (by omega), Option.bind_some, sgm_mAt, hτ, mAt_mAt] at hset
      by_cases c2 : okI 48 51 (sg L M (p + 2)) = true
      · obtain ⟨c, g1, g2, g3⟩ := ok_val (by decide) (by decide) c2
        have b3 := sg_lt (by decide) (by decide) c2
        have h5 : TS j L (p + 3) (R + 1) st (xsi (pAt j (p + 3) (xsi (pAr j 0 R (pAt j (p + 2) M)) (28, 0, j) R (nI v))) (29, 0, j) R (nI c)) := (h4.at (p' := p + 3)).setr (by decide)
        have f5 : FrT j R M (xsi (pAt j (p + 3) (xsi (pAr j 0 R (pAt j (p + 2) M)) (28, 0, j) R (nI v))) (29, 0, j) R (nI c)) := f4.at.w (by decide) (by omega)
        have m3 : MT L (p + 3) st.length (mAt (p + 3) X) := hm.at
        rw [if_pos c2, g3] at hnm
        rw [if_pos c2] at hset
        dsimp only at hnm hset
        rw [if_neg (by decide), show p + 2 + 1 = p + 3 from rfl, show xsi (pAt j (p + 3) (xsi (pAr j 0 R (pAt j (p + 2) M)) (28, 0, j) R (nI v))) (27 + 2, 0, j) R (nI c) = xsi (pAt j (p + 3) (xsi (pAr j 0 R (pAt j (p + 2) M)) (28, 0, j) R (nI v))) (29, 0, j) R (nI c) from rfl, h5.o6, Option.bind_some, T_sign h5 (by omega), Option.bind_some, sg_fr f5] at hnm
        rw [if_neg (by decide), show p + 2 + 1 = p + 3 from rfl, m3.ob, Option.bind_some, show fM_reads (mAt (p + 3) X) (44, 0, 0) (64 : Int32) (64 : Int32) = _ from S_reads m3 hL (by omega), Option.bind_some, sgm_mAt, hτ, mAt_mAt] at hset
        by_cases c3 : sg L M (p + 3) = nI 64
        · have b4 : p + 3 < L := by
            by_cases hh : p + 3 < L
            · exact hh
            · unfold sg at c3; rw [if_neg hh] at c3; exact absurd c3 (by decide)
          have t3 : M.1 (25, 0, 0) (p + 3) = nI 64 := by have : sg L M (p + 3) = M.1 (25, 0, 0) (p + 3) := if_pos b4; rw [← this]; exact c3
          have h6 : TS j L (p + 4) (R + 1) st (pAt j (p + 4) (xsi (pAt j (p + 3) (xsi (pAr j 0 R (pAt j (p + 2) M)) (28, 0, j) R (nI v))) (29, 0, j) R (nI c))) := h5.at
          have f6 : FrT j R M (pAt j (p + 4) (xsi (pAt j (p + 3) (xsi (pAr j 0 R (pAt j (p + 2) M)) (28, 0, j) R (nI v))) (29, 0, j) R (nI c))) := f5.at
          have m4 : MT L (p + 4) st.length (mAt (p + 4) X) := hm.at
          rw [if_pos (show sg L M (p + 3) = (64 : Int32) from c3)] at hnm
          rw [if_pos (okI_1 (a := 64) (by decide) c3)] at hset
          dsimp only at hnm hset
          rw [if_neg (by decide), show p + 3 + 1 = p + 4 from rfl, h6.tr (k := 3) (by decide), Option.bind_some, h6.o6, Option.bind_some, T_into h6 (by omega) (by decide), Option.bind_some, sg_fr f6] at hnm
          rw [if_neg (by decide), show p + 3 + 1 = p + 4 from rfl, m4.ob, Option.bind_some, show fM_reads (mAt (p + 4) X) (44, 0, 0) (48 : Int32) (51 : Int32) = _ from S_reads m4 hL (by omega), Option.bind_some, sgm_mAt, hτ, mAt_mAt] at hset
          by_cases c4 : okI 48 51 (sg L M (p + 4)) = true
          · obtain ⟨pp, k1, k2, k3⟩ := ok_val (by decide) (by decide) c4
            have b5 := sg_lt (by decide) (by decide) c4
            rw [if_pos c4, k3] at hnm
            rw [if_pos c4] at hset
            dsimp only at hnm hset
            rw [if_neg (by decide), show p + 4 + 1 = p + 5 from rfl] at hnm hset
            refine Or.inr (Or.inl ⟨p + 5, _, mAt (p + 5) X, ?_, (h6.at (p' := p + 5)).setr (k := 30) (i := R) (v := nI pp) (by decide), f6.at.w (by decide) (by omega), Or.inl ⟨v, c, pp, by omega, by omega, by omega, ?_, ?_, ?_, ?_, t0, t1, b3.2 ▸ g1, t3, b5.2 ▸ k1, rfl⟩, ?_, ?_, by omega, ?_, hm.at, FrM.rfl'.w (Or.inl rfl)⟩)
            · rw [hbeg, hnm, Option.bind_some, if_pos (Or.inr rfl)]
            · simp [pAt, pAr, xsi_1]
            · simp [pAt, pAr, xsi_1]
            · simp [pAt, pAr, xsi_1]
            · simp [pAt, pAr, xsi_1]
            · exact opB_n (a := 0) (by simp [pAt, pAr, xsi_1]) (by omega)
            · exact clB_n (a := 0) (by simp [pAt, pAr, xsi_1]) (by omega)
            · rw [hst, hset, Option.bind_some]
          · rw [if_neg c4] at hnm hset
            dsimp only at hnm hset
            rw [if_pos rfl] at hnm hset
            refine Or.inl ⟨p + 4, _, mAt (p + 4) X, ?_, ?_, f6.w (κ := 30) (i := R) (v := -1) (by decide) (by omega), ?_, m4.2.2.1, FrM.rfl'.w (Or.inl rfl), by omega⟩
            · rw [hbeg, hnm, Option.bind_some, if_pos (Or.inl rfl)]
            · simp [pAt, pAr, xsi_1]
            · rw [hst, hset, Option.bind_some]
        · rw [if_neg (show ¬ sg L M (p + 3) = (64 : Int32) from c3)] at hnm
          rw [if_neg (okI_0 (a := 64) (by decide) c3)] at hset
          dsimp only at hnm hset
          rw [if_pos rfl] at hnm hset
          refine Or.inl ⟨p + 3, _, mAt (p + 3) X, ?_, h5.2.2.2.2.2.2.2.1, f5, ?_, m3.2.2.1, FrM.rfl'.w (Or.inl rfl), by omega⟩
          · rw [hbeg, hnm, Option.bind_some, if_pos (Or.inl rfl)]
          · rw [hst, hset, Option.bind_some]
      · rw [if_neg c2] at hnm hset
        dsimp only at hnm hset
        rw [if_pos rfl] at hnm hset
        refine Or.inl ⟨p + 2, _, mAt (p + 2) X, ?_, ?_, f4.w (κ := 29) (i := R) (v := -1) (by decide) (by omega), ?_, m2.2.2.1, FrM.rfl'.w (Or.inl rfl), by omega⟩
        · rw [hbeg, hnm, Option.bind_some, if_pos (Or.inl rfl)]
        · simp [pAt, pAr, xsi_1]
        · rw [hst, hset, Option.bind_some]
    · rw [if_neg (show ¬ sg L M (p + 1) = (61 : Int32) from c61)] at hnm
      dsimp only at hnm
      rw [if_pos rfl, h1.o6, Option.bind_some, T_sign h1 (by omega), Option.bind_some, sg_pAt, pAt_pAt] at hnm
      by_cases c58 : sg L M (p + 1) = nI 58
      · -- a write
        have b2 : p + 1 < L := by
          by_cases hh : p + 1 < L
          · exact hh
          · unfold sg at c58; rw [if_neg hh] at c58; exact absurd c58 (by decide)
        have t1 : M.1 (25, 0, 0) (p + 1) = nI 58 := by have : sg L M (p + 1) = M.1 (25, 0, 0) (p + 1) := if_pos b2; rw [← this]; exact c58
        have h3 : TS j L (p + 2) (R + 1) st (pAr j 2 R (pAt j (p + 2) M)) := h2.add hR
        have h4 : TS j L (p + 2) (R + 1) st (xsi (pAr j 2 R (pAt j (p + 2) M)) (28, 0, j) R (nI v)) := h3.setr (by decide)
        have f4 : FrT j R M (xsi (pAr j 2 R (pAt j (p + 2) M)) (28, 0, j) R (nI v)) := FrT.rfl'.at.add.w (by decide) (by omega)
        rw [if_pos (show sg L M (p + 1) = (58 : Int32) from c58)] at hnm
        dsimp only at hnm
        rw [if_neg (by decide)] at hnm
        unfold fT_readNaming_38 fT_readNaming_48 at hnm
        rw [if_pos rfl, show p + 1 + 1 = p + 2 from rfl, h2.o6, Option.bind_some, show fT_addRow (pAt j (p + 2) M) (26, 0, j) (2 : Int32) = _ from T_add h2 hR, Option.bind_some] at hnm
        dsimp only at hnm
        rw [h3.tr (k := 1) (by decide), Option.bind_some, h3.o6, Option.bind_some, T_set h3 (by decide), Option.bind_some, if_pos rfl, show xsi (pAr j 2 R (pAt j (p + 2) M)) (27 + 1, 0, j) R (nI v) = xsi (pAr j 2 R (pAt j (p + 2) M)) (28, 0, j) R (nI v) from rfl, h4.o6, Option.bind_some] at hnm
        rw [if_pos (okI_1 (a := 58) (by decide) c58)] at hset
        dsimp only at hset
        rw [if_neg (by decide), show p + 1 + 1 = p + 2 from rfl, m2.ob, Option.bind_some, S_rdnum m2 hL (by omega), Option.bind_some, sgm_mAt, sgm_mAt, sgm_mAt, sgm_ext hτ, hτ, mAt_mAt] at hset
        have hin := T_numInto h4 (by omega)
        rw [sg_fr f4, nE_fr f4, f4.t25] at hin
        by_cases c2 : okI 48 57 (sg L M (p + 2)) = true
        · obtain ⟨n, g1, g2, g3, g4⟩ := hin.2 c2
          rw [g2, Option.bind_some, if_pos (Or.inr rfl)] at hnm
          rw [if_pos c2] at hset
          dsimp only at hset
          rw [if_neg (by decide)] at hset
          refine Or.inr (Or.inl ⟨p + 2 + (nE L M (p + 2) + 1), _, mAt (p + 2 + (nE L M (p + 2) + 1)) X, ?_, (h4.at (p' := p + 2 + (nE L M (p + 2) + 1))).setr (k := 31) (i := R) (v := nI n) (by decide), f4.at.w (by decide) (by omega), Or.inr (Or.inr (Or.inl ⟨v, n, nE L M (p + 2), by omega, g1, ?_, ?_, ?_, t0, t1, g3, rfl⟩)), ?_, ?_, g4, ?_, hm.at, FrM.rfl'.w (Or.inl rfl)⟩)
          · rw [hbeg, hnm, Option.bind_some, if_pos (Or.inr rfl)]
          · simp [pAt, pAr, xsi_1]
          · simp [pAt, pAr, xsi_1]
          · simp [pAt, pAr, xsi_1]
          · exact opB_n (a := 2) (by simp [pAt, pAr, xsi_1]) (by omega)
          · exact clB_n (a := 2) (by simp [pAt, pAr, xsi_1]) (by omega)
          · rw [hst, hset, Option.bind_some]
        · rw [hin.1 (bfal c2), Option.bind_some, if_pos (Or.inl rfl)] at hnm
          rw [if_neg c2] at hset
          dsimp only at hset
          rw [if_pos rfl] at hset
          refine Or.inl ⟨p + 2, _, mAt (p + 2) X, ?_, ?_, f4.w (κ := 31) (i := R) (v := -1) (by decide) (by omega), ?_, m2.2.2.1, FrM.rfl'.w (Or.inl rfl), by omega⟩
          · rw [hbeg, hnm, Option.bind_some, if_pos (Or.inl rfl)]
          · simp [pAt, pAr, xsi_1]
          · rw [hst, hset, Option.bind_some]
      · rw [if_neg (show ¬ sg L M (p + 1) = (58 : Int32) from c58)] at hnm
        dsimp only at hnm
        rw [if_pos rfl] at hnm
        rw [if_neg (okI_0 (a := 58) (by decide) c58)] at hset
        dsimp only at hset
        rw [if_pos rfl, m1.ob, Option.bind_some, show fM_reads (mAt (p + 1) X) (44, 0, 0) (61 : Int32) (61 : Int32) = _ from S_reads m1 hL (by omega), Option.bind_some, sgm_mAt, hτ, if_neg (okI_0 (a := 61) (by decide) c61)] at hset
        dsimp only at hset
        rw [if_pos rfl] at hset
        refine Or.inl ⟨p + 1, _, mAt (p + 1) X, ?_, h1.2.2.2.2.2.2.2.1, FrT.rfl'.at, ?_, m1.2.2.1, FrM.rfl'.w (Or.inl rfl), by omega⟩
        · rw [hbeg, hnm, Option.bind_some, if_pos (Or.inl rfl)]
        · rw [hst, hset, Option.bind_some]
  · rw [if_neg c1] at hnm hst
    dsimp only at hnm
    rw [if_pos rfl] at hnm
    rw [if_neg (show ¬ sg L M p = (33 : Int32) from n33), if_neg (show ¬ sg L M p = (63 : Int32) from n63), if_neg (show ¬ sg L M p = (126 : Int32) from n126)] at hst
    refine Or.inl ⟨p, M, mAt p X, ?_, h.2.2.2.2.2.2.2.1, FrT.rfl', hst, (hm.at (p' := p)).2.2.1, FrM.rfl'.w (Or.inl rfl), by omega⟩
    rw [hbeg, hnm, Option.bind_some, if_pos (Or.inl rfl)]
/-- a statement, whatever it is -/
theorem P_stm {j L p R : Nat} {st : List Nat} {M X : xMem} (h : TS j L p R st M) (hm : MT L p st.length X) (hτ : ∀ q, sgm L X q = sg L M q) (hp : p < L) (hR : R < 100) : SOUT j L p R st M X := by
  by_cases c1 : sg L M p = nI 33
  · exact rTk_tick h hm hτ hp hR c1
  · by_cases c2 : sg L M p = nI 126
    · exact p_give h hm hτ hp hR c2
    · by_cases c3 : sg L M p = nI 63
      · exact p_ask h hm hτ hp hR c3
      · by_cases c4 : okI 48 57 (sg L M p) = true
        · exact p_many h hm hτ hp hR c4
        · exact p_name h hm hτ hp hR (bfal c4) c1 c3 c2
