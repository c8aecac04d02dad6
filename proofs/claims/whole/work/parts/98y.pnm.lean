/-! repeats and namings are read -/
theorem T_numInto {j L p R : Nat} {st : List Nat} {M : xMem} (h : TS j L p (R + 1) st M) (hp : p ≤ 100) : (okI 48 57 (sg L M p) = false → fT_readNumberInto M (26, 0, j) = some (0, xsi M (31, 0, j) R (-1))) ∧ (okI 48 57 (sg L M p) = true → ∃ n, nE L M p < 3 ∧ fT_readNumberInto M (26, 0, j) = some (1, xsi (pAt j (p + (nE L M p + 1)) M) (31, 0, j) R (nI n)) ∧ NumD (M.1 (25, 0, 0)) (nE L M p + 1) p n 0 ∧ p + (nE L M p + 1) ≤ L) := by
  have hnum := T_num h (by omega)
  constructor
  · intro h0
    unfold fT_readNumberInto
    rw [h.o6, Option.bind_some, hnum.1 h0, Option.bind_some]
    dsimp only
    rw [h.tr (k := 4) (by decide), Option.bind_some, h.o6, Option.bind_some, T_set h (by decide), Option.bind_some, if_pos rfl]
  · intro h0
    obtain ⟨n, e1, e2, e3, e4⟩ := hnum.2 h0
    have hn := NumD_lt e3 e1
    have h1 : TS j L (p + (nE L M p + 1)) (R + 1) st (pAt j (p + (nE L M p + 1)) M) := h.at
    refine ⟨n, e1, ?_, e3, e4⟩
    unfold fT_readNumberInto
    rw [h.o6, Option.bind_some, e2, Option.bind_some]
    dsimp only
    rw [h1.tr (k := 4) (by decide), Option.bind_some, h1.o6, Option.bind_some, T_set h1 (by decide), Option.bind_some, if_neg (show ¬ nI n = (-1 : Int32) from fun e => nI_pos (show n < 2 ^ 31 by omega) (e ▸ (by decide)))]
theorem sgm_ext {L : Nat} {X M : xMem} (hτ : ∀ q, sgm L X q = sg L M q) (p : Nat) : (if okI 48 57 (sgm L X (p + 1)) = true then (if okI 48 57 (sgm L X (p + 2)) = true then 2 else 1) else 0) = nE L M p := by
  unfold nE; rw [hτ, hτ]
theorem nE_fr {j R L p : Nat} {M M' : xMem} (h : FrT j R M M') : nE L M' p = nE L M p := by
  unfold nE; rw [sg_fr h, sg_fr h]
theorem p_many {j L p R : Nat} {st : List Nat} {M X : xMem} (h : TS j L p R st M) (hm : MT L p st.length X) (hτ : ∀ q, sgm L X q = sg L M q) (hp : p < L) (hR : R < 100) (hv : okI 48 57 (sg L M p) = true) : SOUT j L p R st M X := by
  have hL := h.2.2.1
  have h5 := h.2.2.2.2.1
  obtain ⟨k0, hk0, -, t0, -⟩ := dg_val hv
  have sv : sg L M p = nI (48 + k0) := by have : sg L M p = M.1 (25, 0, 0) p := if_pos hp; rw [this]; exact t0
  have ne : ∀ a, a < 2 ^ 31 → a < 48 ∨ 57 < a → ¬ nI (48 + k0) = nI a := fun a h1 h2 => by rw [nI_eq (by omega) h1]; omega
  have h2 : TS j L p (R + 1) st (pAr j 4 R M) := h.add hR
  have f2 : FrT j R M (pAr j 4 R M) := FrT.rfl'.add
  have hn2 := (T_numInto h2 (by omega)).2 (by rw [sg_fr f2]; exact hv)
  obtain ⟨n, e1, e2, e3, e4⟩ := hn2
  rw [nE_fr f2] at e1 e2 e3 e4
  rw [f2.t25] at e3
  have h3 : TS j L (p + (nE L M p + 1)) (R + 1) st (xsi (pAt j (p + (nE L M p + 1)) (pAr j 4 R M)) (31, 0, j) R (nI n)) := (h2.at (p' := p + (nE L M p + 1))).setr (by decide)
  have f3 : FrT j R M (xsi (pAt j (p + (nE L M p + 1)) (pAr j 4 R M)) (31, 0, j) R (nI n)) := f2.at.w (by decide) (by omega)
  have m2 : MT L (p + (nE L M p + 1)) st.length (mAt (p + (nE L M p + 1)) X) := hm.at
  have hrep := Eq.refl (fT_readRepeat M (26, 0, j))
  conv at hrep => rhs; unfold fT_readRepeat
  rw [h.o6, Option.bind_some, show fT_addRow M (26, 0, j) (4 : Int32) = _ from T_add h hR, Option.bind_some] at hrep
  dsimp only at hrep
  rw [h2.o6, Option.bind_some, e2, Option.bind_some] at hrep
  dsimp only at hrep
  rw [if_neg (by decide), h3.o6, Option.bind_some, T_open h3 (by omega), Option.bind_some, sg_fr f3] at hrep
  have hbeg : fT_readBegin M (26, 0, j) = (fT_readRepeat M (26, 0, j)).bind fun q16 => if q16.1 = 0 ∨ q16.1 = 1 then some (q16.1, q16.2) else none := by
    unfold fT_readBegin
    rw [h.o6, Option.bind_some, T_letter h (by omega), Option.bind_some]
    dsimp only
    rw [sv, if_neg (show ¬ nI (48 + k0) = (33 : Int32) from ne 33 (by decide) (by decide)), if_neg (show ¬ nI (48 + k0) = (126 : Int32) from ne 126 (by decide) (by decide)), if_neg (show ¬ nI (48 + k0) = (63 : Int32) from ne 63 (by decide) (by decide)), if_neg (show ¬ nI (48 + k0) < (48 : Int32) from by rw [show (48 : Int32) = nI 48 from rfl, nI_ltI (by omega) (by decide)]; omega), if_neg (show ¬ (57 : Int32) < nI (48 + k0) from by rw [show (57 : Int32) = nI 57 from rfl, nI_ltI (by decide) (by omega)]; omega), h.o6, Option.bind_some]
  have hst := Eq.refl (fM_readsStatement X (44, 0, 0))
  conv at hst => rhs; unfold fM_readsStatement
  rw [hm.ob, Option.bind_some, S_sign hm hL (by omega), Option.bind_some] at hst
  dsimp only at hst
  rw [isDgI, Option.bind_some] at hst
  dsimp only at hst
  rw [hτ, hv, if_neg (by decide), hm.ob, Option.bind_some, S_rdnum hm hL (by omega), Option.bind_some, hτ, if_pos hv] at hst
  dsimp only at hst
  rw [if_neg (by decide), ← hτ, sgm_ext hτ, ← hτ (p + 2)] at hst
  trivial
