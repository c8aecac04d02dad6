/-! a trace is read: the class's pieces -/
def TS (j L p R : Nat) (st : List Nat) (M : xMem) : Prop := XW M ∧ j < 2 ∧ L ≤ 100 ∧ R ≤ 100 ∧ st.length ≤ 5 ∧ M.2.2.1 (26, 0, j) 8 = some (25, 0, 0) ∧ M.1 (26, 0, j) 9 = nI L ∧ M.1 (26, 0, j) 10 = nI p ∧ M.1 (26, 0, j) 6 = nI R ∧ M.1 (33, 0, j) 1 = nI st.length ∧ plL (M.1 (34, 0, j)) st
/-- the letter at p, or -1 -/
def sg (L : Nat) (M : xMem) (p : Nat) : Int32 := if p < L then M.1 (25, 0, 0) p else -1
def pAt (j p : Nat) (M : xMem) : xMem := xsi M (26, 0, j) 10 (nI p)
def pAr (j a R : Nat) (M : xMem) : xMem := xsi (xsi M (27, 0, j) R (nI a)) (26, 0, j) 6 (nI (R + 1))
theorem TS.at {j L p p' R : Nat} {st : List Nat} {M : xMem} (h : TS j L p R st M) : TS j L p' R st (pAt j p' M) := by
  obtain ⟨h1, h2, h3, h4, h5, h6, h7, h8, h9, h10, h11⟩ := h
  unfold pAt
  exact ⟨h1, h2, h3, h4, h5, h6, by rw [xsi_1, if_neg (fun e => absurd e.2 (by decide))]; exact h7, by rw [xsi_1, if_pos ⟨rfl, rfl⟩], by rw [xsi_1, if_neg (fun e => absurd e.2 (by decide))]; exact h9, by rw [xsi_1, if_neg (fun e => absurd (Prod.mk.inj e.1).1 (by decide))]; exact h10, plL_w h11 (fun i _ => by rw [xsi_1, if_neg (fun e => absurd (Prod.mk.inj e.1).1 (by decide))])⟩
theorem TS.setr {j L p R k i : Nat} {v : Int32} {st : List Nat} {M : xMem} (h : TS j L p R st M) (hk : 27 ≤ k ∧ k ≤ 32) : TS j L p R st (xsi M (k, 0, j) i v) := by
  obtain ⟨h1, h2, h3, h4, h5, h6, h7, h8, h9, h10, h11⟩ := h
  have n26 : ∀ q, ¬ (((26, 0, j) : xId) = (k, 0, j) ∧ q = i) := fun q e => by have := (Prod.mk.inj e.1).1; omega
  exact ⟨h1, h2, h3, h4, h5, h6, by rw [xsi_1, if_neg (n26 _)]; exact h7, by rw [xsi_1, if_neg (n26 _)]; exact h8, by rw [xsi_1, if_neg (n26 _)]; exact h9, by rw [xsi_1, if_neg (fun e => by have := (Prod.mk.inj e.1).1; omega)]; exact h10, plL_w h11 (fun q _ => by rw [xsi_1, if_neg (fun e => by have := (Prod.mk.inj e.1).1; omega)])⟩
theorem TS.add {j L p R a : Nat} {st : List Nat} {M : xMem} (h : TS j L p R st M) (hR : R < 100) : TS j L p (R + 1) st (pAr j a R M) := by
  obtain ⟨h1, h2, h3, h4, h5, h6, h7, h8, h9, h10, h11⟩ := h.setr (k := 27) (i := R) (v := nI a) (by decide)
  unfold pAr
  exact ⟨h1, h2, h3, hR, h5, h6, by rw [xsi_1, if_neg (fun e => absurd e.2 (by decide))]; exact h7, by rw [xsi_1, if_neg (fun e => absurd e.2 (by decide))]; exact h8, by rw [xsi_1, if_pos ⟨rfl, rfl⟩], by rw [xsi_1, if_neg (fun e => absurd (Prod.mk.inj e.1).1 (by decide))]; exact h10, plL_w h11 (fun i _ => by rw [xsi_1, if_neg (fun e => absurd (Prod.mk.inj e.1).1 (by decide))])⟩
theorem TS.o6 {j L p R : Nat} {st : List Nat} {M : xMem} (h : TS j L p R st M) : xob M (some (26, 0, j)) 6 = some (26, 0, j) := xob_w h.1 (sh_26 h.2.1)
theorem TS.gI {j L p R k : Nat} {st : List Nat} {M : xMem} (h : TS j L p R st M) : xgI M (some (26, 0, j)) 6 k = some (M.1 (26, 0, j) k) := xgI_w h.1 (sh_26 h.2.1)
theorem TS.pI {j L p R k : Nat} {v : Int32} {st : List Nat} {M : xMem} (h : TS j L p R st M) : xpI M (some (26, 0, j)) 6 k v = some (xsi M (26, 0, j) k v) := xpI_w h.1 (sh_26 h.2.1)
theorem TS.tr {j L p R k : Nat} {st : List Nat} {M : xMem} (h : TS j L p R st M) (hk : k < 6) : xgR M (some (26, 0, j)) 6 k = some (some (27 + k, 0, j)) := by
  rw [xgR_w h.1 (sh_26 h.2.1) (by decide) (by omega) (by unfold xmut; simp; omega)]
  congr 1
  rcases (show k = 0 ∨ k = 1 ∨ k = 2 ∨ k = 3 ∨ k = 4 ∨ k = 5 by omega) with rfl | rfl | rfl | rfl | rfl | rfl <;> rfl
theorem TS.shr {j L p R k : Nat} {st : List Nat} {M : xMem} (h : TS j L p R st M) (hk : 27 ≤ k ∧ k ≤ 32) : xsh (k, 0, j) = some (20, 100) := by
  have hj := h.2.1
  rcases (show k = 27 ∨ k = 28 ∨ k = 29 ∨ k = 30 ∨ k = 31 ∨ k = 32 by omega) with rfl | rfl | rfl | rfl | rfl | rfl
  · exact sh_27 hj
  · exact sh_28 hj
  · exact sh_29 hj
  · exact sh_30 hj
  · exact sh_31 hj
  · exact sh_32 hj
theorem T_letter {j L p R : Nat} {st : List Nat} {M : xMem} (h : TS j L p R st M) (hp : p ≤ 100) : fT_letter M (26, 0, j) = some (sg L M p, M) := by
  have hL := h.2.2.1
  unfold fT_letter sg
  rw [h.gI (k := 10), Option.bind_some, h.gI (k := 9), Option.bind_some, h.2.2.2.2.2.2.1, h.2.2.2.2.2.2.2.1]
  by_cases h1 : p < L
  · rw [if_neg (show ¬ nI L ≤ nI p from by rw [nI_leI (by omega) (by omega)]; omega), if_pos h1, Option.bind_some, show xgR M (some (26, 0, j)) 6 8 = some (some (25, 0, 0)) from (xgR_v h.1 (sh_26 h.2.1)).trans (congrArg some h.2.2.2.2.2.1), Option.bind_some, xal_w h.1 sh_25 (by decide) (by decide), Option.bind_some, if_neg (show ¬ nI 100 ≤ nI p from by rw [nI_leI (by decide) (by omega)]; omega), Option.bind_some, Option.bind_some, xaI_w h.1 sh_25 (by omega) (by decide), Option.bind_some]
  · rw [if_pos (show nI L ≤ nI p from nI_le (by omega) (by omega)), if_neg h1]
theorem T_one {j L p R lo hi : Nat} {st : List Nat} {M : xMem} (h : TS j L p R st M) (hp : p ≤ 100) (hh : hi < 2 ^ 30) : fT_readOneOf M (26, 0, j) (nI lo) (nI hi) = some (if okI lo hi (sg L M p) = true then (sg L M p - nI lo, pAt j (p + 1) M) else (-1, M)) := by
  unfold fT_readOneOf pAt
  rw [h.o6, Option.bind_some, T_letter h hp, Option.bind_some]
  dsimp only
  unfold okI
  by_cases h1 : sg L M p < nI lo
  · rw [if_pos h1, if_pos h1, if_neg (by decide)]
  · rw [if_neg h1, if_neg h1]
    by_cases h2 : nI hi < sg L M p
    · have h3 : ¬ sg L M p ≤ nI hi := fun e => by
        rw [Int32.lt_iff_toInt_lt] at h2
        rw [Int32.le_iff_toInt_le] at e
        omega
      rw [if_neg h3, if_pos h2, if_neg (by decide)]
    · have h3 : sg L M p ≤ nI hi := by
        rw [Int32.lt_iff_toInt_lt] at h2
        rw [Int32.le_iff_toInt_le]
        omega
      rw [if_pos h3, if_neg h2, if_pos rfl, h.gI, Option.bind_some, h.2.2.2.2.2.2.2.1, nI_k1, h.pI, Option.bind_some]
theorem T_sign {j L p R : Nat} {v : Int32} {st : List Nat} {M : xMem} (h : TS j L p R st M) (hp : p ≤ 100) : fT_readSign M (26, 0, j) v = some (if sg L M p = v then (1, pAt j (p + 1) M) else (0, M)) := by
  unfold fT_readSign pAt
  rw [h.o6, Option.bind_some, T_letter h hp, Option.bind_some]
  dsimp only
  by_cases h1 : sg L M p = v
  · rw [if_pos h1, if_pos h1, h.gI, Option.bind_some, h.2.2.2.2.2.2.2.1, nI_k1, h.pI, Option.bind_some]
  · rw [if_neg h1, if_neg h1]
theorem T_add {j L p R a : Nat} {st : List Nat} {M : xMem} (h : TS j L p R st M) (hR : R < 100) : fT_addRow M (26, 0, j) (nI a) = some (1, pAr j a R M) := by
  have h' : TS j L p R st (xsi M (27, 0, j) R (nI a)) := h.setr (by decide)
  unfold fT_addRow pAr
  rw [h.gI, Option.bind_some, h.2.2.2.2.2.2.2.2.1, h.tr (k := 0) (by decide), Option.bind_some, xal_w h.1 (h.shr (k := 27) (by decide)) (by decide) (by decide), Option.bind_some, if_pos (show nI R < nI 100 from by rw [nI_ltI (by omega) (by decide)]; exact hR), Option.bind_some, Option.bind_some, xuI_w h.1 (h.shr (k := 27) (by decide)) hR (by decide), Option.bind_some, h'.gI, Option.bind_some, h'.2.2.2.2.2.2.2.2.1, nI_k1, h'.pI, Option.bind_some]
theorem T_set {j L p R k : Nat} {v : Int32} {st : List Nat} {M : xMem} (h : TS j L p (R + 1) st M) (hk : 27 ≤ k ∧ k ≤ 32) : fT_setInRow M (26, 0, j) (some (k, 0, j)) v = some (xsi M (k, 0, j) R v) := by
  have hR := h.2.2.2.1
  unfold fT_setInRow
  rw [h.gI, Option.bind_some, h.2.2.2.2.2.2.2.2.1, if_neg (show ¬ nI (R + 1) ≤ 0 from by rw [kl_0, nI_leI (by omega) (by decide)]; omega), Option.bind_some, xal_w h.1 (h.shr hk) (by decide) (by decide), Option.bind_some, if_neg (show ¬ nI 100 < nI (R + 1) from by rw [nI_ltI (by decide) (by omega)]; omega), Option.bind_some, kl_1, pk_sub (by omega), Nat.add_sub_cancel, xuI_w h.1 (h.shr hk) (by omega) (by decide), Option.bind_some]
theorem ok_val {lo hi L p : Nat} {M : xMem} (hl : lo < 2 ^ 31) (hh : hi + 1 < 2 ^ 31) (h : okI lo hi (sg L M p) = true) : ∃ k, sg L M p = nI (lo + k) ∧ lo + k ≤ hi ∧ sg L M p - nI lo = nI k := by
  obtain ⟨v, e, h1, h2⟩ := okI_v hl hh h
  refine ⟨v - lo, ?_, by omega, ?_⟩
  · rw [e, show lo + (v - lo) = v from by omega]
  · rw [e, pk_sub h1]
/-- one of 0 to 3 into the last row -/
theorem T_into {j L p R k : Nat} {st : List Nat} {M : xMem} (h : TS j L p (R + 1) st M) (hp : p ≤ 100) (hk : 27 ≤ k ∧ k ≤ 32) : fT_readInto M (26, 0, j) (some (k, 0, j)) = some (if okI 48 51 (sg L M p) = true then (1, xsi (pAt j (p + 1) M) (k, 0, j) R (sg L M p - nI 48)) else (0, xsi M (k, 0, j) R (-1))) := by
  have h' : TS j L (p + 1) (R + 1) st (pAt j (p + 1) M) := h.at
  unfold fT_readInto
  rw [h.o6, Option.bind_some, show fT_readOneOf M (26, 0, j) (48 : Int32) (51 : Int32) = _ from T_one h hp (by decide), Option.bind_some]
  by_cases h1 : okI 48 51 (sg L M p) = true
  · obtain ⟨q, e1, e2, e3⟩ := ok_val (by decide) (by decide) h1
    rw [if_pos h1, if_pos h1]
    dsimp only
    rw [h'.o6, Option.bind_some, T_set h' hk, Option.bind_some, e3, if_neg (show ¬ nI q = (-1 : Int32) from fun e => nI_pos (show q < 2 ^ 31 by omega) (e ▸ (by decide)))]
  · rw [if_neg h1, if_neg h1]
    dsimp only
    rw [h.o6, Option.bind_some, T_set h hk, Option.bind_some, if_pos rfl]
theorem sg_pAt {j L p q : Nat} {M : xMem} : sg L (pAt j p M) q = sg L M q := by
  have e : (xsi M (26, 0, j) 10 (nI p)).1 (25, 0, 0) q = M.1 (25, 0, 0) q := by rw [xsi_1, if_neg (fun e => absurd (Prod.mk.inj e.1).1 (by decide))]
  unfold sg pAt
  rw [e]
theorem pAt_pAt {j p q : Nat} {M : xMem} : pAt j p (pAt j q M) = pAt j p M := xsi_xsi
/-- digits behind the first -/
def nE (L : Nat) (M : xMem) (p : Nat) : Nat := if okI 48 57 (sg L M (p + 1)) = true then (if okI 48 57 (sg L M (p + 2)) = true then 2 else 1) else 0
theorem sg_lt {L lo hi p : Nat} {M : xMem} (hl : lo < 2 ^ 31) (hh : hi + 1 < 2 ^ 31) (h : okI lo hi (sg L M p) = true) : p < L ∧ sg L M p = M.1 (25, 0, 0) p := by
  by_cases hp : p < L
  · exact ⟨hp, if_pos hp⟩
  · obtain ⟨v, e, -, -⟩ := okI_v hl hh h
    unfold sg at e
    rw [if_neg hp] at e
    exact absurd e.symm (fun e => nI_pos (show v < 2 ^ 31 by
      have := okI_v hl hh h
      obtain ⟨v', e', h1, h2⟩ := this
      unfold sg at e'
      rw [if_neg hp] at e'
      have h3 : (nI v').toInt = (v' : Int) := nI_toInt (by omega)
      rw [← e'] at h3
      have h4 : (-1 : Int32).toInt = -1 := by decide
      omega) (e ▸ (by decide)))
theorem dg_val {L p : Nat} {M : xMem} (h : okI 48 57 (sg L M p) = true) : ∃ k, k < 10 ∧ p < L ∧ M.1 (25, 0, 0) p = nI (48 + k) ∧ sg L M p - nI 48 = nI k := by
  obtain ⟨k, e1, e2, e3⟩ := ok_val (by decide) (by decide) h
  have h1 := sg_lt (by decide) (by decide) h
  exact ⟨k, by omega, h1.1, h1.2 ▸ e1, e3⟩
theorem T_num {j L p R : Nat} {st : List Nat} {M : xMem} (h : TS j L p R st M) (hp : p + 3 ≤ 103) : (okI 48 57 (sg L M p) = false → fT_readNumber M (26, 0, j) = some (-1, M)) ∧ (okI 48 57 (sg L M p) = true → ∃ n, nE L M p < 3 ∧ fT_readNumber M (26, 0, j) = some (nI n, pAt j (p + (nE L M p + 1)) M) ∧ NumD (M.1 (25, 0, 0)) (nE L M p + 1) p n 0 ∧ p + (nE L M p + 1) ≤ L) := by
  have hL := h.2.2.1
  have st1 : ∀ (M' : xMem) (q l i f : Nat), TS j L q R st M' → q ≤ 100 → i < 3 → l < 1000 → fT_readNumber_11 (f + 1) M' (some (26, 0, j)) (nI l) (nI i) = if okI 48 57 (sg L M' q) = true then fT_readNumber_11 f (pAt j (q + 1) M') (some (26, 0, j)) (nI l * (10 : Int32) + (sg L M' q - nI 48)) (nI (i + 1)) else some (nI l, M') := fun M' q l i f h' hq hi hl => by
    rw [show fT_readNumber_11 (f + 1) M' (some (26, 0, j)) (nI l) (nI i) = _ from by unfold fT_readNumber_11; rfl]
    rw [if_neg (show ¬ nI l = (-1 : Int32) from fun e => nI_pos (show l < 2 ^ 31 by omega) (e ▸ (by decide))), if_neg (show ¬ (3 : Int32) ≤ nI i from by rw [show (3 : Int32) = nI 3 from rfl, nI_leI (by decide) (by omega)]; omega), h'.o6, Option.bind_some, show fT_readOneOf M' (26, 0, j) (48 : Int32) (57 : Int32) = _ from T_one h' hq (by decide), Option.bind_some]
    by_cases h1 : okI 48 57 (sg L M' q) = true
    · obtain ⟨k, hk, -, -, e3⟩ := dg_val h1
      rw [if_pos h1, if_pos h1]
      dsimp only
      rw [e3, if_neg (show ¬ nI k = (-1 : Int32) from fun e => nI_pos (show k < 2 ^ 31 by omega) (e ▸ (by decide))), nI_k1]
    · rw [if_neg h1, if_neg h1]
      dsimp only
      rw [if_pos rfl]
  have st3 : ∀ (M' : xMem) (l f : Nat), l < 2 ^ 31 → fT_readNumber_11 (f + 1) M' (some (26, 0, j)) (nI l) (nI 3) = some (nI l, M') := fun M' l f hl => by
    unfold fT_readNumber_11
    rw [if_neg (show ¬ nI l = (-1 : Int32) from fun e => nI_pos hl (e ▸ (by decide))), if_pos (by decide)]
  have mk : ∀ a k, nI a * (10 : Int32) + nI k = nI (10 * a + k) := fun a k => by rw [kl_10, pk_mul, nI_add, Nat.mul_comm]
  constructor
  · intro h0
    unfold fT_readNumber
    rw [h.o6, Option.bind_some, show fT_readOneOf M (26, 0, j) (48 : Int32) (57 : Int32) = _ from T_one h (by omega) (by decide), Option.bind_some, if_neg (by rw [h0]; decide)]
    dsimp only
    obtain ⟨q, hq⟩ : ∃ q, xF = q + 1 := ⟨1999999, rfl⟩
    rw [hq]
    unfold fT_readNumber_11
    rw [if_pos rfl]
  · intro h0
    obtain ⟨k, hk, hpL, t0, e3⟩ := dg_val h0
    obtain ⟨q, hq⟩ : ∃ q, xF = q + 1 + 1 + 1 := ⟨1999997, rfl⟩
    unfold fT_readNumber nE
    rw [h.o6, Option.bind_some, show fT_readOneOf M (26, 0, j) (48 : Int32) (57 : Int32) = _ from T_one h (by omega) (by decide), Option.bind_some, if_pos h0]
    dsimp only
    rw [e3, hq, kl_1, st1 (pAt j (p + 1) M) (p + 1) k 1 (q + 1 + 1) h.at (by omega) (by decide) (by omega), sg_pAt]
    by_cases h1 : okI 48 57 (sg L M (p + 1)) = true
    · obtain ⟨k1, hk1, hpL1, t1, e31⟩ := dg_val h1
      rw [if_pos h1, if_pos h1, e31, mk, pAt_pAt, st1 (pAt j (p + 1 + 1) M) (p + 1 + 1) (10 * k + k1) (1 + 1) (q + 1) h.at (by omega) (by decide) (by omega), sg_pAt]
      by_cases h2 : okI 48 57 (sg L M (p + 2)) = true
      · obtain ⟨k2, hk2, hpL2, t2, e32⟩ := dg_val h2
        rw [if_pos h2, if_pos h2, e32, mk, pAt_pAt, st3 _ _ _ (by omega)]
        exact ⟨10 * (10 * k + k1) + k2, by omega, rfl, ⟨k, hk, t0, k1, hk1, t1, k2, hk2, t2, rfl, by omega⟩, by omega⟩
      · rw [if_neg h2, if_neg h2]
        exact ⟨10 * k + k1, by omega, rfl, ⟨k, hk, t0, k1, hk1, t1, rfl, by omega⟩, by omega⟩
    · rw [if_neg h1, if_neg h1]
      exact ⟨k, by omega, rfl, ⟨k, hk, t0, rfl, by omega⟩, by omega⟩
/-! the model's pieces -/
def MT (L p k : Nat) (X : xMem) : Prop := XW X ∧ X.1 (44, 0, 0) 42 = nI L ∧ X.1 (44, 0, 0) 44 = nI p ∧ X.1 (44, 0, 0) 45 = nI k
def mAt (p : Nat) (X : xMem) : xMem := xsi X (44, 0, 0) 44 (nI p)
def sgm (L : Nat) (X : xMem) (p : Nat) : Int32 := if p < L then X.1 (75, 0, 0) p else -1
theorem MT.at {L p p' k : Nat} {X : xMem} (h : MT L p k X) : MT L p' k (mAt p' X) := by
  unfold mAt
  exact ⟨h.1, by rw [xsi_1, if_neg (by decide)]; exact h.2.1, by rw [xsi_1, if_pos ⟨rfl, rfl⟩], by rw [xsi_1, if_neg (by decide)]; exact h.2.2.2⟩
theorem MT.gI {L p k q : Nat} {X : xMem} (h : MT L p k X) : xgI X (some (44, 0, 0)) 8 q = some (X.1 (44, 0, 0) q) := xgI_w h.1 sh_44
theorem MT.pI {L p k q : Nat} {v : Int32} {X : xMem} (h : MT L p k X) : xpI X (some (44, 0, 0)) 8 q v = some (xsi X (44, 0, 0) q v) := xpI_w h.1 sh_44
theorem MT.ob {L p k : Nat} {X : xMem} (h : MT L p k X) : xob X (some (44, 0, 0)) 8 = some (44, 0, 0) := xob_w h.1 sh_44
theorem sgm_mAt {L p q : Nat} {X : xMem} : sgm L (mAt p X) q = sgm L X q := by
  have e : (xsi X (44, 0, 0) 44 (nI p)).1 (75, 0, 0) q = X.1 (75, 0, 0) q := by rw [xsi_1, if_neg (fun e => absurd e.1 (by decide))]
  unfold sgm mAt
  rw [e]
theorem mAt_mAt {p q : Nat} {X : xMem} : mAt p (mAt q X) = mAt p X := xsi_xsi
theorem S_sign {L p k : Nat} {X : xMem} (h : MT L p k X) (hL : L ≤ 100) (hp : p ≤ 200) : fM_signOf X (44, 0, 0) = some (sgm L X p, X) := by
  have hr : xgR X (some (44, 0, 0)) 8 38 = some (some (75, 0, 0)) := (xgR_w h.1 sh_44 (by decide) (by decide) rfl).trans rfl
  unfold fM_signOf sgm
  rw [h.gI (q := 44), Option.bind_some, h.gI (q := 42), Option.bind_some, h.2.1, h.2.2.1]
  by_cases h1 : p < L
  · rw [if_neg (show ¬ nI L ≤ nI p from by rw [nI_leI (by omega) (by omega)]; omega), if_pos h1, hr, Option.bind_some, Option.bind_some, xaI_w h.1 sh_75 (by omega) (by decide), Option.bind_some]
  · rw [if_pos (show nI L ≤ nI p from nI_le (by omega) (by omega)), if_neg h1]
theorem S_reads {L p k lo hi : Nat} {X : xMem} (h : MT L p k X) (hL : L ≤ 100) (hp : p ≤ 200) : fM_reads X (44, 0, 0) (nI lo) (nI hi) = some (if okI lo hi (sgm L X p) = true then (1, mAt (p + 1) X) else (0, X)) := by
  unfold fM_reads mAt
  rw [h.ob, Option.bind_some, S_sign h hL hp, Option.bind_some]
  dsimp only
  rw [M_isInG, Option.bind_some]
  dsimp only
  by_cases h1 : okI lo hi (sgm L X p) = true
  · rw [if_neg (by rw [h1]; decide), if_pos h1, h.gI, Option.bind_some, h.2.2.1, nI_k1, h.pI, Option.bind_some]
  · rw [if_pos (by rw [bfal h1]; rfl), if_neg h1]
theorem S_rdnum {L p k : Nat} {X : xMem} (h : MT L p k X) (hL : L ≤ 100) (hp : p ≤ 150) : fM_readsNumber X (44, 0, 0) = some (if okI 48 57 (sgm L X p) = true then (1, mAt (p + ((if okI 48 57 (sgm L X (p + 1)) = true then (if okI 48 57 (sgm L X (p + 2)) = true then 2 else 1) else 0) + 1)) X) else (0, X)) := by
  have h1 : MT L (p + 1) k (mAt (p + 1) X) := h.at
  have h2 : MT L (p + 2) k (mAt (p + 2) X) := h.at
  unfold fM_readsNumber
  rw [h.ob, Option.bind_some, show fM_reads X (44, 0, 0) (48 : Int32) (57 : Int32) = _ from S_reads h hL (by omega), Option.bind_some]
  by_cases c0 : okI 48 57 (sgm L X p) = true
  · rw [if_pos c0, if_pos c0]
    dsimp only
    rw [if_neg (by decide), h1.ob, Option.bind_some, show fM_reads (mAt (p + 1) X) (44, 0, 0) (48 : Int32) (57 : Int32) = _ from S_reads h1 hL (by omega), Option.bind_some, sgm_mAt]
    by_cases c1 : okI 48 57 (sgm L X (p + 1)) = true
    · rw [if_pos c1, if_pos c1, mAt_mAt]
      dsimp only
      rw [if_neg (by decide), show mAt (p + 1 + 1) X = mAt (p + 2) X from rfl, h2.ob, Option.bind_some, show fM_reads (mAt (p + 2) X) (44, 0, 0) (48 : Int32) (57 : Int32) = _ from S_reads h2 hL (by omega), Option.bind_some, sgm_mAt]
      by_cases c2 : okI 48 57 (sgm L X (p + 2)) = true
      · rw [if_pos c2, if_pos c2, mAt_mAt]
      · rw [if_neg c2, if_neg c2]
    · rw [if_neg c1, if_neg c1]
      dsimp only
      rw [if_pos rfl]
  · rw [if_neg c0, if_neg c0]
    dsimp only
    rw [if_pos rfl]
