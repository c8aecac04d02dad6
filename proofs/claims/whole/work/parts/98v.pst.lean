/-! a statement is read -/
def FrT (j R : Nat) (M M' : xMem) : Prop := (∀ κ r, 27 ≤ κ → κ ≤ 32 → r < R → M'.1 (κ, 0, j) r = M.1 (κ, 0, j) r) ∧ (∀ a x, ¬ (26 ≤ a.1 ∧ a.1 ≤ 34 ∧ a.2.2 = j) → M'.1 a x = M.1 a x) ∧ M'.2 = M.2
theorem FrT.rfl' {j R : Nat} {M : xMem} : FrT j R M M := ⟨fun _ _ _ _ _ => rfl, fun _ _ _ => rfl, rfl⟩
theorem FrT.tr {j R R' : Nat} {M M' M'' : xMem} (h : FrT j R M M') (h2 : FrT j R' M' M'') (hR : R ≤ R') : FrT j R M M'' := ⟨fun κ r a b c => (h2.1 κ r a b (by omega)).trans (h.1 κ r a b c), fun a x e => (h2.2.1 a x e).trans (h.2.1 a x e), h2.2.2.trans h.2.2⟩
theorem FrT.w {j R κ i : Nat} {v : Int32} {M M' : xMem} (h : FrT j R M M') (hκ : 26 ≤ κ ∧ κ ≤ 34) (hi : R ≤ i ∨ κ < 27 ∨ 32 < κ) : FrT j R M (xsi M' (κ, 0, j) i v) := ⟨fun κ' r a b c => by
  rw [xsi_1, if_neg (fun e => by have := (Prod.mk.inj e.1).1; omega)]; exact h.1 κ' r a b c, fun a x e => by
  rw [xsi_1, if_neg (fun e2 => e (by rw [e2.1]; exact ⟨hκ.1, hκ.2, rfl⟩))]; exact h.2.1 a x e, h.2.2⟩
theorem FrT.at {j R p : Nat} {M M' : xMem} (h : FrT j R M M') : FrT j R M (pAt j p M') := h.w (by decide) (by omega)
theorem FrT.add {j R a : Nat} {M M' : xMem} (h : FrT j R M M') : FrT j R M (pAr j a R M') := (h.w (by decide) (by omega)).w (by decide) (by omega)
theorem FrT.t25 {j R : Nat} {M M' : xMem} (h : FrT j R M M') : M'.1 (25, 0, 0) = M.1 (25, 0, 0) := by
  funext x; exact h.2.1 _ _ (fun e => by have := e.1; omega)
theorem sg_fr {j R L : Nat} {M M' : xMem} (h : FrT j R M M') (q : Nat) : sg L M' q = sg L M q := by
  unfold sg
  rw [h.t25]
def FrM (X X' : xMem) : Prop := (∀ a x, ¬ (a = (44, 0, 0) ∧ (x = 44 ∨ x = 45)) → X'.1 a x = X.1 a x) ∧ X'.2 = X.2
theorem FrM.rfl' {X : xMem} : FrM X X := ⟨fun _ _ _ => rfl, rfl⟩
theorem FrM.tr {X Y Z : xMem} (h : FrM X Y) (h2 : FrM Y Z) : FrM X Z := ⟨fun a x e => (h2.1 a x e).trans (h.1 a x e), h2.2.trans h.2⟩
theorem FrM.w {k : Nat} {v : Int32} {X Y : xMem} (h : FrM X Y) (hk : k = 44 ∨ k = 45) : FrM X (xsi Y (44, 0, 0) k v) := ⟨fun a x e => by
  rw [xsi_1, if_neg (fun e2 => e ⟨e2.1, by omega⟩)]; exact h.1 a x e, h.2⟩
theorem FrM.sgm {X X' : xMem} (h : FrM X X') (L q : Nat) : (if q < L then X'.1 (75, 0, 0) q else (-1 : Int32)) = if q < L then X.1 (75, 0, 0) q else -1 := by
  rw [h.1 _ _ (fun e => absurd e.1 (by decide))]
theorem okI_eq {a : Nat} {v : Int32} (ha : a < 2 ^ 30) : (okI a a v = true) = (v = nI a) := by
  apply propext
  constructor
  · intro h
    obtain ⟨w, rfl, h1, h2⟩ := okI_v (by omega) (by omega) h
    rw [show w = a from by omega]
  · intro h
    subst h
    unfold okI
    rw [if_neg (by rw [nI_ltI (by omega) (by omega)]; omega), if_neg (by rw [nI_ltI (by omega) (by omega)]; omega)]
theorem okI_1 {a : Nat} {v : Int32} (ha : a < 2 ^ 30) (h : v = nI a) : okI a a v = true := by rw [okI_eq ha]; exact h
theorem okI_0 {a : Nat} {v : Int32} (ha : a < 2 ^ 30) (h : ¬ v = nI a) : ¬ okI a a v = true := by rw [okI_eq ha]; exact h
/-- what has come of a statement: not read up to q, or read up to q -/
def SOUT (j L p R : Nat) (st : List Nat) (M X : xMem) : Prop :=
  (∃ q M' X', fT_readBegin M (26, 0, j) = some (0, M') ∧ M'.1 (26, 0, j) 10 = nI q ∧ FrT j R M M' ∧ fM_readsStatement X (44, 0, 0) = some (0, X') ∧ X'.1 (44, 0, 0) 44 = nI q ∧ FrM X X' ∧ q ≤ 105)
  ∨ (∃ q M' X', fT_readBegin M (26, 0, j) = some (1, M') ∧ TS j L q (R + 1) st M' ∧ FrT j R M M' ∧ RW j M' (M.1 (25, 0, 0)) R p q ∧ opB j M' R = false ∧ clB j M' R = false ∧ q ≤ L ∧ fM_readsStatement X (44, 0, 0) = some (2, X') ∧ MT L q st.length X' ∧ FrM X X')
  ∨ (∃ q M' X', fT_readBegin M (26, 0, j) = some (1, M') ∧ TS j L q (R + 1) (R :: st) M' ∧ FrT j R M M' ∧ RW j M' (M.1 (25, 0, 0)) R p q ∧ opB j M' R = true ∧ clB j M' R = false ∧ q ≤ L ∧ fM_readsStatement X (44, 0, 0) = some (1, X') ∧ MT L q (st.length + 1) X' ∧ FrM X X')
theorem isDgI {M : xMem} {x : Int32} : fM_isIn M x (48 : Int32) (57 : Int32) = some (bI (okI 48 57 x), M) := M_isInG
/-- the model's statement, behind its first letter -/
theorem S_stm {L p k : Nat} {X : xMem} (h : MT L p k X) (hL : L ≤ 100) (hp : p ≤ 100) (hd : okI 48 57 (sgm L X p) = false) : fM_readsStatement X (44, 0, 0) = (if okI 97 122 (sgm L X p) = true then (fM_readsSet (mAt (p + 1) X) (44, 0, 0)).bind fun q20 => some (q20.1, q20.2)
    else if sgm L X p = (33 : Int32) then some (2, mAt (p + 1) X)
    else if sgm L X p = (63 : Int32) then (fM_reads (mAt (p + 1) X) (44, 0, 0) (48 : Int32) (51 : Int32)).bind fun q8 => if q8.1 = 0 then some (0, q8.2) else (xob q8.2 (some (44, 0, 0)) 8).bind fun u9 => (fM_opens q8.2 u9).bind fun q10 => if q10.1 = 0 then some (0, q10.2) else some (1, q10.2)
    else if sgm L X p = (126 : Int32) then (fM_reads (mAt (p + 1) X) (44, 0, 0) (97 : Int32) (122 : Int32)).bind fun q12 => if q12.1 = 0 then some (0, q12.2) else (xob q12.2 (some (44, 0, 0)) 8).bind fun u13 => (fM_reads q12.2 u13 (64 : Int32) (64 : Int32)).bind fun q14 => if q14.1 = 0 then some (0, q14.2) else (xob q14.2 (some (44, 0, 0)) 8).bind fun u15 => (fM_reads q14.2 u15 (48 : Int32) (51 : Int32)).bind fun q16 => if q16.1 = 0 then some (0, q16.2) else some (2, q16.2)
    else some (0, mAt p X)) := by
  have h1 : MT L (p + 1) k (mAt (p + 1) X) := h.at
  have e44 : (mAt (p + 1) X).1 (44, 0, 0) 44 = nI (p + 1) := h1.2.2.1
  have eb : nI (p + 1) - (1 : Int32) = nI p := by rw [kl_1, pk_sub (by omega), Nat.add_sub_cancel]
  unfold fM_readsStatement
  rw [h.ob, Option.bind_some, S_sign h hL (by omega), Option.bind_some]
  dsimp only
  rw [isDgI, Option.bind_some]
  dsimp only
  rw [hd, if_pos (by decide), h.gI, Option.bind_some, h.2.2.1, nI_k1, h.pI, Option.bind_some, show xsi X (44, 0, 0) 44 (nI (p + 1)) = mAt (p + 1) X from rfl, isIn_az, Option.bind_some]
  dsimp only
  by_cases c1 : okI 97 122 (sgm L X p) = true
  · rw [if_neg (by rw [c1]; decide), if_pos c1, h1.ob, Option.bind_some]
  · rw [if_pos (by rw [bfal c1]; rfl), if_neg c1, h1.ob, Option.bind_some, Option.bind_some, h1.gI, Option.bind_some, e44, eb, h1.pI, Option.bind_some, show xsi (mAt (p + 1) X) (44, 0, 0) 44 (nI p) = mAt p X from xsi_xsi]
theorem rTk_tick {j L p R : Nat} {st : List Nat} {M X : xMem} (h : TS j L p R st M) (hm : MT L p st.length X) (hτ : ∀ q, sgm L X q = sg L M q) (hp : p < L) (hR : R < 100) (hv : sg L M p = nI 33) : SOUT j L p R st M X := by
  have hL := h.2.2.1
  have t0 : M.1 (25, 0, 0) p = nI 33 := by have : sg L M p = M.1 (25, 0, 0) p := if_pos hp; rw [← this]; exact hv
  have h1 : TS j L (p + 1) R st (pAt j (p + 1) M) := h.at
  refine Or.inr (Or.inl ⟨p + 1, pAr j 3 R (pAt j (p + 1) M), mAt (p + 1) X, ?_, h1.add hR, FrT.rfl'.at.add, Or.inr (Or.inr (Or.inr (Or.inl ⟨?_, t0, rfl⟩))), ?_, ?_, by omega, ?_, hm.at, FrM.rfl'.w (Or.inl rfl)⟩)
  · unfold fT_readBegin
    rw [h.o6, Option.bind_some, T_letter h (by omega), Option.bind_some]
    dsimp only
    rw [hv, if_pos (show nI 33 = (33 : Int32) from rfl), h.gI, Option.bind_some, h.2.2.2.2.2.2.2.1, nI_k1, h.pI, Option.bind_some, show xsi M (26, 0, j) 10 (nI (p + 1)) = pAt j (p + 1) M from rfl, h1.o6, Option.bind_some, show fT_addRow (pAt j (p + 1) M) (26, 0, j) (3 : Int32) = _ from T_add h1 hR, Option.bind_some, if_pos (Or.inr rfl)]
  · simp [pAt, pAr, xsi_1]
  · exact opB_n (a := 3) (by simp [pAt, pAr, xsi_1]) (by omega)
  · exact clB_n (a := 3) (by simp [pAt, pAr, xsi_1]) (by omega)
  · rw [S_stm hm hL (by omega) (by rw [hτ, hv]; decide), hτ, hv, if_neg (by decide), if_pos (show nI 33 = (33 : Int32) from rfl)]
