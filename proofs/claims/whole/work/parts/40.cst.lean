/-! the class's part of the memory, block b, by a state -/
def m1 : Int32 := -1
theorem km1 : (-1 : Int32) = m1 := rfl
theorem km2 : (-2 : Int32) = m1 - 1 := by decide
def qPers (t : xS) (p : Nat) : Nat := if t.1 13 p < 4 then qPer t (t.1 13 p) else 0
def qSz (t : xS) (p : Nat) : Nat := if t.1 13 p < 4 then t.1 1 (t.1 13 p) else t.1 26 p
def msk (f : Nat → Bool) : Nat → Nat
  | 0 => 0
  | n + 1 => msk f n + (if f n then 2 ^ n else 0)
/-- which of a page are free (v 0), live (v 1) -/
def fB (t : xS) (v p k : Nat) : Bool := decide (k < qPers t p) && t.1 17 (62 * p + k) == v
def cT (κ i k : Nat) : Option (Nat × Nat × Nat) := match κ with
  | 1 => if i = 0 ∧ k = 4 then some (19, 0, 0) else if i = 0 ∧ k = 6 then some (19, 1, 0) else if i = 0 ∧ k = 7 then some (19, 2, 0) else none
  | 3 => if i = 0 ∧ k < 32 then some (13, k, 1) else none
  | 4 => if i = 0 ∧ k < 32 then some (14, k, 0) else none
  | 13 => if i = 0 ∧ k < 24 then some (18, k, 0) else none
  | 14 => if i < 4 ∧ k < 13 ∧ k ≠ 3 then some (k, i, 0) else none
  | 15 => if i < 4 ∧ k < 4 then some (15, 4 * i + k, 2) else none
  | 16 => if i < 4 ∧ k < 4 then some (16, 4 * i + k, 2) else none
  | 17 => if i < 4 ∧ k = 1 then some (22, i, 0) else none
  | 18 => if i < 4 ∧ k < 24 then some (23, 24 * i + k, 0) else none
  | 19 => if i < 4 ∧ k = 1 then some (24, i, 0) else none
  | 20 => if i < 4 ∧ k < 24 then some (25, 24 * i + k, 0) else none
  | 21 => if i < 24 ∧ k = 1 then some (20, i, 0) else none
  | 22 => if i < 24 ∧ k < 8 then some (21, 8 * i + k, 0) else none
  | _ => none
def cV (q j : Nat) : Nat × Nat × Nat := if q = 19 then (1, 0, if j = 0 then 4 else j + 5) else if q = 13 then (3, 0, j) else if q = 14 then (4, 0, j) else if q = 18 then (13, 0, j) else if q = 15 then (15, j / 4, j % 4) else if q = 16 then (16, j / 4, j % 4) else if q = 22 then (17, j, 1) else if q = 23 then (18, j / 24, j % 24) else if q = 24 then (19, j, 1) else if q = 25 then (20, j / 24, j % 24) else if q = 20 then (21, j, 1) else if q = 21 then (22, j / 8, j % 8) else (14, j, q)
theorem cT_V {κ i k q j e : Nat} (h : cT κ i k = some (q, j, e)) : cV q j = (κ, i, k) := by
  unfold cT at h
  split at h <;> (repeat' split at h) <;> first
    | (cases h; done)
    | (simp only [Option.some.injEq, Prod.mk.injEq] at h
       obtain ⟨rfl, rfl, rfl⟩ := h
       first
         | (simp [cV]; done)
         | (simp [cV]; omega)
         | (unfold cV
            rw [if_neg (by omega), if_neg (by omega), if_neg (by omega), if_neg (by omega), if_neg (by omega), if_neg (by omega), if_neg (by omega), if_neg (by omega), if_neg (by omega), if_neg (by omega), if_neg (by omega), if_neg (by omega)]))
def enc (e x : Nat) : Int32 := if e = 0 then nI x else if e = 1 then en 4 m1 x else en 24 m1 x
def cD (t : xS) (κ i k : Nat) : Option Int32 := match κ with
  | 1 => if i = 0 ∧ k = 5 then some (nI (qMade t)) else none
  | 5 => if i = 0 ∧ k < 32 then some (nI (qSz t k)) else none
  | 6 => if i = 0 ∧ k < 32 then some (nI (qPers t k)) else none
  | 9 => if i = 0 ∧ k < 1984 then some (t.2.1 k) else none
  | 14 => if i < 4 ∧ k = 3 then some (nI (qPer t i)) else none
  | _ => none
def cI (t : xS) (κ i k : Nat) : Option Int32 := match cT κ i k with
  | some r => some (enc r.2.2 (t.1 r.1 r.2.1))
  | none => cD t κ i k
def cL (t : xS) (κ i k : Nat) : Option Int64 := match κ with
  | 7 => if i = 0 ∧ k < 32 then some (lN (msk (fB t 0 k) 62)) else none
  | 8 => if i = 0 ∧ k < 32 then some (lN (msk (fB t 1 k) 62)) else none
  | 14 => if i < 4 ∧ k = 13 then some (t.2.2 i) else none
  | _ => none
def cM (b : Nat) (t : xS) (Y : xMem) : xMem :=
  (fun a k => if a.2.1 = b then (cI t a.1 a.2.2 k).getD (Y.1 a k) else Y.1 a k,
   fun a k => if a.2.1 = b then (cL t a.1 a.2.2 k).getD (Y.2.1 a k) else Y.2.1 a k,
   Y.2.2)
theorem cI_T {t : xS} {κ i k q j e : Nat} (h : cT κ i k = some (q, j, e)) : cI t κ i k = some (enc e (t.1 q j)) := by
  unfold cI; rw [h]
theorem cI_D {t : xS} {κ i k : Nat} (h : cT κ i k = none) : cI t κ i k = cD t κ i k := by
  unfold cI; rw [h]
theorem cM_r {b : Nat} {t : xS} {Y : xMem} {κ i k : Nat} {v : Int32} (h : cI t κ i k = some v) : (cM b t Y).1 (κ, b, i) k = v := by
  show (if b = b then _ else _) = v
  rw [if_pos rfl]
  show (cI t κ i k).getD _ = v
  rw [h]; rfl
theorem cM_rT {b : Nat} {t : xS} {Y : xMem} {κ i k q j e : Nat} (h : cT κ i k = some (q, j, e)) : (cM b t Y).1 (κ, b, i) k = enc e (t.1 q j) := cM_r (cI_T h)
theorem cM_rD {b : Nat} {t : xS} {Y : xMem} {κ i k : Nat} {v : Int32} (h : cT κ i k = none) (h2 : cD t κ i k = some v) : (cM b t Y).1 (κ, b, i) k = v := cM_r ((cI_D h).trans h2)
theorem cM_rL {b : Nat} {t : xS} {Y : xMem} {κ i k : Nat} {v : Int64} (h : cL t κ i k = some v) : (cM b t Y).2.1 (κ, b, i) k = v := by
  show (if b = b then _ else _) = v
  rw [if_pos rfl]
  show (cL t κ i k).getD _ = v
  rw [h]; rfl
theorem cM_o {b : Nat} {t : xS} {Y : xMem} {κ b' i k : Nat} (h : b' ≠ b ∨ cI t κ i k = none) : (cM b t Y).1 (κ, b', i) k = Y.1 (κ, b', i) k := by
  show (if b' = b then _ else _) = _
  rcases h with h | h
  · rw [if_neg h]
  · split
    · show (cI t κ i k).getD _ = _
      rw [h]; rfl
    · rfl
theorem cM_oL {b : Nat} {t : xS} {Y : xMem} {κ b' i k : Nat} (h : b' ≠ b ∨ cL t κ i k = none) : (cM b t Y).2.1 (κ, b', i) k = Y.2.1 (κ, b', i) k := by
  show (if b' = b then _ else _) = _
  rcases h with h | h
  · rw [if_neg h]
  · split
    · show (cL t κ i k).getD _ = _
      rw [h]; rfl
    · rfl
theorem cM_w {b : Nat} {t t' : xS} {Y : xMem} {κ i k : Nat} {v : Int32} (h : cI t' κ i k = some v) (h2 : ∀ κ' i' k', ¬ (κ' = κ ∧ i' = i ∧ k' = k) → cI t' κ' i' k' = cI t κ' i' k') (h3 : ∀ κ' i' k', cL t' κ' i' k' = cL t κ' i' k') : xsi (cM b t Y) (κ, b, i) k v = cM b t' Y := by
  refine Prod.ext ?_ (Prod.ext ?_ rfl)
  · funext a j
    rw [xsi_1]
    obtain ⟨κ', b', i'⟩ := a
    by_cases hb : b' = b
    · subst hb
      show (if _ then v else (if b' = b' then (cI t κ' i' j).getD _ else _)) = (if b' = b' then (cI t' κ' i' j).getD _ else _)
      rw [if_pos rfl, if_pos rfl]
      by_cases he : κ' = κ ∧ i' = i ∧ j = k
      · obtain ⟨rfl, rfl, rfl⟩ := he
        rw [if_pos ⟨rfl, rfl⟩, h]; rfl
      · rw [if_neg (fun e => he ⟨(Prod.mk.inj e.1).1, (Prod.mk.inj (Prod.mk.inj e.1).2).2, e.2⟩), h2 _ _ _ he]
    · show (if _ then v else (if b' = b then _ else _)) = (if b' = b then _ else _)
      rw [if_neg (fun e => hb (Prod.mk.inj (Prod.mk.inj e.1).2).1), if_neg hb, if_neg hb]
  · funext a j
    obtain ⟨κ', b', i'⟩ := a
    show (if b' = b then (cL t κ' i' j).getD _ else _) = (if b' = b then (cL t' κ' i' j).getD _ else _)
    rw [h3]
theorem cM_eq {b : Nat} {t t' : xS} {Y : xMem} (h2 : ∀ κ' i' k', cI t' κ' i' k' = cI t κ' i' k') (h3 : ∀ κ' i' k', cL t' κ' i' k' = cL t κ' i' k') : cM b t Y = cM b t' Y := by
  unfold cM
  simp only [h2, h3]
theorem cM_wL {b : Nat} {t t' : xS} {Y : xMem} {κ i k : Nat} {v : Int64} (h : cL t' κ i k = some v) (h2 : ∀ κ' i' k', ¬ (κ' = κ ∧ i' = i ∧ k' = k) → cL t' κ' i' k' = cL t κ' i' k') (h3 : ∀ κ' i' k', cI t' κ' i' k' = cI t κ' i' k') : xsl (cM b t Y) (κ, b, i) k v = cM b t' Y := by
  refine Prod.ext ?_ (Prod.ext ?_ rfl)
  · funext a j
    obtain ⟨κ', b', i'⟩ := a
    show (if b' = b then (cI t κ' i' j).getD _ else _) = (if b' = b then (cI t' κ' i' j).getD _ else _)
    rw [h3]
  · funext a j
    rw [xsl_2]
    obtain ⟨κ', b', i'⟩ := a
    by_cases hb : b' = b
    · subst hb
      show (if _ then v else (if b' = b' then (cL t κ' i' j).getD _ else _)) = (if b' = b' then (cL t' κ' i' j).getD _ else _)
      rw [if_pos rfl, if_pos rfl]
      by_cases he : κ' = κ ∧ i' = i ∧ j = k
      · obtain ⟨rfl, rfl, rfl⟩ := he
        rw [if_pos ⟨rfl, rfl⟩, h]; rfl
      · rw [if_neg (fun e => he ⟨(Prod.mk.inj e.1).1, (Prod.mk.inj (Prod.mk.inj e.1).2).2, e.2⟩), h2 _ _ _ he]
    · show (if _ then v else (if b' = b then _ else _)) = (if b' = b then _ else _)
      rw [if_neg (fun e => hb (Prod.mk.inj (Prod.mk.inj e.1).2).1), if_neg hb, if_neg hb]
theorem qPer_c {t : xS} {q j v : Nat} (hq : q ≠ 1) : qPer (sA t q j v) = qPer t := by
  funext c; unfold qPer; rw [sA_1, if_neg (fun e => hq e.1.symm)]
theorem sA_n {t : xS} {q j v q' : Nat} (hq : q' ≠ q) : (sA t q j v).1 q' = t.1 q' := by
  funext c; rw [sA_1, if_neg (fun e => hq e.1)]
theorem qPers_c {t : xS} {q j v : Nat} (hq : q ≠ 1 ∧ q ≠ 13) : qPers (sA t q j v) = qPers t := by
  funext p; unfold qPers; rw [qPer_c hq.1, sA_n (fun e => hq.2 e.symm)]
theorem qSz_c {t : xS} {q j v : Nat} (hq : q ≠ 1 ∧ q ≠ 13 ∧ q ≠ 26) : qSz (sA t q j v) = qSz t := by
  funext p; unfold qSz; rw [sA_n (fun e => hq.1 e.symm), sA_n (fun e => hq.2.1 e.symm), sA_n (fun e => hq.2.2 e.symm)]
theorem fB_c {t : xS} {q j v : Nat} (hq : q ≠ 1 ∧ q ≠ 13 ∧ q ≠ 17) : fB (sA t q j v) = fB t := by
  funext u p k; unfold fB; rw [qPers_c ⟨hq.1, hq.2.1⟩, sA_n (fun e => hq.2.2 e.symm)]
theorem qMade_c {t : xS} {q j v : Nat} (hq : q ≠ 18) : qMade (sA t q j v) = qMade t := by
  unfold qMade; rw [sA_n (fun e => hq e.symm)]
theorem cD_c {t : xS} {q j v κ i k : Nat} (hq : q ≠ 1 ∧ q ≠ 13 ∧ q ≠ 18 ∧ q ≠ 26) : cD (sA t q j v) κ i k = cD t κ i k := by
  unfold cD; rw [qMade_c hq.2.2.1, qSz_c ⟨hq.1, hq.2.1, hq.2.2.2⟩, qPers_c ⟨hq.1, hq.2.1⟩, qPer_c hq.1, sA_2]
theorem cL_c {t : xS} {q j v κ i k : Nat} (hq : q ≠ 1 ∧ q ≠ 13 ∧ q ≠ 17) : cL (sA t q j v) κ i k = cL t κ i k := by
  unfold cL; rw [fB_c hq, sA_2]
theorem cI_ne {t : xS} {q j v κ i k κ' i' k' e : Nat} (h : cT κ i k = some (q, j, e)) (hq : q ≠ 1 ∧ q ≠ 13 ∧ q ≠ 18 ∧ q ≠ 26) (hne : ¬ (κ' = κ ∧ i' = i ∧ k' = k)) : cI (sA t q j v) κ' i' k' = cI t κ' i' k' := by
  cases h' : cT κ' i' k' with
  | none => rw [cI_D h', cI_D h', cD_c hq]
  | some r =>
    obtain ⟨q', j', e'⟩ := r
    rw [cI_T h', cI_T h', sA_1, if_neg]
    rintro ⟨rfl, rfl⟩
    have h1 := cT_V h
    rw [cT_V h'] at h1
    simp only [Prod.mk.injEq] at h1
    exact hne h1
theorem cM_wT {b : Nat} {t : xS} {Y : xMem} {κ i k q j e v : Nat} (h : cT κ i k = some (q, j, e)) (hq : q ≠ 1 ∧ q ≠ 13 ∧ q ≠ 17 ∧ q ≠ 18 ∧ q ≠ 26) : xsi (cM b t Y) (κ, b, i) k (enc e v) = cM b (sA t q j v) Y := by
  refine cM_w ?_ (fun κ' i' k' hne => cI_ne h ⟨hq.1, hq.2.1, hq.2.2.2.1, hq.2.2.2.2⟩ hne) (fun κ' i' k' => cL_c ⟨hq.1, hq.2.1, hq.2.2.1⟩)
  rw [cI_T h, sA_1, if_pos ⟨rfl, rfl⟩]
theorem cM_wW {b : Nat} {t : xS} {Y : xMem} {k : Nat} {v : Int32} (hk : k < 1984) : xsi (cM b t Y) (9, b, 0) k v = cM b (sW t k v) Y := by
  refine cM_w ?_ (fun κ' i' k' hne => ?_) (fun κ' i' k' => rfl)
  · show (if 0 = 0 ∧ k < 1984 then some ((sW t k v).2.1 k) else none) = _
    rw [if_pos ⟨rfl, hk⟩, sW_2, if_pos rfl]
  · cases h' : cT κ' i' k' with
    | none =>
      rw [cI_D h', cI_D h']
      unfold cD
      split <;> try rfl
      rw [sW_2]
      by_cases h0 : i' = 0 ∧ k' < 1984
      · rw [if_pos h0, if_pos h0, if_neg (fun e => hne ⟨rfl, h0.1, e⟩)]
      · rw [if_neg h0, if_neg h0]
    | some r => rw [cI_T h', cI_T h']; rfl
theorem cM_wTl {b : Nat} {t : xS} {Y : xMem} {i : Nat} {v : Int64} (hi : i < 4) : xsl (cM b t Y) (14, b, i) 13 v = cM b (sT t i v) Y := by
  refine cM_wL ?_ (fun κ' i' k' hne => ?_) (fun κ' i' k' => rfl)
  · show (if i < 4 ∧ 13 = 13 then some ((sT t i v).2.2 i) else none) = _
    rw [if_pos ⟨hi, rfl⟩, sT_3, if_pos rfl]
  · unfold cL
    split <;> try rfl
    rw [sT_3]
    by_cases h0 : i' < 4 ∧ k' = 13
    · rw [if_pos h0, if_pos h0, if_neg (fun e => hne ⟨rfl, e, h0.2⟩)]
    · rw [if_neg h0, if_neg h0]
theorem cM_W {b : Nat} {t : xS} {Y : xMem} : XW (cM b t Y) = XW Y := rfl
theorem cM_22 {b : Nat} {t : xS} {Y : xMem} : (cM b t Y).2.2 = Y.2.2 := rfl
/-- cells beyond -/
theorem cI_big {t : xS} {κ i k : Nat} (h : κ = 0 ∨ κ = 10 ∨ 22 < κ) : cI t κ i k = none := by
  have h1 : cT κ i k = none := by
    unfold cT; split <;> first | rfl | omega
  rw [cI_D h1]
  unfold cD; split <;> first | rfl | omega
theorem cL_big {t : xS} {κ i k : Nat} (h : κ ≠ 7 ∧ κ ≠ 8 ∧ κ ≠ 14) : cL t κ i k = none := by
  unfold cL; split <;> first | rfl | omega
theorem cM_out {b : Nat} {t : xS} {Y : xMem} {κ b' i k : Nat} (h : κ = 0 ∨ κ = 10 ∨ 22 < κ) : (cM b t Y).1 (κ, b', i) k = Y.1 (κ, b', i) k := cM_o (Or.inr (cI_big h))
theorem cM_out' {b : Nat} {t : xS} {Y : xMem} {κ b' i k : Nat} {v : Int32} (h : b' ≠ b ∨ κ = 0 ∨ κ = 10 ∨ 22 < κ) : xsi (cM b t Y) (κ, b', i) k v = cM b t (xsi Y (κ, b', i) k v) := by
  refine Prod.ext ?_ rfl
  funext a j
  rw [xsi_1]
  by_cases ha : a = (κ, b', i)
  · subst ha
    rw [cM_o (t := t) (Y := Y) (by rcases h with h | h; exact Or.inl h; exact Or.inr (cI_big h)), cM_o (t := t) (Y := xsi Y _ k v) (by rcases h with h | h; exact Or.inl h; exact Or.inr (cI_big h)), xsi_1]
  · rw [if_neg (fun e => ha e.1)]
    unfold cM
    simp only [xsi_1, ha, false_and, if_false]
/-- two blocks -/
theorem cM_comm {b b' : Nat} {t t' : xS} {Y : xMem} (h : b ≠ b') : cM b t (cM b' t' Y) = cM b' t' (cM b t Y) := by
  refine Prod.ext ?_ (Prod.ext ?_ rfl)
  · funext a j
    show (if a.2.1 = b then _ else (if a.2.1 = b' then _ else _)) = (if a.2.1 = b' then _ else (if a.2.1 = b then _ else _))
    by_cases h1 : a.2.1 = b
    · have h2 : a.2.1 ≠ b' := fun e => h (h1 ▸ e)
      rw [if_pos h1, if_neg h2, if_pos h1]
      show (cI t a.1 a.2.2 j).getD (if a.2.1 = b' then _ else _) = _
      rw [if_neg h2]
    · rw [if_neg h1]
      by_cases h2 : a.2.1 = b'
      · rw [if_pos h2, if_pos h2]
        show _ = (cI t' a.1 a.2.2 j).getD (if a.2.1 = b then _ else _)
        rw [if_neg h1]
      · rw [if_neg h2, if_neg h2, if_neg h1]
  · funext a j
    show (if a.2.1 = b then _ else (if a.2.1 = b' then _ else _)) = (if a.2.1 = b' then _ else (if a.2.1 = b then _ else _))
    by_cases h1 : a.2.1 = b
    · have h2 : a.2.1 ≠ b' := fun e => h (h1 ▸ e)
      rw [if_pos h1, if_neg h2, if_pos h1]
      show (cL t a.1 a.2.2 j).getD (if a.2.1 = b' then _ else _) = _
      rw [if_neg h2]
    · rw [if_neg h1]
      by_cases h2 : a.2.1 = b'
      · rw [if_pos h2, if_pos h2]
        show _ = (cL t' a.1 a.2.2 j).getD (if a.2.1 = b then _ else _)
        rw [if_neg h1]
      · rw [if_neg h2, if_neg h2, if_neg h1]
theorem cI_dom {t t' : xS} {κ i k : Nat} : (cI t κ i k).isSome = (cI t' κ i k).isSome := by
  cases h : cT κ i k with
  | some r => obtain ⟨q, j, e⟩ := r; rw [cI_T h, cI_T h]; rfl
  | none =>
    rw [cI_D h, cI_D h]
    unfold cD
    split <;> first | (split <;> simp [*]; done) | rfl
theorem cL_dom {t t' : xS} {κ i k : Nat} : (cL t κ i k).isSome = (cL t' κ i k).isSome := by
  unfold cL
  split <;> first | (split <;> simp [*]; done) | rfl
theorem getD_dom {α : Type} {x y : Option α} {a : α} (h : x.isSome = y.isSome) : x.getD (y.getD a) = x.getD a := by
  cases x with
  | some v => rfl
  | none => cases y with
    | none => rfl
    | some w => cases h
theorem cM_cM {b : Nat} {t t' : xS} {Y : xMem} : cM b t (cM b t' Y) = cM b t Y := by
  refine Prod.ext ?_ (Prod.ext ?_ rfl)
  · funext a j
    show (if a.2.1 = b then (cI t a.1 a.2.2 j).getD (if a.2.1 = b then (cI t' a.1 a.2.2 j).getD _ else _) else (if a.2.1 = b then _ else _)) = (if a.2.1 = b then _ else _)
    by_cases h1 : a.2.1 = b
    · rw [if_pos h1, if_pos h1, if_pos h1, getD_dom cI_dom]
    · rw [if_neg h1, if_neg h1, if_neg h1]
  · funext a j
    show (if a.2.1 = b then (cL t a.1 a.2.2 j).getD (if a.2.1 = b then (cL t' a.1 a.2.2 j).getD _ else _) else (if a.2.1 = b then _ else _)) = (if a.2.1 = b then _ else _)
    by_cases h1 : a.2.1 = b
    · rw [if_pos h1, if_pos h1, if_pos h1, getD_dom cL_dom]
    · rw [if_neg h1, if_neg h1, if_neg h1]
/-- class and model -/
theorem mL_low {κ : Nat} {r : Nat × Nat × Nat} (h : mL κ = some r) : 45 ≤ κ := by
  obtain ⟨q, B, t⟩ := r
  have h1 : ∀ r ∈ mQ, 45 ≤ r.1 := by decide
  exact h1 _ (mL_mem h)
theorem cM_mM {b : Nat} {t : xS} {d : Int32} {s : xS} {Y : xMem} : cM b t (mM d s Y) = mM d s (cM b t Y) := by
  have hk : ∀ κ i k, 22 < κ → cI t κ i k = none := fun κ i k h => cI_big (by omega)
  have hl : ∀ κ i k, 22 < κ → cL t κ i k = none := fun κ i k h => cL_big (by omega)
  refine Prod.ext ?_ (Prod.ext ?_ rfl)
  · funext a j
    obtain ⟨κ, p, i⟩ := a
    by_cases h : 22 < κ
    · have e1 : (cM b t (mM d s Y)).1 (κ, p, i) j = (mM d s Y).1 (κ, p, i) j := cM_o (Or.inr (hk _ _ _ h))
      have e2 : (cM b t Y).1 (κ, p, i) j = Y.1 (κ, p, i) j := cM_o (Or.inr (hk _ _ _ h))
      rw [e1]
      unfold mM
      simp only [e2]
    · have hm : ∀ Z : xMem, (mM d s Z).1 (κ, p, i) j = Z.1 (κ, p, i) j := fun Z => by
        cases hq : mL κ with
        | some r => have := mL_low hq; omega
        | none => exact mM_out hq (by omega) (by omega)
      rw [hm]
      show (if p = b then (cI t κ i j).getD ((mM d s Y).1 (κ, p, i) j) else (mM d s Y).1 (κ, p, i) j) = (if p = b then _ else _)
      rw [hm]
  · funext a j
    obtain ⟨κ, p, i⟩ := a
    by_cases h : 22 < κ
    · have e1 : (cM b t (mM d s Y)).2.1 (κ, p, i) j = (mM d s Y).2.1 (κ, p, i) j := cM_oL (Or.inr (hl _ _ _ h))
      have e2 : (cM b t Y).2.1 (κ, p, i) j = Y.2.1 (κ, p, i) j := cM_oL (Or.inr (hl _ _ _ h))
      rw [e1]
      show (if _ then _ else Y.2.1 (κ, p, i) j) = (if _ then _ else (cM b t Y).2.1 (κ, p, i) j)
      rw [e2]
    · have hm : ∀ Z : xMem, (mM d s Z).2.1 (κ, p, i) j = Z.2.1 (κ, p, i) j := fun Z => by
        show (if _ then _ else _) = _
        rw [if_neg (fun e => by have := (Prod.mk.inj e.1).1; omega)]
      rw [hm]
      show (if p = b then (cL t κ i j).getD ((mM d s Y).2.1 (κ, p, i) j) else (mM d s Y).2.1 (κ, p, i) j) = (if p = b then _ else _)
      rw [hm]
