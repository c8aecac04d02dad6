/-! the abstract state: numbers, words, tallies -/
abbrev xS : Type := (Nat → Nat → Nat) × (Nat → Int32) × (Nat → Int64)
def sA (s : xS) (k i v : Nat) : xS := (fun k' i' => if k' = k ∧ i' = i then v else s.1 k' i', s.2)
def sW (s : xS) (i : Nat) (w : Int32) : xS := (s.1, fun j => if j = i then w else s.2.1 j, s.2.2)
def sT (s : xS) (i : Nat) (w : Int64) : xS := (s.1, s.2.1, fun j => if j = i then w else s.2.2 j)
theorem sA_1 {s : xS} {k i v k' i' : Nat} : (sA s k i v).1 k' i' = if k' = k ∧ i' = i then v else s.1 k' i' := rfl
theorem sA_2 {s : xS} {k i v : Nat} : (sA s k i v).2 = s.2 := rfl
theorem sW_1 {s : xS} {i : Nat} {w : Int32} : (sW s i w).1 = s.1 := rfl
theorem sW_2 {s : xS} {i j : Nat} {w : Int32} : (sW s i w).2.1 j = if j = i then w else s.2.1 j := rfl
theorem sW_3 {s : xS} {i : Nat} {w : Int32} : (sW s i w).2.2 = s.2.2 := rfl
theorem sT_1 {s : xS} {i : Nat} {w : Int64} : (sT s i w).1 = s.1 := rfl
theorem sT_2 {s : xS} {i : Nat} {w : Int64} : (sT s i w).2.1 = s.2.1 := rfl
theorem sT_3 {s : xS} {i j : Nat} {w : Int64} : (sT s i w).2.2 j = if j = i then w else s.2.2 j := rfl
/-! a number below t, or a sign for none -/
def en (t : Nat) (z : Int32) (x : Nat) : Int32 := if x < t then nI x else z
theorem en_lt {t x : Nat} {z : Int32} (h : x < t) : en t z x = nI x := if_pos h
theorem en_ge {t x : Nat} {z : Int32} (h : ¬ x < t) : en t z x = z := if_neg h
def me (t x : Nat) : Int32 := if t = 0 then nI x else en t (-9) x
theorem me_0 {x : Nat} : me 0 x = nI x := rfl
theorem me_4 {x : Nat} : me 4 x = en 4 (-9) x := rfl
theorem me_24 {x : Nat} : me 24 x = en 24 (-9) x := rfl
theorem en_neg {t x : Nat} {z : Int32} (ht : t < 2 ^ 31) (hz : z < 0) : (en t z x < 0) = ¬ x < t := by
  unfold en
  by_cases h : x < t
  · rw [if_pos h]; exact propext ⟨fun h2 => absurd h2 (nI_pos (by omega)), fun h2 => absurd h h2⟩
  · rw [if_neg h]; exact propext ⟨fun _ => h, fun _ => hz⟩
theorem en_eqz {t x : Nat} {z : Int32} (ht : t < 2 ^ 31) (hz : z < 0) : (en t z x = z) = ¬ x < t := by
  unfold en
  by_cases h : x < t
  · rw [if_pos h]; exact propext ⟨fun h2 => absurd (h2 ▸ hz) (nI_pos (by omega)), fun h2 => absurd h h2⟩
  · rw [if_neg h]; exact propext ⟨fun _ => h, fun _ => rfl⟩
theorem en_eq {t x y : Nat} {z : Int32} (ht : t < 2 ^ 31) (hz : z < 0) (hy : y < t) : (en t z x = nI y) = (x = y) := by
  unfold en
  by_cases h : x < t
  · rw [if_pos h]; exact propext (nI_eq (by omega) (by omega))
  · rw [if_neg h]; exact propext ⟨fun h2 => absurd (h2 ▸ hz) (nI_pos (by omega)), fun h2 => absurd (h2 ▸ hy) h⟩
/-! the model's part of the memory, by a state -/
def mQ : List (Nat × Nat × Nat × Nat) := [(45, 0, 4, 0), (46, 1, 4, 0), (47, 2, 4, 0), (48, 4, 4, 0), (49, 5, 4, 0), (50, 6, 4, 0), (51, 7, 4, 0), (52, 8, 4, 0), (53, 9, 4, 0), (54, 10, 4, 0), (55, 11, 4, 0), (56, 12, 4, 0), (58, 13, 32, 4), (59, 14, 32, 0), (60, 17, 1984, 0), (62, 15, 16, 24), (63, 16, 16, 24), (64, 18, 24, 0), (65, 20, 24, 0), (66, 21, 192, 0), (67, 23, 96, 0), (68, 22, 4, 0), (69, 25, 96, 0), (70, 24, 4, 0)]
def mL (k : Nat) : Option (Nat × Nat × Nat) := (mQ.find? (fun r => r.1 == k)).map (fun r => r.2)
def mM (d : Int32) (s : xS) (X : xMem) : xMem :=
  (fun a k => if a.2 = (0, 0) then
      if a.1 = 44 then (if k = 13 then nI (s.1 19 0) else if k = 14 then nI (s.1 19 1) else if k = 15 then nI (s.1 19 2) + d else X.1 a k)
      else if a.1 = 61 then (if k < 1984 then s.2.1 k else X.1 a k)
      else match mL a.1 with
        | some (q, B, t) => if k < B then me t (s.1 q k) else X.1 a k
        | none => X.1 a k
    else X.1 a k,
   fun a k => if a = (57, 0, 0) ∧ k < 4 then s.2.2 k else X.2.1 a k,
   X.2.2)
theorem mL_mem {k q B t : Nat} (h : mL k = some (q, B, t)) : (k, q, B, t) ∈ mQ := by
  unfold mL at h
  obtain ⟨r, h1, h2⟩ := Option.map_eq_some_iff.mp h
  have h3 := List.find?_some h1
  have h4 := List.mem_of_find?_eq_some h1
  have h5 : r.1 = k := by simpa using h3
  have : r = (k, q, B, t) := Prod.ext h5 h2
  rwa [this] at h4
theorem mQ_inj : ∀ r ∈ mQ, r.2.1 ≠ 19 ∧ r.1 ≠ 44 ∧ r.1 ≠ 61 ∧ ∀ r' ∈ mQ, r'.2.1 = r.2.1 → r'.1 = r.1 := by decide
theorem mM_rd {d : Int32} {s : xS} {X : xMem} {κ q B t k : Nat} (h : mL κ = some (q, B, t)) (hk : k < B) : (mM d s X).1 (κ, 0, 0) k = me t (s.1 q k) := by
  obtain ⟨-, h2, h3, -⟩ := mQ_inj _ (mL_mem h)
  simp only at h2 h3
  unfold mM
  simp only [if_true, if_neg h2, if_neg h3, h, if_pos hk]
theorem mM_wr {d : Int32} {s : xS} {X : xMem} {κ q B t k v : Nat} (h : mL κ = some (q, B, t)) (hk : k < B) : xsi (mM d s X) (κ, 0, 0) k (me t v) = mM d (sA s q k v) X := by
  obtain ⟨h1, h2, h3, h4⟩ := mQ_inj _ (mL_mem h)
  simp only at h1 h2 h3 h4
  refine Prod.ext ?_ rfl
  funext a j
  rw [xsi_1]
  obtain ⟨κ', p1, p2⟩ := a
  by_cases hp : (p1, p2) = ((0 : Nat), (0 : Nat))
  · obtain ⟨rfl, rfl⟩ := Prod.mk.inj hp
    by_cases hκ : κ' = κ
    · subst hκ
      by_cases hj : j = k
      · subst hj
        rw [if_pos ⟨rfl, rfl⟩, mM_rd h hk, sA_1, if_pos ⟨rfl, rfl⟩]
      · rw [if_neg (fun e => hj e.2)]
        unfold mM
        simp only [if_neg h2, if_neg h3, h, sA_1]
        simp [hj]
    · rw [if_neg (fun e => hκ (Prod.mk.inj e.1).1)]
      unfold mM
      simp only [sA_1, sA_2]
      simp only [if_true]
      have e19 : ∀ i : Nat, (if 19 = q ∧ i = k then v else s.1 19 i) = s.1 19 i := fun i => if_neg (fun e => h1 e.1.symm)
      simp only [e19]
      cases hm : mL κ' with
      | none => simp only
      | some r =>
        obtain ⟨q', B', t'⟩ := r
        simp only
        have hq : ∀ i : Nat, (if q' = q ∧ i = k then v else s.1 q' i) = s.1 q' i := fun i => if_neg (fun e => hκ (h4 _ (mL_mem hm) e.1))
        rw [hq]
  · rw [if_neg (fun e => hp (Prod.mk.inj e.1).2)]
    show (if (p1, p2) = ((0 : Nat), (0 : Nat)) then _ else _) = (if (p1, p2) = ((0 : Nat), (0 : Nat)) then _ else _)
    rw [if_neg hp, if_neg hp]
theorem mM_w0 {d : Int32} {s : xS} {X : xMem} {κ q B k v : Nat} (h : mL κ = some (q, B, 0)) (hk : k < B) : xsi (mM d s X) (κ, 0, 0) k (nI v) = mM d (sA s q k v) X := mM_wr h hk
theorem mM_we {d : Int32} {s : xS} {X : xMem} {κ q B t k v : Nat} (h : mL κ = some (q, B, t + 1)) (hk : k < B) : xsi (mM d s X) (κ, 0, 0) k (en (t + 1) (-9) v) = mM d (sA s q k v) X := mM_wr h hk
theorem mM_rW {d : Int32} {s : xS} {X : xMem} {k : Nat} (hk : k < 1984) : (mM d s X).1 (61, 0, 0) k = s.2.1 k := if_pos hk
theorem mM_wW {d : Int32} {s : xS} {X : xMem} {k : Nat} {v : Int32} (hk : k < 1984) : xsi (mM d s X) (61, 0, 0) k v = mM d (sW s k v) X := by
  refine Prod.ext ?_ rfl
  funext a j
  rw [xsi_1]
  by_cases ha : a = (61, 0, 0)
  · subst ha
    by_cases hj : j = k
    · subst hj; rw [if_pos ⟨rfl, rfl⟩, mM_rW hk, sW_2, if_pos rfl]
    · rw [if_neg (fun e => hj e.2)]
      unfold mM; simp [sW_2, hj]
  · rw [if_neg (fun e => ha e.1)]
    obtain ⟨κ', p1, p2⟩ := a
    unfold mM
    simp only [sW_1, sW_2]
    by_cases hp : (p1, p2) = ((0 : Nat), (0 : Nat))
    · have : κ' ≠ 61 := fun e => ha (by rw [e, hp])
      simp only [if_neg this]
    · simp only [if_neg hp]
theorem mM_rT {d : Int32} {s : xS} {X : xMem} {k : Nat} (hk : k < 4) : (mM d s X).2.1 (57, 0, 0) k = s.2.2 k := if_pos ⟨rfl, hk⟩
theorem mM_wT {d : Int32} {s : xS} {X : xMem} {k : Nat} {v : Int64} (hk : k < 4) : xsl (mM d s X) (57, 0, 0) k v = mM d (sT s k v) X := by
  refine Prod.ext rfl (Prod.ext ?_ rfl)
  funext a j
  rw [xsl_2]
  by_cases ha : a = (57, 0, 0)
  · subst ha
    by_cases hj : j = k
    · subst hj; rw [if_pos ⟨rfl, rfl⟩, mM_rT hk, sT_3, if_pos rfl]
    · rw [if_neg (fun e => hj e.2)]
      unfold mM; simp [sT_3, hj]
  · rw [if_neg (fun e => ha e.1)]
    unfold mM; simp [ha]
theorem mM_13 {d : Int32} {s : xS} {X : xMem} : (mM d s X).1 (44, 0, 0) 13 = nI (s.1 19 0) := rfl
theorem mM_14 {d : Int32} {s : xS} {X : xMem} : (mM d s X).1 (44, 0, 0) 14 = nI (s.1 19 1) := rfl
theorem mM_15 {d : Int32} {s : xS} {X : xMem} : (mM d s X).1 (44, 0, 0) 15 = nI (s.1 19 2) + d := rfl
theorem mM_oF {d : Int32} {s : xS} {X : xMem} {k : Nat} (hk : k < 13 ∨ 15 < k) : (mM d s X).1 (44, 0, 0) k = X.1 (44, 0, 0) k := by
  show (if k = 13 then _ else if k = 14 then _ else if k = 15 then _ else _) = _
  rw [if_neg (by omega), if_neg (by omega), if_neg (by omega)]
theorem mM_oF' {d : Int32} {s : xS} {X : xMem} {k : Nat} {v : Int32} (hk : k < 13 ∨ 15 < k) : xsi (mM d s X) (44, 0, 0) k v = mM d s (xsi X (44, 0, 0) k v) := by
  refine Prod.ext ?_ rfl
  funext a j
  rw [xsi_1]
  by_cases ha : a = (44, 0, 0)
  · subst ha
    unfold mM
    simp only [if_true, xsi_1, true_and]
    by_cases h1 : j = k
    · subst h1; rw [if_pos rfl, if_neg (by omega), if_neg (by omega), if_neg (by omega), if_pos rfl]
    · rw [if_neg h1, if_neg h1]
  · rw [if_neg (fun e => ha e.1)]
    unfold mM
    simp only [xsi_1, ha, false_and, if_false]
theorem mM_wf {d : Int32} {s : xS} {X : xMem} {k v : Nat} (hk : k < 2) : xsi (mM d s X) (44, 0, 0) (13 + k) (nI v) = mM d (sA s 19 k v) X := by
  refine Prod.ext ?_ rfl
  funext a j
  rw [xsi_1]
  obtain ⟨κ', p1, p2⟩ := a
  by_cases hp : (p1, p2) = ((0 : Nat), (0 : Nat))
  · obtain ⟨rfl, rfl⟩ := Prod.mk.inj hp
    by_cases hκ : κ' = 44
    · subst hκ
      unfold mM
      simp only [if_true, sA_1, true_and]
      by_cases h1 : j = 13 + k
      · subst h1
        rw [if_pos rfl]
        by_cases h0 : k = 0
        · subst h0; rfl
        · have : k = 1 := by omega
          subst this; rfl
      · rw [if_neg h1]
        by_cases h13 : j = 13
        · rw [if_pos h13, if_pos h13, if_neg (by omega)]
        · rw [if_neg h13, if_neg h13]
          by_cases h14 : j = 14
          · rw [if_pos h14, if_pos h14, if_neg (by omega)]
          · rw [if_neg h14, if_neg h14, if_neg (by omega : ¬ (2 = k))]
    · rw [if_neg (fun e => hκ (Prod.mk.inj e.1).1)]
      unfold mM
      simp only [sA_1, sA_2, if_neg hκ, if_true]
      cases hm : mL κ' with
      | none => simp only
      | some r =>
        obtain ⟨q', B', t'⟩ := r
        have := (mQ_inj _ (mL_mem hm)).1
        simp only at this
        simp only [if_neg (fun e : q' = 19 ∧ j = k => this e.1)]
  · rw [if_neg (fun e => hp (Prod.mk.inj e.1).2)]
    show (if (p1, p2) = ((0 : Nat), (0 : Nat)) then _ else _) = (if (p1, p2) = ((0 : Nat), (0 : Nat)) then _ else _)
    rw [if_neg hp, if_neg hp]
theorem mM_w13 {d : Int32} {s : xS} {X : xMem} {v : Nat} : xsi (mM d s X) (44, 0, 0) 13 (nI v) = mM d (sA s 19 0 v) X := mM_wf (k := 0) (by omega)
theorem mM_w14 {d : Int32} {s : xS} {X : xMem} {v : Nat} : xsi (mM d s X) (44, 0, 0) 14 (nI v) = mM d (sA s 19 1 v) X := mM_wf (k := 1) (by omega)
theorem mM_w15 {d : Int32} {s : xS} {X : xMem} {v : Nat} : xsi (mM d s X) (44, 0, 0) 15 (nI v + d) = mM d (sA s 19 2 v) X := by
  refine Prod.ext ?_ rfl
  funext a j
  rw [xsi_1]
  obtain ⟨κ', p1, p2⟩ := a
  by_cases hp : (p1, p2) = ((0 : Nat), (0 : Nat))
  · obtain ⟨rfl, rfl⟩ := Prod.mk.inj hp
    by_cases hκ : κ' = 44
    · subst hκ
      unfold mM
      simp only [if_true, sA_1, true_and]
      by_cases h1 : j = 15
      · subst h1; rfl
      · rw [if_neg h1]; simp [h1]
    · rw [if_neg (fun e => hκ (Prod.mk.inj e.1).1)]
      unfold mM
      simp only [sA_1, sA_2, if_neg hκ, if_true]
      cases hm : mL κ' with
      | none => simp only
      | some r =>
        obtain ⟨q', B', t'⟩ := r
        have := (mQ_inj _ (mL_mem hm)).1
        simp only at this
        simp only [if_neg (fun e : q' = 19 ∧ j = 2 => this e.1)]
  · rw [if_neg (fun e => hp (Prod.mk.inj e.1).2)]
    show (if (p1, p2) = ((0 : Nat), (0 : Nat)) then _ else _) = (if (p1, p2) = ((0 : Nat), (0 : Nat)) then _ else _)
    rw [if_neg hp, if_neg hp]
theorem mM_out {d : Int32} {s : xS} {X : xMem} {κ p1 p2 k : Nat} (h : mL κ = none) (h1 : κ ≠ 44) (h2 : κ ≠ 61) : (mM d s X).1 (κ, p1, p2) k = X.1 (κ, p1, p2) k := by
  unfold mM
  simp only [if_neg h1, if_neg h2, h, ite_self]
theorem mM_out' {d : Int32} {s : xS} {X : xMem} {κ p1 p2 k : Nat} {v : Int32} (h : mL κ = none) (h1 : κ ≠ 44) (h2 : κ ≠ 61) : xsi (mM d s X) (κ, p1, p2) k v = mM d s (xsi X (κ, p1, p2) k v) := by
  refine Prod.ext ?_ rfl
  funext a j
  rw [xsi_1]
  by_cases ha : a = (κ, p1, p2)
  · subst ha
    rw [mM_out h h1 h2, mM_out h h1 h2, xsi_1]
  · rw [if_neg (fun e => ha e.1)]
    unfold mM
    simp only [xsi_1, ha, false_and, if_false]
theorem mM_mM {d d' : Int32} {s s' : xS} {X : xMem} : mM d s (mM d' s' X) = mM d s X := by
  refine Prod.ext ?_ (Prod.ext ?_ rfl)
  · funext a j
    unfold mM
    dsimp only
    by_cases h : a.2 = (0, 0)
    · simp only [if_pos h]
      by_cases h1 : a.1 = 44
      · simp only [if_pos h1]
        by_cases h13 : j = 13
        · simp only [if_pos h13]
        · simp only [if_neg h13]
          by_cases h14 : j = 14
          · simp only [if_pos h14]
          · simp only [if_neg h14]
            by_cases h15 : j = 15
            · simp only [if_pos h15]
            · simp only [if_neg h15]
      · simp only [if_neg h1]
        by_cases h2 : a.1 = 61
        · simp only [if_pos h2]
          by_cases h3 : j < 1984
          · simp only [if_pos h3]
          · simp only [if_neg h3]
        · simp only [if_neg h2]
          cases hm : mL a.1 with
          | none => simp only
          | some r =>
            obtain ⟨q', B', t'⟩ := r
            simp only
            by_cases h3 : j < B'
            · simp only [if_pos h3]
            · simp only [if_neg h3]
    · simp only [if_neg h]
  · funext a j
    unfold mM
    dsimp only
    by_cases h : a = (57, 0, 0) ∧ j < 4
    · simp only [if_pos h]
    · simp only [if_neg h]
