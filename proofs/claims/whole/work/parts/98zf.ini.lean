/-! the first state keeps the law's relation, out of what its cells are (ZF) -/
def zM : List (Nat × Nat) := [(45, 4), (46, 4), (47, 4), (48, 4), (49, 4), (50, 4), (51, 4), (52, 4), (53, 4), (54, 4), (55, 4), (56, 4), (58, 32), (59, 32), (60, 1984), (61, 1984), (62, 16), (63, 16), (64, 24), (65, 24), (66, 192), (67, 96), (68, 4), (69, 96), (70, 4)]
def zvM (κ : Nat) : Int32 := if κ = 58 ∨ κ = 62 ∨ κ = 63 then -9 else 0
theorem xI3_R : xI3.2.2.2.2 ≤ 7302250 ∧ xI3.2.2.1 (0, 0, 0) 7 = some (26, 0, 0) ∧ xI3.2.2.1 (0, 0, 0) 8 = some (26, 0, 1) := by
  have h := xrI3_eq.2
  unfold xchkI at h
  simp only [Bool.and_eq_true, decide_eq_true_eq] at h
  exact ⟨h.1.1.1.2, h.1.2, h.2⟩
def tZ : xS := (fun q _ => if q = 13 then 4 else 0, fun _ => 0, fun _ => 0)
def sZ : xS := (fun q _ => if q = 13 then 4 else if q = 15 ∨ q = 16 then 24 else 0, fun _ => 0, fun _ => 0)
theorem sZ_0 {q j : Nat} (h : q ≠ 13 ∧ q ≠ 15 ∧ q ≠ 16) : sZ.1 q j = 0 := by
  show (if q = 13 then 4 else if q = 15 ∨ q = 16 then 24 else 0) = 0
  rw [if_neg h.1, if_neg (by omega)]
theorem tZ_0 {q j : Nat} (h : q ≠ 13) : tZ.1 q j = 0 := by
  show (if q = 13 then 4 else 0) = 0
  rw [if_neg h]
theorem tZ_13 {j : Nat} : tZ.1 13 j = 4 := rfl
theorem sZ_13 {j : Nat} : sZ.1 13 j = 4 := rfl
theorem EZ : EQs sZ tZ := by
  refine ⟨fun q j h => ?_, fun _ _ => rfl, fun _ _ => rfl⟩
  have h19 : sZ.1 19 0 = 0 := sZ_0 (by decide)
  unfold mg at h
  rw [h19] at h
  by_cases h13 : q = 13
  · subst h13; rfl
  · have h15 : q ≠ 15 ∧ q ≠ 16 := by
      rcases h with h | h | h | h | h | h | h | h | h | h <;> omega
    rw [tZ_0 h13, sZ_0 ⟨h13, h15.1, h15.2⟩]
theorem IZ : INV sZ := by
  have h19 : sZ.1 19 0 = 0 := sZ_0 (by decide)
  have h20 : ∀ m, sZ.1 20 m = 0 := fun m => sZ_0 (by decide)
  have h17 : ∀ m, sZ.1 17 m = 0 := fun m => sZ_0 (by decide)
  have h18 : ∀ m, sZ.1 18 m = 0 := fun m => sZ_0 (by decide)
  have h14 : ∀ m, sZ.1 14 m = 0 := fun m => sZ_0 (by decide)
  refine ⟨⟨⟨by omega, fun c hc => by omega, fun p hp => ⟨by rw [h14]; omega, fun h => by rw [sZ_13] at h; omega⟩, fun m hm => ⟨by rw [h20]; omega, fun k hk => by rw [h20] at hk; omega⟩, fun c hc => by omega⟩,
    fun x hx => ⟨by rw [h17]; omega, fun h => absurd (h17 x) h⟩, fun m hm => ⟨by rw [h18]; omega, fun _ => h20 m, fun k hk => by rw [h20] at hk; omega⟩, fun m m' k k' _ _ hk => by rw [h20] at hk; omega⟩, fun c hc => by omega, ⟨fun _ => (0, 0, 0), fun P _ hP => by
      have := (ref_cases hP).1
      omega⟩⟩
theorem UZ : UC tZ := fun c _ => ⟨by rw [tZ_0 (by decide)]; omega, by rw [tZ_0 (by decide)]; omega⟩
def zN (κ : Nat) : Nat × Nat := match κ with
  | 1 => (1, 8)
  | 3 => (1, 32)
  | 4 => (1, 32)
  | 5 => (1, 32)
  | 6 => (1, 32)
  | 9 => (1, 1984)
  | 13 => (1, 24)
  | 14 => (4, 13)
  | 15 => (4, 4)
  | 16 => (4, 4)
  | 17 => (4, 2)
  | 18 => (4, 24)
  | 19 => (4, 2)
  | 20 => (4, 24)
  | 21 => (24, 2)
  | 22 => (24, 8)
  | _ => (0, 0)
theorem qPers_z {p : Nat} : qPers tZ p = 0 := by unfold qPers; rw [tZ_13, if_neg (by decide)]
theorem qPer_z {p : Nat} : qPer tZ p = 0 := by unfold qPer; rw [tZ_0 (by decide)]
theorem qSz_z {p : Nat} : qSz tZ p = 0 := by unfold qSz; rw [tZ_13, if_neg (by decide), tZ_0 (by decide)]
theorem qMade_z : qMade tZ = 0 := by decide +kernel
theorem msk_z {v p : Nat} : msk (fB tZ v p) 62 = 0 := by
  have : fB tZ v p = fun _ => false := by
    funext k
    unfold fB
    rw [qPers_z, decide_eq_false (Nat.not_lt_zero k)]; rfl
  rw [this]; decide
theorem cI_z {κ i k : Nat} {v : Int32} (h : cI tZ κ i k = some v) : κ < 23 ∧ i < (zN κ).1 ∧ k < (zN κ).2 ∧ v = (if κ = 3 then m1 else 0) := by
  unfold cI at h
  cases hc : cT κ i k with
  | some r =>
    rw [hc] at h
    obtain ⟨q, j, e⟩ := r
    have h := Option.some.inj h
    subst h
    unfold cT at hc
    split at hc <;> (repeat' split at hc) <;> first
      | (cases hc; done)
      | (simp only [Option.some.injEq, Prod.mk.injEq] at hc
         obtain ⟨rfl, rfl, rfl⟩ := hc
         refine ⟨by decide, by first | (simp only [zN]; omega) | (unfold zN; dsimp only; omega), by first | (simp only [zN]; omega) | (unfold zN; dsimp only; omega), ?_⟩
         dsimp only
         first
           | (rw [tZ_13]; rfl; done)
           | (rw [tZ_0 (by omega)]; rfl; done))
  | none =>
    rw [hc] at h
    have h : cD tZ κ i k = some v := h
    unfold cD at h
    split at h <;> (repeat' split at h) <;> first
      | (cases h; done)
      | (have h := Option.some.inj h
         subst h
         refine ⟨by decide, by first | (simp only [zN]; omega) | (unfold zN; dsimp only; omega), by first | (simp only [zN]; omega) | (unfold zN; dsimp only; omega), ?_⟩
         first
           | (rw [qMade_z]; rfl; done)
           | (rw [qSz_z]; rfl; done)
           | (rw [qPers_z]; rfl; done)
           | (rw [qPer_z]; rfl; done)
           | (rfl; done))
/-- the cells of the first state -/
def ZF (M : xMem) : Prop := (∀ b κ i k, b < 3 → i < (zN κ).1 → k < (zN κ).2 → M.1 (κ, b, i) k = (if κ = 3 then m1 else 0)) ∧ (∀ b κ i k, b < 3 → κ = 7 ∨ κ = 8 ∨ κ = 14 → M.2.1 (κ, b, i) k = 0)
  ∧ (∀ r, r ∈ zM → ∀ k, k < r.2 → M.1 (r.1, 0, 0) k = zvM r.1) ∧ (∀ k, k < 55 → M.1 (44, 0, 0) k = 0) ∧ (∀ k, k < 4 → M.2.1 (57, 0, 0) k = 0) ∧ (∀ k, k < 15 → M.1 (0, 0, 0) k = 0)
  ∧ (∀ k, k < 26 → M.1 (38, 0, 0) k = m1 ∧ M.1 (71, 0, 0) k = -9) ∧ (∀ k, k < 100 → M.1 (25, 0, 0) k = M.1 (75, 0, 0) k) ∧ (∀ k, k < 4 → M.1 (43, 0, 0) k = m1 ∧ M.1 (80, 0, 0) k = -9)
  ∧ (∀ i k, i < 4 → k < 40 → M.1 (42, 0, i) k = 0) ∧ ∀ k, k < 160 → M.1 (79, 0, 0) k = 0
theorem HB_z {b : Nat} {M : xMem} (h : ZF M) (hb : b < 3) : HB b tZ M := by
  refine ⟨fun κ i k v e => ?_, fun κ i k v e => ?_⟩
  · obtain ⟨c0, c1, c2, rfl⟩ := cI_z e
    exact h.1 b κ i k hb c1 c2
  · unfold cL at e
    split at e <;> (repeat' split at e) <;> first
      | (cases e; done)
      | (have e := Option.some.inj e
         subst e
         rw [msk_z, h.2.1 b _ _ _ hb (by decide)]; rfl)
      | (have e := Option.some.inj e
         subst e
         rw [h.2.1 b _ _ _ hb (by decide)]; rfl)
theorem zM_mQ : ∀ r ∈ mQ, (r.1, r.2.2.1) ∈ zM ∧ zvM r.1 = me r.2.2.2 (if r.2.1 = 13 then 4 else if r.2.1 = 15 ∨ r.2.1 = 16 then 24 else 0) := by decide
theorem MZ {M : xMem} (h : ZF M) : mM 0 sZ M = M := by
  obtain ⟨-, -, h3, h44, h57, -⟩ := h
  refine mM_abs (fun κ q B t k hm hk => ?_) (fun k hk => h3 (61, 1984) (by decide) k hk) ?_ ?_ ?_ (fun k hk => h57 k hk)
  · obtain ⟨a1, a3⟩ := zM_mQ _ (mL_mem hm)
    exact (h3 _ a1 k hk).trans a3
  · rw [h44 13 (by decide), sZ_0 (by decide)]; rfl
  · rw [h44 14 (by decide), sZ_0 (by decide)]; rfl
  · rw [h44 15 (by decide), sZ_0 (by decide)]; rfl
theorem LR2_ini (h : ZF xI3) : LR2 xI3 xI3 := by
  obtain ⟨-, -, -, h44, -, h0, h38, h25, h43, h42, h79⟩ := id h
  refine ⟨⟨0, sZ, tZ, xI3_W, xI3_W, MZ h, EZ, IZ, UZ, HB_z h (by decide), tZ, HB_z h (by decide)⟩, ⟨fun _ => 32768, fun k hk => h38 k hk⟩, ⟨0, ?_, ?_, by decide, h25⟩, ⟨fun _ => 41, fun _ => 0, ⟨fun k hk => (h43 k hk).1, fun i j hi hj => h42 i j hi hj⟩, fun k hk => (h43 k hk).2, fun x hx => h79 x hx⟩, ?_, ⟨0, by decide, xI3_R.2.1, xI3_R.2.2, Or.inl ⟨h0 _ (by decide), h44 _ (by decide)⟩⟩, ⟨tZ, HB_z h (by decide), Or.inl ⟨h0 _ (by decide), h44 _ (by decide)⟩⟩⟩
  · rw [h0 _ (by decide)]; rfl
  · rw [h44 _ (by decide)]; rfl
  · show xI3.1 (0, 0, 0) 13 = xI3.1 (44, 0, 0) 49
    rw [h0 _ (by decide), h44 _ (by decide)]
