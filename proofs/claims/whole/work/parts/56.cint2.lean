/-! the class's intervals: all unmade -/
theorem sEmp_sA {s : xS} {m q j v : Nat} (h1 : q ≠ 13) (h2 : q ≠ 0) (h3 : q ≠ 17) (h4 : q ≠ 12) (h5 : q ≠ 21) (h6 : q ≠ 20) (h7 : q ≠ 18) : sEmp (sA s q j v) m = sA (sEmp s m) q j v := by
  unfold sEmp
  split
  · rw [sA_n (fun e => h6 e.symm), sEmL_sA h1 h2 h3 h4 h5, sA_comm (q := q) (q' := 20) h6, sA_comm (q := q) (q' := 18) h7]
  · rfl
def sP (g1 g2 : Nat → Nat) (s : xS) : Nat → Nat → xS
  | 0, _ => s
  | d + 1, k => sP g1 g2 (sEmp (sEmp s (g1 k)) (g2 k)) d (k + 1)
def sG (g : Nat → Nat) (s : xS) : Nat → Nat → xS
  | 0, _ => s
  | d + 1, k => sG g (sEmp s (g k)) d (k + 1)
theorem sP_1 {g1 g2 : Nat → Nat} : ∀ {d k : Nat} {s : xS} {q : Nat}, q ≠ 17 → q ≠ 12 → q ≠ 20 → q ≠ 18 → (sP g1 g2 s d k).1 q = s.1 q := by
  intro d
  induction d with
  | zero => intro k s q _ _ _ _; rfl
  | succ d ih => intro k s q h1 h2 h3 h4; unfold sP; rw [ih h1 h2 h3 h4, sEmp_1 h1 h2 h3 h4, sEmp_1 h1 h2 h3 h4]
theorem sP_sA {g1 g2 : Nat → Nat} {q j v : Nat} (h1 : q ≠ 13) (h2 : q ≠ 0) (h3 : q ≠ 17) (h4 : q ≠ 12) (h5 : q ≠ 21) (h6 : q ≠ 20) (h7 : q ≠ 18) : ∀ {d k : Nat} {s : xS}, sP g1 g2 (sA s q j v) d k = sA (sP g1 g2 s d k) q j v := by
  intro d
  induction d with
  | zero => intro k s; rfl
  | succ d ih => intro k s; unfold sP; rw [sEmp_sA h1 h2 h3 h4 h5 h6 h7, sEmp_sA h1 h2 h3 h4 h5 h6 h7, ih]
theorem sG_sA {g : Nat → Nat} {q j v : Nat} (h1 : q ≠ 13) (h2 : q ≠ 0) (h3 : q ≠ 17) (h4 : q ≠ 12) (h5 : q ≠ 21) (h6 : q ≠ 20) (h7 : q ≠ 18) : ∀ {d k : Nat} {s : xS}, sG g (sA s q j v) d k = sA (sG g s d k) q j v := by
  intro d
  induction d with
  | zero => intro k s; rfl
  | succ d ih => intro k s; unfold sG; rw [sEmp_sA h1 h2 h3 h4 h5 h6 h7, ih]
theorem sG_emp {g : Nat → Nat} {m : Nat} : ∀ {d k : Nat} {s : xS}, (∀ j, k ≤ j → j < k + d → m < 24 → g j < 24 → m ≠ g j) → sG g (sEmp s m) d k = sEmp (sG g s d k) m := by
  intro d
  induction d with
  | zero => intro k s _; rfl
  | succ d ih =>
    intro k s h
    unfold sG
    rw [sEmp_comm (h k (Nat.le_refl _) (by omega)), ih (fun j h1 h2 => h j (by omega) (by omega))]
theorem sP_G {g1 g2 : Nat → Nat} : ∀ {d k : Nat} {s : xS}, (∀ i j, k ≤ i → i < k + d → k ≤ j → j < k + d → g2 i < 24 → g1 j < 24 → g2 i ≠ g1 j) → sP g1 g2 s d k = sG g2 (sG g1 s d k) d k := by
  intro d
  induction d with
  | zero => intro k s _; rfl
  | succ d ih =>
    intro k s h
    have e1 : sP g1 g2 s (d + 1) k = sP g1 g2 (sEmp (sEmp s (g1 k)) (g2 k)) d (k + 1) := rfl
    have e2 : sG g1 s (d + 1) k = sG g1 (sEmp s (g1 k)) d (k + 1) := rfl
    have e3 : ∀ u, sG g2 u (d + 1) k = sG g2 (sEmp u (g2 k)) d (k + 1) := fun u => rfl
    rw [e1, e2, e3, ih (fun i j h1 h2 h3 h4 => h i j (by omega) (by omega) (by omega) (by omega)), sG_emp (fun j h1 h2 => h k j (Nat.le_refl _) (by omega) (by omega) (by omega))]
theorem sG_stop {g : Nat → Nat} : ∀ {d k e : Nat} {s : xS}, (∀ j, k + d ≤ j → j < k + d + e → 24 ≤ g j) → sG g s (d + e) k = sG g s d k := by
  intro d
  induction d with
  | zero =>
    intro k e
    induction e generalizing k with
    | zero => intro s _; rfl
    | succ e ih =>
      intro s h
      have e1 : sG g s (0 + (e + 1)) k = sG g (sEmp s (g k)) (0 + e) (k + 1) := by rw [show 0 + (e + 1) = (0 + e) + 1 from by omega]; rfl
      have e2 : sEmp s (g k) = s := if_neg (by have := h k (by omega) (by omega); omega)
      rw [e1, e2, ih (fun j h1 h2 => h j (by omega) (by omega))]; rfl
  | succ d ih =>
    intro k e s h
    rw [show d + 1 + e = (d + e) + 1 from by omega]
    unfold sG
    rw [ih (fun j h1 h2 => h j (by omega) (by omega))]
theorem sUnF_G {c : Nat} {g : Nat → Nat} : ∀ {d k : Nat} {s : xS}, (∀ j, k ≤ j → j < k + d → s.1 23 (24 * c + j) = g j) → sUnF s c d k = sG g s d k := by
  intro d
  induction d with
  | zero => intro k s _; rfl
  | succ d ih =>
    intro k s h
    have e1 : sUnF s c (d + 1) k = sUnF (sEmp s (s.1 23 (24 * c + k))) c d (k + 1) := rfl
    have e2 : sG g s (d + 1) k = sG g (sEmp s (g k)) d (k + 1) := rfl
    rw [e1, e2, h k (Nat.le_refl _) (by omega)]
    exact ih (fun j h1 h2 => by rw [sEmp_1 (by decide) (by decide) (by decide) (by decide)]; exact h j (by omega) (by omega))
theorem sUnE_G {c : Nat} {g : Nat → Nat} : ∀ {d k : Nat} {s : xS}, (∀ j, k ≤ j → j < k + d → s.1 25 (24 * c + j) = g j) → sUnE s c d k = sG g s d k := by
  intro d
  induction d with
  | zero => intro k s _; rfl
  | succ d ih =>
    intro k s h
    have e1 : sUnE s c (d + 1) k = sUnE (sEmp s (s.1 25 (24 * c + k))) c d (k + 1) := rfl
    have e2 : sG g s (d + 1) k = sG g (sEmp s (g k)) d (k + 1) := rfl
    rw [e1, e2, h k (Nat.le_refl _) (by omega)]
    exact ih (fun j h1 h2 => by rw [sEmp_1 (by decide) (by decide) (by decide) (by decide)]; exact h j (by omega) (by omega))
/-- the processors' magazines are told to be none -/
def sFl (s : xS) (c : Nat) : Nat → Nat → xS
  | 0, _ => s
  | d + 1, p => sFl (sA (sA s 15 (4 * c + p) 24) 16 (4 * c + p) 24) c d (p + 1)
theorem sFl_sA {c q j v : Nat} (h1 : q ≠ 15) (h2 : q ≠ 16) : ∀ {d p : Nat} {s : xS}, sFl (sA s q j v) c d p = sA (sFl s c d p) q j v := by
  intro d
  induction d with
  | zero => intro p s; rfl
  | succ d ih => intro p s; unfold sFl; rw [sA_comm (q := q) h1, sA_comm (q := q) h2, ih]
theorem sFl_G {c : Nat} {g : Nat → Nat} : ∀ {d p e k : Nat} {s : xS}, sG g (sFl s c d p) e k = sFl (sG g s e k) c d p := by
  intro d
  induction d with
  | zero => intro p e k s; rfl
  | succ d ih =>
    intro p e k s
    unfold sFl
    rw [ih, sG_sA (by decide) (by decide) (by decide) (by decide) (by decide) (by decide) (by decide), sG_sA (by decide) (by decide) (by decide) (by decide) (by decide) (by decide) (by decide)]
theorem sDrs_P {c : Nat} {g1 g2 : Nat → Nat} : ∀ {d p : Nat} {s : xS}, (∀ j, p ≤ j → j < p + d → s.1 15 (4 * c + j) = g1 j ∧ s.1 16 (4 * c + j) = g2 j) → sDrs s c d p = sFl (sP g1 g2 s d p) c d p := by
  intro d
  induction d with
  | zero => intro p s _; rfl
  | succ d ih =>
    intro p s h
    obtain ⟨h1, h2⟩ := h p (Nat.le_refl _) (by omega)
    have e1 : sDrs s c (d + 1) p = sDrs (sDr s (4 * c + p)) c d (p + 1) := rfl
    have e2 : sP g1 g2 s (d + 1) p = sP g1 g2 (sEmp (sEmp s (g1 p)) (g2 p)) d (p + 1) := rfl
    have e3 : ∀ u, sFl u c (d + 1) p = sFl (sA (sA u 15 (4 * c + p) 24) 16 (4 * c + p) 24) c d (p + 1) := fun u => rfl
    have e4 : sDr s (4 * c + p) = sA (sA (sEmp (sEmp s (g1 p)) (g2 p)) 15 (4 * c + p) 24) 16 (4 * c + p) 24 := by unfold sDr; rw [h1, h2]
    rw [e1, e2, e3, e4, ih, sP_sA (by decide) (by decide) (by decide) (by decide) (by decide) (by decide) (by decide), sP_sA (by decide) (by decide) (by decide) (by decide) (by decide) (by decide) (by decide)]
    intro j hj hj2
    have h3 := h j (by omega) (by omega)
    rw [sA_n (by decide), sA_1, if_neg (by omega), sEmp_1 (by decide) (by decide) (by decide) (by decide), sEmp_1 (by decide) (by decide) (by decide) (by decide), sA_1, if_neg (by omega), sA_n (by decide), sEmp_1 (by decide) (by decide) (by decide) (by decide), sEmp_1 (by decide) (by decide) (by decide) (by decide)]
    exact h3
theorem sUA_eq {t : xS} (hI : IQ t) {c : Nat} (hc : c < t.1 19 0) : sUA t c = sFl (sA (sA (sP (fun k => ref t (2, c, k)) (fun k => ref t (3, c, k)) (sP (fun p => ref t (0, c, p)) (fun p => ref t (1, c, p)) t 4 0) 24 0) 22 c 0) 24 c 0) c 4 0 := by
  have hfe := hI.1.fe c hc
  have hD : sDrs t c 4 0 = sFl (sP (fun p => ref t (0, c, p)) (fun p => ref t (1, c, p)) t 4 0) c 4 0 := sDrs_P (fun j _ hj => ⟨(ref_0 hc (by omega)).symm, (ref_1 hc (by omega)).symm⟩)
  have hP1 : ∀ q, q ≠ 17 → q ≠ 12 → q ≠ 20 → q ≠ 18 → (sP (fun p => ref t (0, c, p)) (fun p => ref t (1, c, p)) t 4 0).1 q = t.1 q := fun q a1 a2 a3 a4 => sP_1 a1 a2 a3 a4
  unfold sUA
  rw [hD]
  generalize sP (fun p => ref t (0, c, p)) (fun p => ref t (1, c, p)) t 4 0 = w at hP1
  have hF : ∀ u q, q ≠ 15 → q ≠ 16 → (sFl u c 4 0).1 q = u.1 q := fun u q h1 h2 => by
    simp only [sFl, sA_n h1, sA_n h2]
  have hf : ∀ u, u.1 22 c = t.1 22 c → u.1 23 = t.1 23 → sUFF u c (t.1 22 c) = sA (sG (fun k => ref t (2, c, k)) u 24 0) 22 c 0 := fun u h1 h2 => by
    have e0 : t.1 22 c - t.1 22 c = 0 := Nat.sub_self _
    have e1 : ∀ x, sShF x c (t.1 22 c) 0 (t.1 22 c) = x := fun x => rfl
    unfold sUFF
    rw [h1, e0, e1, sUnF_G (g := fun k => ref t (2, c, k)) (fun j _ hj => by rw [h2]; exact (ref_2 hc (by omega)).symm)]
    have := sG_stop (g := fun k => ref t (2, c, k)) (d := t.1 22 c) (k := 0) (e := 24 - t.1 22 c) (s := u) (fun j hj1 hj2 => by
      rcases Nat.lt_or_ge (ref t (2, c, j)) 24 with h5 | h5
      · obtain ⟨-, h6⟩ := ref_cases h5
        rcases h6 with ⟨h7, -⟩ | ⟨h7, -⟩ | ⟨-, h7, -⟩ | ⟨h7, -⟩
        · cases h7
        · cases h7
        · have h8 : j < t.1 22 c := h7
          omega
        · cases h7
      · exact h5)
    rw [show t.1 22 c + (24 - t.1 22 c) = 24 from by omega] at this
    rw [this]
  have he : ∀ u, u.1 24 c = t.1 24 c → u.1 25 = t.1 25 → sUFE u c (t.1 24 c) = sA (sG (fun k => ref t (3, c, k)) u 24 0) 24 c 0 := fun u h1 h2 => by
    have e0 : t.1 24 c - t.1 24 c = 0 := Nat.sub_self _
    have e1 : ∀ x, sShE x c (t.1 24 c) 0 (t.1 24 c) = x := fun x => rfl
    unfold sUFE
    rw [h1, e0, e1, sUnE_G (g := fun k => ref t (3, c, k)) (fun j _ hj => by rw [h2]; exact (ref_3 hc (by omega)).symm)]
    have := sG_stop (g := fun k => ref t (3, c, k)) (d := t.1 24 c) (k := 0) (e := 24 - t.1 24 c) (s := u) (fun j hj1 hj2 => by
      rcases Nat.lt_or_ge (ref t (3, c, j)) 24 with h5 | h5
      · obtain ⟨-, h6⟩ := ref_cases h5
        rcases h6 with ⟨h7, -⟩ | ⟨h7, -⟩ | ⟨h7, -⟩ | ⟨-, h7, -⟩
        · cases h7
        · cases h7
        · cases h7
        · have h8 : j < t.1 24 c := h7
          omega
      · exact h5)
    rw [show t.1 24 c + (24 - t.1 24 c) = 24 from by omega] at this
    rw [this]
  have hG1 : ∀ g d k q, q ≠ 17 → q ≠ 12 → q ≠ 20 → q ≠ 18 → ∀ u, (sG g u d k).1 q = u.1 q := by
    intro g d
    induction d with
    | zero => intro k q _ _ _ _ u; rfl
    | succ d ih => intro k q h1 h2 h3 h4 u; unfold sG; rw [ih _ _ h1 h2 h3 h4, sEmp_1 h1 h2 h3 h4]
  rw [hf _ (by rw [hF _ _ (by decide) (by decide), hP1 22 (by decide) (by decide) (by decide) (by decide)]) (by rw [hF _ _ (by decide) (by decide), hP1 23 (by decide) (by decide) (by decide) (by decide)])]
  rw [he _ (by rw [sA_n (by decide), hG1 _ _ _ _ (by decide) (by decide) (by decide) (by decide), hF _ _ (by decide) (by decide), hP1 24 (by decide) (by decide) (by decide) (by decide)]) (by rw [sA_n (by decide), hG1 _ _ _ _ (by decide) (by decide) (by decide) (by decide), hF _ _ (by decide) (by decide), hP1 25 (by decide) (by decide) (by decide) (by decide)])]
  rw [sG_sA (by decide) (by decide) (by decide) (by decide) (by decide) (by decide) (by decide), sFl_G, sFl_G, ← sFl_sA (by decide) (by decide), ← sFl_sA (by decide) (by decide)]
  rw [sP_G (fun i j _ _ _ _ h1 h2 e => by have := hI.J (P := (3, c, i)) (Q := (2, c, j)) h1 e; simp at this)]
def sFk (u : xS) (κ c : Nat) : Nat → Nat → xS
  | 0, _ => u
  | d + 1, i => sFk (sA u κ (4 * c + i) 24) κ c d (i + 1)
theorem D_fill15 {b c : Nat} {Y : xMem} (hW : XW Y) (hb : b < 3) (hi : c < 4) (u : xS) : fJ_fill (cM b u Y) (some (15, b, c)) m1 = some (cM b (sA (sA (sA (sA u 15 (4 * c + 0) 24) 15 (4 * c + 1) 24) 15 (4 * c + 2) 24) 15 (4 * c + 3) 24) Y) := by
  have key : ∀ e i n u, i + e = 4 → e < n → fJ_fill_5 n (cM b u Y) (some (15, b, c)) m1 (nI i) (nI 4) = some (cM b (sFk u 15 c e i) Y) := by
    intro e
    induction e with
    | zero =>
      intro i n u hie hn
      obtain ⟨n, rfl⟩ : ∃ m, n = m + 1 := ⟨n - 1, by omega⟩
      have h5 : 4 ≤ i := by omega
      simp (disch := first | assumption | omega | decide | with_unfolding_all exact hW) only [fJ_fill_5, nI_leI, h5, if_true]
      rfl
    | succ e ih =>
      intro i n u hie hn
      obtain ⟨n, rfl⟩ : ∃ m, n = m + 1 := ⟨n - 1, by omega⟩
      have h5 : ¬ 4 ≤ i := by omega
      have hp : i < 4 := by omega
      simp (disch := first | assumption | omega | decide | with_unfolding_all exact hW) only [fJ_fill_5, nI_leI, h5, if_false, ↓km1, ↓cO_1b, ↓cO_2b, ↓cO_14b, ↓cO_17b, ↓cO_19b, ↓cO_21b, ↓cR_1_0b, ↓cR_1_1b, ↓cR_1_2b, ↓cR_1_3b, ↓cR_2_0b, ↓cR_2_1b, ↓cR_2_2b, ↓cR_2_3b, ↓cR_2_4b, ↓cR_2_5b, ↓cR_2_6b, ↓cR_2_7b, ↓cR_14_14b, ↓cR_14_15b, ↓cR_14_16b, ↓cR_14_17b, ↓cR_17_0b, ↓cR_19_0b, ↓cR_21_0b, ↓cA_11b, ↓cA_12b, ↓cg_1_4b, ↓cg_1_5b, ↓cg_1_6b, ↓cg_1_7b, ↓cg_14_0b, ↓cg_14_1b, ↓cg_14_2b, ↓cg_14_3b, ↓cg_14_4b, ↓cg_14_5b, ↓cg_14_6b, ↓cg_14_7b, ↓cg_14_8b, ↓cg_14_9b, ↓cg_14_10b, ↓cg_14_11b, ↓cg_14_12b, ↓cg_14_13b, ↓cg_17_1b, ↓cg_19_1b, ↓cg_21_1b, ↓ca_3b, ↓ca_4b, ↓ca_5b, ↓ca_6b, ↓ca_9b, ↓ca_15b, ↓ca_16b, ↓ca_18b, ↓ca_20b, ↓ca_22b, ↓ca_13b, ↓ca_7b, ↓ca_8b, ↓cp_1_4b, ↓cp_1_6b, ↓cp_1_7b, ↓cp_14_0b, ↓cp_14_2b, ↓cp_14_4b, ↓cp_14_5b, ↓cp_14_6b, ↓cp_14_7b, ↓cp_14_8b, ↓cp_14_9b, ↓cp_14_10b, ↓cp_14_11b, ↓cp_14_12b, ↓cp_14_13b, ↓cp_17_1b, ↓cp_19_1b, ↓cp_21_1b, ↓cu_4b, ↓cu_15b, ↓cn_15b, ↓cm_15b, ↓cu_16b, ↓cn_16b, ↓cm_16b, ↓cu_18b, ↓cu_20b, ↓cu_22b, ↓cu_9b, ↓cl_15b, ↓cl_16b, ↓cl_18b, ↓cl_20b, ↓cl_22b, ↓Option.bind_some, cO_1, cO_2, cO_14, cO_17, cO_19, cO_21, cR_1_0, cR_1_1, cR_1_2, cR_1_3, cR_2_0, cR_2_1, cR_2_2, cR_2_3, cR_2_4, cR_2_5, cR_2_6, cR_2_7, cR_14_14, cR_14_15, cR_14_16, cR_14_17, cR_17_0, cR_19_0, cR_21_0, cA_11, cA_12, cg_1_4, cg_1_5, cg_1_6, cg_1_7, cg_14_0, cg_14_1, cg_14_2, cg_14_3, cg_14_4, cg_14_5, cg_14_6, cg_14_7, cg_14_8, cg_14_9, cg_14_10, cg_14_11, cg_14_12, cg_14_13, cg_17_1, cg_19_1, cg_21_1, ca_3, ca_4, ca_5, ca_6, ca_9, ca_15, ca_16, ca_18, ca_20, ca_22, ca_13, ca_7, ca_8, cp_1_4, cp_1_6, cp_1_7, cp_14_0, cp_14_2, cp_14_4, cp_14_5, cp_14_6, cp_14_7, cp_14_8, cp_14_9, cp_14_10, cp_14_11, cp_14_12, cp_14_13, cp_17_1, cp_19_1, cp_21_1, cu_4, cu_15, cn_15, cm_15, cu_16, cn_16, cm_16, cu_18, cu_20, cu_22, cu_9, cl_15, cl_16, cl_18, cl_20, cl_22, Option.bind_some, kl_0, kl_1, kl_2, kl_3, kl_4, kl_5, kl_6, kl_7, kl_8, kl_10, kl_13, kl_14, kl_15, kl_16, kl_24, kl_25, kl_26, kl_31, kl_32, kl_36, kl_40, kl_62, kl_99, kl_100, kl_255, kl_400, kl_992, kl_1023, kl_1024, kl_1984, kl_9200, kl_4600, kl_48, kl_57, kl_97, kl_122, kl_32767, nI_add, pk_mul]
      rw [ih (i + 1) n _ (by omega) (by omega)]
      rfl
  unfold fJ_fill
  rw [cl_15 hW hb hi, Option.bind_some, kl_0, key 4 0 xF u (by omega) (by unfold xF; omega)]
  rfl
theorem D_fill16 {b c : Nat} {Y : xMem} (hW : XW Y) (hb : b < 3) (hi : c < 4) (u : xS) : fJ_fill (cM b u Y) (some (16, b, c)) m1 = some (cM b (sA (sA (sA (sA u 16 (4 * c + 0) 24) 16 (4 * c + 1) 24) 16 (4 * c + 2) 24) 16 (4 * c + 3) 24) Y) := by
  have key : ∀ e i n u, i + e = 4 → e < n → fJ_fill_5 n (cM b u Y) (some (16, b, c)) m1 (nI i) (nI 4) = some (cM b (sFk u 16 c e i) Y) := by
    intro e
    induction e with
    | zero =>
      intro i n u hie hn
      obtain ⟨n, rfl⟩ : ∃ m, n = m + 1 := ⟨n - 1, by omega⟩
      have h5 : 4 ≤ i := by omega
      simp (disch := first | assumption | omega | decide | with_unfolding_all exact hW) only [fJ_fill_5, nI_leI, h5, if_true]
      rfl
    | succ e ih =>
      intro i n u hie hn
      obtain ⟨n, rfl⟩ : ∃ m, n = m + 1 := ⟨n - 1, by omega⟩
      have h5 : ¬ 4 ≤ i := by omega
      have hp : i < 4 := by omega
      simp (disch := first | assumption | omega | decide | with_unfolding_all exact hW) only [fJ_fill_5, nI_leI, h5, if_false, ↓km1, ↓cO_1b, ↓cO_2b, ↓cO_14b, ↓cO_17b, ↓cO_19b, ↓cO_21b, ↓cR_1_0b, ↓cR_1_1b, ↓cR_1_2b, ↓cR_1_3b, ↓cR_2_0b, ↓cR_2_1b, ↓cR_2_2b, ↓cR_2_3b, ↓cR_2_4b, ↓cR_2_5b, ↓cR_2_6b, ↓cR_2_7b, ↓cR_14_14b, ↓cR_14_15b, ↓cR_14_16b, ↓cR_14_17b, ↓cR_17_0b, ↓cR_19_0b, ↓cR_21_0b, ↓cA_11b, ↓cA_12b, ↓cg_1_4b, ↓cg_1_5b, ↓cg_1_6b, ↓cg_1_7b, ↓cg_14_0b, ↓cg_14_1b, ↓cg_14_2b, ↓cg_14_3b, ↓cg_14_4b, ↓cg_14_5b, ↓cg_14_6b, ↓cg_14_7b, ↓cg_14_8b, ↓cg_14_9b, ↓cg_14_10b, ↓cg_14_11b, ↓cg_14_12b, ↓cg_14_13b, ↓cg_17_1b, ↓cg_19_1b, ↓cg_21_1b, ↓ca_3b, ↓ca_4b, ↓ca_5b, ↓ca_6b, ↓ca_9b, ↓ca_15b, ↓ca_16b, ↓ca_18b, ↓ca_20b, ↓ca_22b, ↓ca_13b, ↓ca_7b, ↓ca_8b, ↓cp_1_4b, ↓cp_1_6b, ↓cp_1_7b, ↓cp_14_0b, ↓cp_14_2b, ↓cp_14_4b, ↓cp_14_5b, ↓cp_14_6b, ↓cp_14_7b, ↓cp_14_8b, ↓cp_14_9b, ↓cp_14_10b, ↓cp_14_11b, ↓cp_14_12b, ↓cp_14_13b, ↓cp_17_1b, ↓cp_19_1b, ↓cp_21_1b, ↓cu_4b, ↓cu_15b, ↓cn_15b, ↓cm_15b, ↓cu_16b, ↓cn_16b, ↓cm_16b, ↓cu_18b, ↓cu_20b, ↓cu_22b, ↓cu_9b, ↓cl_15b, ↓cl_16b, ↓cl_18b, ↓cl_20b, ↓cl_22b, ↓Option.bind_some, cO_1, cO_2, cO_14, cO_17, cO_19, cO_21, cR_1_0, cR_1_1, cR_1_2, cR_1_3, cR_2_0, cR_2_1, cR_2_2, cR_2_3, cR_2_4, cR_2_5, cR_2_6, cR_2_7, cR_14_14, cR_14_15, cR_14_16, cR_14_17, cR_17_0, cR_19_0, cR_21_0, cA_11, cA_12, cg_1_4, cg_1_5, cg_1_6, cg_1_7, cg_14_0, cg_14_1, cg_14_2, cg_14_3, cg_14_4, cg_14_5, cg_14_6, cg_14_7, cg_14_8, cg_14_9, cg_14_10, cg_14_11, cg_14_12, cg_14_13, cg_17_1, cg_19_1, cg_21_1, ca_3, ca_4, ca_5, ca_6, ca_9, ca_15, ca_16, ca_18, ca_20, ca_22, ca_13, ca_7, ca_8, cp_1_4, cp_1_6, cp_1_7, cp_14_0, cp_14_2, cp_14_4, cp_14_5, cp_14_6, cp_14_7, cp_14_8, cp_14_9, cp_14_10, cp_14_11, cp_14_12, cp_14_13, cp_17_1, cp_19_1, cp_21_1, cu_4, cu_15, cn_15, cm_15, cu_16, cn_16, cm_16, cu_18, cu_20, cu_22, cu_9, cl_15, cl_16, cl_18, cl_20, cl_22, Option.bind_some, kl_0, kl_1, kl_2, kl_3, kl_4, kl_5, kl_6, kl_7, kl_8, kl_10, kl_13, kl_14, kl_15, kl_16, kl_24, kl_25, kl_26, kl_31, kl_32, kl_36, kl_40, kl_62, kl_99, kl_100, kl_255, kl_400, kl_992, kl_1023, kl_1024, kl_1984, kl_9200, kl_4600, kl_48, kl_57, kl_97, kl_122, kl_32767, nI_add, pk_mul]
      rw [ih (i + 1) n _ (by omega) (by omega)]
      rfl
  unfold fJ_fill
  rw [cl_16 hW hb hi, Option.bind_some, kl_0, key 4 0 xF u (by omega) (by unfold xF; omega)]
  rfl
def sLose (u : xS) (c : Nat) : xS := sFl (sA (sA u 22 c 0) 24 c 0) c 4 0
theorem D_lose {b : Nat} {t : xS} {Y : xMem} {c : Nat} (hW : XW Y) (hb : b < 3) (hi : c < 4) : fC_loseMagazines (cM b t Y) (14, b, c) = some (cM b (sLose t c) Y) := by
  have h1 : ∀ u, fP_clear (cM b u Y) (17, b, c) = some (cM b (sA u 22 c 0) Y) := fun u => by
    unfold fP_clear
    simp (disch := first | assumption | omega | decide | with_unfolding_all exact hW) only [↓km1, ↓cO_1b, ↓cO_2b, ↓cO_14b, ↓cO_17b, ↓cO_19b, ↓cO_21b, ↓cR_1_0b, ↓cR_1_1b, ↓cR_1_2b, ↓cR_1_3b, ↓cR_2_0b, ↓cR_2_1b, ↓cR_2_2b, ↓cR_2_3b, ↓cR_2_4b, ↓cR_2_5b, ↓cR_2_6b, ↓cR_2_7b, ↓cR_14_14b, ↓cR_14_15b, ↓cR_14_16b, ↓cR_14_17b, ↓cR_17_0b, ↓cR_19_0b, ↓cR_21_0b, ↓cA_11b, ↓cA_12b, ↓cg_1_4b, ↓cg_1_5b, ↓cg_1_6b, ↓cg_1_7b, ↓cg_14_0b, ↓cg_14_1b, ↓cg_14_2b, ↓cg_14_3b, ↓cg_14_4b, ↓cg_14_5b, ↓cg_14_6b, ↓cg_14_7b, ↓cg_14_8b, ↓cg_14_9b, ↓cg_14_10b, ↓cg_14_11b, ↓cg_14_12b, ↓cg_14_13b, ↓cg_17_1b, ↓cg_19_1b, ↓cg_21_1b, ↓ca_3b, ↓ca_4b, ↓ca_5b, ↓ca_6b, ↓ca_9b, ↓ca_15b, ↓ca_16b, ↓ca_18b, ↓ca_20b, ↓ca_22b, ↓ca_13b, ↓ca_7b, ↓ca_8b, ↓cp_1_4b, ↓cp_1_6b, ↓cp_1_7b, ↓cp_14_0b, ↓cp_14_2b, ↓cp_14_4b, ↓cp_14_5b, ↓cp_14_6b, ↓cp_14_7b, ↓cp_14_8b, ↓cp_14_9b, ↓cp_14_10b, ↓cp_14_11b, ↓cp_14_12b, ↓cp_14_13b, ↓cp_17_1b, ↓cp_19_1b, ↓cp_21_1b, ↓cu_4b, ↓cu_15b, ↓cn_15b, ↓cm_15b, ↓cu_16b, ↓cn_16b, ↓cm_16b, ↓cu_18b, ↓cu_20b, ↓cu_22b, ↓cu_9b, ↓cl_15b, ↓cl_16b, ↓cl_18b, ↓cl_20b, ↓cl_22b, ↓Option.bind_some, cO_1, cO_2, cO_14, cO_17, cO_19, cO_21, cR_1_0, cR_1_1, cR_1_2, cR_1_3, cR_2_0, cR_2_1, cR_2_2, cR_2_3, cR_2_4, cR_2_5, cR_2_6, cR_2_7, cR_14_14, cR_14_15, cR_14_16, cR_14_17, cR_17_0, cR_19_0, cR_21_0, cA_11, cA_12, cg_1_4, cg_1_5, cg_1_6, cg_1_7, cg_14_0, cg_14_1, cg_14_2, cg_14_3, cg_14_4, cg_14_5, cg_14_6, cg_14_7, cg_14_8, cg_14_9, cg_14_10, cg_14_11, cg_14_12, cg_14_13, cg_17_1, cg_19_1, cg_21_1, ca_3, ca_4, ca_5, ca_6, ca_9, ca_15, ca_16, ca_18, ca_20, ca_22, ca_13, ca_7, ca_8, cp_1_4, cp_1_6, cp_1_7, cp_14_0, cp_14_2, cp_14_4, cp_14_5, cp_14_6, cp_14_7, cp_14_8, cp_14_9, cp_14_10, cp_14_11, cp_14_12, cp_14_13, cp_17_1, cp_19_1, cp_21_1, cu_4, cu_15, cn_15, cm_15, cu_16, cn_16, cm_16, cu_18, cu_20, cu_22, cu_9, cl_15, cl_16, cl_18, cl_20, cl_22, Option.bind_some, kl_0, kl_1, kl_2, kl_3, kl_4, kl_5, kl_6, kl_7, kl_8, kl_10, kl_13, kl_14, kl_15, kl_16, kl_24, kl_25, kl_26, kl_31, kl_32, kl_36, kl_40, kl_62, kl_99, kl_100, kl_255, kl_400, kl_992, kl_1023, kl_1024, kl_1984, kl_9200, kl_4600, kl_48, kl_57, kl_97, kl_122, kl_32767, nI_add, pk_mul]
  have h2 : ∀ u, fP_clear (cM b u Y) (19, b, c) = some (cM b (sA u 24 c 0) Y) := fun u => by
    unfold fP_clear
    simp (disch := first | assumption | omega | decide | with_unfolding_all exact hW) only [↓km1, ↓cO_1b, ↓cO_2b, ↓cO_14b, ↓cO_17b, ↓cO_19b, ↓cO_21b, ↓cR_1_0b, ↓cR_1_1b, ↓cR_1_2b, ↓cR_1_3b, ↓cR_2_0b, ↓cR_2_1b, ↓cR_2_2b, ↓cR_2_3b, ↓cR_2_4b, ↓cR_2_5b, ↓cR_2_6b, ↓cR_2_7b, ↓cR_14_14b, ↓cR_14_15b, ↓cR_14_16b, ↓cR_14_17b, ↓cR_17_0b, ↓cR_19_0b, ↓cR_21_0b, ↓cA_11b, ↓cA_12b, ↓cg_1_4b, ↓cg_1_5b, ↓cg_1_6b, ↓cg_1_7b, ↓cg_14_0b, ↓cg_14_1b, ↓cg_14_2b, ↓cg_14_3b, ↓cg_14_4b, ↓cg_14_5b, ↓cg_14_6b, ↓cg_14_7b, ↓cg_14_8b, ↓cg_14_9b, ↓cg_14_10b, ↓cg_14_11b, ↓cg_14_12b, ↓cg_14_13b, ↓cg_17_1b, ↓cg_19_1b, ↓cg_21_1b, ↓ca_3b, ↓ca_4b, ↓ca_5b, ↓ca_6b, ↓ca_9b, ↓ca_15b, ↓ca_16b, ↓ca_18b, ↓ca_20b, ↓ca_22b, ↓ca_13b, ↓ca_7b, ↓ca_8b, ↓cp_1_4b, ↓cp_1_6b, ↓cp_1_7b, ↓cp_14_0b, ↓cp_14_2b, ↓cp_14_4b, ↓cp_14_5b, ↓cp_14_6b, ↓cp_14_7b, ↓cp_14_8b, ↓cp_14_9b, ↓cp_14_10b, ↓cp_14_11b, ↓cp_14_12b, ↓cp_14_13b, ↓cp_17_1b, ↓cp_19_1b, ↓cp_21_1b, ↓cu_4b, ↓cu_15b, ↓cn_15b, ↓cm_15b, ↓cu_16b, ↓cn_16b, ↓cm_16b, ↓cu_18b, ↓cu_20b, ↓cu_22b, ↓cu_9b, ↓cl_15b, ↓cl_16b, ↓cl_18b, ↓cl_20b, ↓cl_22b, ↓Option.bind_some, cO_1, cO_2, cO_14, cO_17, cO_19, cO_21, cR_1_0, cR_1_1, cR_1_2, cR_1_3, cR_2_0, cR_2_1, cR_2_2, cR_2_3, cR_2_4, cR_2_5, cR_2_6, cR_2_7, cR_14_14, cR_14_15, cR_14_16, cR_14_17, cR_17_0, cR_19_0, cR_21_0, cA_11, cA_12, cg_1_4, cg_1_5, cg_1_6, cg_1_7, cg_14_0, cg_14_1, cg_14_2, cg_14_3, cg_14_4, cg_14_5, cg_14_6, cg_14_7, cg_14_8, cg_14_9, cg_14_10, cg_14_11, cg_14_12, cg_14_13, cg_17_1, cg_19_1, cg_21_1, ca_3, ca_4, ca_5, ca_6, ca_9, ca_15, ca_16, ca_18, ca_20, ca_22, ca_13, ca_7, ca_8, cp_1_4, cp_1_6, cp_1_7, cp_14_0, cp_14_2, cp_14_4, cp_14_5, cp_14_6, cp_14_7, cp_14_8, cp_14_9, cp_14_10, cp_14_11, cp_14_12, cp_14_13, cp_17_1, cp_19_1, cp_21_1, cu_4, cu_15, cn_15, cm_15, cu_16, cn_16, cm_16, cu_18, cu_20, cu_22, cu_9, cl_15, cl_16, cl_18, cl_20, cl_22, Option.bind_some, kl_0, kl_1, kl_2, kl_3, kl_4, kl_5, kl_6, kl_7, kl_8, kl_10, kl_13, kl_14, kl_15, kl_16, kl_24, kl_25, kl_26, kl_31, kl_32, kl_36, kl_40, kl_62, kl_99, kl_100, kl_255, kl_400, kl_992, kl_1023, kl_1024, kl_1984, kl_9200, kl_4600, kl_48, kl_57, kl_97, kl_122, kl_32767, nI_add, pk_mul]
  have h3 := D_fill15 (Y := Y) (b := b) (c := c) hW hb hi
  have h4 := D_fill16 (Y := Y) (b := b) (c := c) hW hb hi
  unfold fC_loseMagazines
  simp (disch := first | assumption | omega | decide | with_unfolding_all exact hW) only [↓km1, ↓cO_1b, ↓cO_2b, ↓cO_14b, ↓cO_17b, ↓cO_19b, ↓cO_21b, ↓cR_1_0b, ↓cR_1_1b, ↓cR_1_2b, ↓cR_1_3b, ↓cR_2_0b, ↓cR_2_1b, ↓cR_2_2b, ↓cR_2_3b, ↓cR_2_4b, ↓cR_2_5b, ↓cR_2_6b, ↓cR_2_7b, ↓cR_14_14b, ↓cR_14_15b, ↓cR_14_16b, ↓cR_14_17b, ↓cR_17_0b, ↓cR_19_0b, ↓cR_21_0b, ↓cA_11b, ↓cA_12b, ↓cg_1_4b, ↓cg_1_5b, ↓cg_1_6b, ↓cg_1_7b, ↓cg_14_0b, ↓cg_14_1b, ↓cg_14_2b, ↓cg_14_3b, ↓cg_14_4b, ↓cg_14_5b, ↓cg_14_6b, ↓cg_14_7b, ↓cg_14_8b, ↓cg_14_9b, ↓cg_14_10b, ↓cg_14_11b, ↓cg_14_12b, ↓cg_14_13b, ↓cg_17_1b, ↓cg_19_1b, ↓cg_21_1b, ↓ca_3b, ↓ca_4b, ↓ca_5b, ↓ca_6b, ↓ca_9b, ↓ca_15b, ↓ca_16b, ↓ca_18b, ↓ca_20b, ↓ca_22b, ↓ca_13b, ↓ca_7b, ↓ca_8b, ↓cp_1_4b, ↓cp_1_6b, ↓cp_1_7b, ↓cp_14_0b, ↓cp_14_2b, ↓cp_14_4b, ↓cp_14_5b, ↓cp_14_6b, ↓cp_14_7b, ↓cp_14_8b, ↓cp_14_9b, ↓cp_14_10b, ↓cp_14_11b, ↓cp_14_12b, ↓cp_14_13b, ↓cp_17_1b, ↓cp_19_1b, ↓cp_21_1b, ↓cu_4b, ↓cu_15b, ↓cn_15b, ↓cm_15b, ↓cu_16b, ↓cn_16b, ↓cm_16b, ↓cu_18b, ↓cu_20b, ↓cu_22b, ↓cu_9b, ↓cl_15b, ↓cl_16b, ↓cl_18b, ↓cl_20b, ↓cl_22b, ↓Option.bind_some, cO_1, cO_2, cO_14, cO_17, cO_19, cO_21, cR_1_0, cR_1_1, cR_1_2, cR_1_3, cR_2_0, cR_2_1, cR_2_2, cR_2_3, cR_2_4, cR_2_5, cR_2_6, cR_2_7, cR_14_14, cR_14_15, cR_14_16, cR_14_17, cR_17_0, cR_19_0, cR_21_0, cA_11, cA_12, cg_1_4, cg_1_5, cg_1_6, cg_1_7, cg_14_0, cg_14_1, cg_14_2, cg_14_3, cg_14_4, cg_14_5, cg_14_6, cg_14_7, cg_14_8, cg_14_9, cg_14_10, cg_14_11, cg_14_12, cg_14_13, cg_17_1, cg_19_1, cg_21_1, ca_3, ca_4, ca_5, ca_6, ca_9, ca_15, ca_16, ca_18, ca_20, ca_22, ca_13, ca_7, ca_8, cp_1_4, cp_1_6, cp_1_7, cp_14_0, cp_14_2, cp_14_4, cp_14_5, cp_14_6, cp_14_7, cp_14_8, cp_14_9, cp_14_10, cp_14_11, cp_14_12, cp_14_13, cp_17_1, cp_19_1, cp_21_1, cu_4, cu_15, cn_15, cm_15, cu_16, cn_16, cm_16, cu_18, cu_20, cu_22, cu_9, cl_15, cl_16, cl_18, cl_20, cl_22, Option.bind_some, kl_0, kl_1, kl_2, kl_3, kl_4, kl_5, kl_6, kl_7, kl_8, kl_10, kl_13, kl_14, kl_15, kl_16, kl_24, kl_25, kl_26, kl_31, kl_32, kl_36, kl_40, kl_62, kl_99, kl_100, kl_255, kl_400, kl_992, kl_1023, kl_1024, kl_1984, kl_9200, kl_4600, kl_48, kl_57, kl_97, kl_122, kl_32767, nI_add, pk_mul, h1, h2, h3, h4]
  unfold sLose
  simp only [sFl, Nat.add_zero, Nat.zero_add, Nat.reduceAdd]
  congr 2
  rw [sA_comm (q := 16) (q' := 15) (by decide), sA_comm (q := 16) (q' := 15) (by decide), sA_comm (q := 16) (q' := 15) (by decide)]
  rw [sA_comm (q := 16) (q' := 15) (by decide), sA_comm (q := 16) (q' := 15) (by decide), sA_comm (q := 16) (q' := 15) (by decide)]
theorem D_unmakeAll {b : Nat} {t : xS} {Y : xMem} {c : Nat} (hW : XW Y) (hb : b < 3) (hI : IQ t) (hc : c < t.1 19 0) : fD_unmakeAll (cM b t Y) (1, b, 0) (some (14, b, c)) = some (cM b (sUA t c) Y) := by
  have hn := hI.1.1.n
  have hi : c < 4 := by omega
  have hfe := hI.1.fe c hc
  have hk := hI.kind hc
  -- what is still to be unmade
  have todo : ∀ u (R : Nat × Nat × Nat → Prop) (P0 : Nat × Nat × Nat), (∀ P, R P → P.2.1 = c → UM u c (ref t P)) → ∀ P, R P → P ≠ P0 → P.2.1 = c → UM (sEmp u (ref t P0)) c (ref t P) := fun u R P0 h P hP hne hPc =>
    UM_emp (h P hP hPc) (fun h24 e => hne (hI.J h24 e))
  have hstep : ∀ u m, UM u c m → u.1 0 = t.1 0 → fD_unmake (cM b u Y) (1, b, 0) (some (14, b, c)) (en 24 m1 m) = some (cM b (sEmp u m) Y) := fun u m h1 h2 => D_unmake hW hb hi (by rw [h2]; exact hk) h1
  have key2 : ∀ e i n u, i + e = 24 → e < n → (∀ q, q ≠ 17 → q ≠ 12 → q ≠ 20 → q ≠ 18 → u.1 q = t.1 q) → (∀ P : Nat × Nat × Nat, (P.1 = 2 ∨ P.1 = 3) ∧ i ≤ P.2.2 → P.2.1 = c → UM u c (ref t P)) → fD_unmakeAll_37 n (cM b u Y) (some (1, b, 0)) (some (14, b, c)) (nI i) = some (cM b (sLose (sP (fun k => ref t (2, c, k)) (fun k => ref t (3, c, k)) u e i) c) Y) := by
    intro e
    induction e with
    | zero =>
      intro i n u hie hn hu hU
      obtain ⟨n, rfl⟩ : ∃ m, n = m + 1 := ⟨n - 1, by omega⟩
      have h5 : 24 ≤ i := by omega
      simp (disch := first | assumption | omega | decide | with_unfolding_all exact hW) only [fD_unmakeAll_37, kl_0, kl_1, kl_2, kl_3, kl_4, kl_5, kl_6, kl_7, kl_8, kl_10, kl_13, kl_14, kl_15, kl_16, kl_24, kl_25, kl_26, kl_31, kl_32, kl_36, kl_40, kl_62, kl_99, kl_100, kl_255, kl_400, kl_992, kl_1023, kl_1024, kl_1984, kl_9200, kl_4600, kl_48, kl_57, kl_97, kl_122, kl_32767, nI_add, pk_mul, nI_leI, h5, if_true]
      simp (disch := first | assumption | omega | decide | with_unfolding_all exact hW) only [↓km1, ↓cO_1b, ↓cO_2b, ↓cO_14b, ↓cO_17b, ↓cO_19b, ↓cO_21b, ↓cR_1_0b, ↓cR_1_1b, ↓cR_1_2b, ↓cR_1_3b, ↓cR_2_0b, ↓cR_2_1b, ↓cR_2_2b, ↓cR_2_3b, ↓cR_2_4b, ↓cR_2_5b, ↓cR_2_6b, ↓cR_2_7b, ↓cR_14_14b, ↓cR_14_15b, ↓cR_14_16b, ↓cR_14_17b, ↓cR_17_0b, ↓cR_19_0b, ↓cR_21_0b, ↓cA_11b, ↓cA_12b, ↓cg_1_4b, ↓cg_1_5b, ↓cg_1_6b, ↓cg_1_7b, ↓cg_14_0b, ↓cg_14_1b, ↓cg_14_2b, ↓cg_14_3b, ↓cg_14_4b, ↓cg_14_5b, ↓cg_14_6b, ↓cg_14_7b, ↓cg_14_8b, ↓cg_14_9b, ↓cg_14_10b, ↓cg_14_11b, ↓cg_14_12b, ↓cg_14_13b, ↓cg_17_1b, ↓cg_19_1b, ↓cg_21_1b, ↓ca_3b, ↓ca_4b, ↓ca_5b, ↓ca_6b, ↓ca_9b, ↓ca_15b, ↓ca_16b, ↓ca_18b, ↓ca_20b, ↓ca_22b, ↓ca_13b, ↓ca_7b, ↓ca_8b, ↓cp_1_4b, ↓cp_1_6b, ↓cp_1_7b, ↓cp_14_0b, ↓cp_14_2b, ↓cp_14_4b, ↓cp_14_5b, ↓cp_14_6b, ↓cp_14_7b, ↓cp_14_8b, ↓cp_14_9b, ↓cp_14_10b, ↓cp_14_11b, ↓cp_14_12b, ↓cp_14_13b, ↓cp_17_1b, ↓cp_19_1b, ↓cp_21_1b, ↓cu_4b, ↓cu_15b, ↓cn_15b, ↓cm_15b, ↓cu_16b, ↓cn_16b, ↓cm_16b, ↓cu_18b, ↓cu_20b, ↓cu_22b, ↓cu_9b, ↓cl_15b, ↓cl_16b, ↓cl_18b, ↓cl_20b, ↓cl_22b, ↓Option.bind_some, cO_1, cO_2, cO_14, cO_17, cO_19, cO_21, cR_1_0, cR_1_1, cR_1_2, cR_1_3, cR_2_0, cR_2_1, cR_2_2, cR_2_3, cR_2_4, cR_2_5, cR_2_6, cR_2_7, cR_14_14, cR_14_15, cR_14_16, cR_14_17, cR_17_0, cR_19_0, cR_21_0, cA_11, cA_12, cg_1_4, cg_1_5, cg_1_6, cg_1_7, cg_14_0, cg_14_1, cg_14_2, cg_14_3, cg_14_4, cg_14_5, cg_14_6, cg_14_7, cg_14_8, cg_14_9, cg_14_10, cg_14_11, cg_14_12, cg_14_13, cg_17_1, cg_19_1, cg_21_1, ca_3, ca_4, ca_5, ca_6, ca_9, ca_15, ca_16, ca_18, ca_20, ca_22, ca_13, ca_7, ca_8, cp_1_4, cp_1_6, cp_1_7, cp_14_0, cp_14_2, cp_14_4, cp_14_5, cp_14_6, cp_14_7, cp_14_8, cp_14_9, cp_14_10, cp_14_11, cp_14_12, cp_14_13, cp_17_1, cp_19_1, cp_21_1, cu_4, cu_15, cn_15, cm_15, cu_16, cn_16, cm_16, cu_18, cu_20, cu_22, cu_9, cl_15, cl_16, cl_18, cl_20, cl_22, Option.bind_some, kl_0, kl_1, kl_2, kl_3, kl_4, kl_5, kl_6, kl_7, kl_8, kl_10, kl_13, kl_14, kl_15, kl_16, kl_24, kl_25, kl_26, kl_31, kl_32, kl_36, kl_40, kl_62, kl_99, kl_100, kl_255, kl_400, kl_992, kl_1023, kl_1024, kl_1984, kl_9200, kl_4600, kl_48, kl_57, kl_97, kl_122, kl_32767, nI_add, pk_mul, D_lose]
      rfl
    | succ e ih =>
      intro i n u hie hn hu hU
      obtain ⟨n, rfl⟩ : ∃ m, n = m + 1 := ⟨n - 1, by omega⟩
      have h5 : ¬ 24 ≤ i := by omega
      have hUF := hU (2, c, i) ⟨Or.inl rfl, Nat.le_refl _⟩ rfl
      have hg1 : fP_get (cM b u Y) (17, b, c) (nI i) = some (en 24 m1 (ref t (2, c, i)), cM b u Y) := by
        have el := congrFun (hu 22 (by decide) (by decide) (by decide) (by decide)) c
        rw [D_getF (b := b) (t := u) (Y := Y) (c := c) (k := i) hW hb hi (by rw [el]; omega) (by omega), el, hu 23 (by decide) (by decide) (by decide) (by decide)]
        by_cases h6 : i < t.1 22 c
        · rw [if_pos h6, ref_2 hc h6, en_lt]
          exact (hfe.2.2 i).1 h6
        · rw [if_neg h6, en_ge]
          intro h7
          obtain ⟨-, h8⟩ := ref_cases h7
          rcases h8 with ⟨h9, -⟩ | ⟨h9, -⟩ | ⟨-, h9, -⟩ | ⟨h9, -⟩
          · cases h9
          · cases h9
          · exact h6 h9
          · cases h9
      have hs1 := hstep u _ hUF (hu 0 (by decide) (by decide) (by decide) (by decide))
      have hU1 := todo u _ (2, c, i) hU
      have hu1 : ∀ q, q ≠ 17 → q ≠ 12 → q ≠ 20 → q ≠ 18 → (sEmp u (ref t (2, c, i))).1 q = t.1 q := fun q a1 a2 a3 a4 => by rw [sEmp_1 a1 a2 a3 a4, hu q a1 a2 a3 a4]
      generalize hu1e : sEmp u (ref t (2, c, i)) = u1 at hs1 hU1 hu1
      have hUE := hU1 (3, c, i) ⟨Or.inr rfl, Nat.le_refl _⟩ (by simp) rfl
      have hg2 : fP_get (cM b u1 Y) (19, b, c) (nI i) = some (en 24 m1 (ref t (3, c, i)), cM b u1 Y) := by
        have el := congrFun (hu1 24 (by decide) (by decide) (by decide) (by decide)) c
        rw [D_getE (b := b) (t := u1) (Y := Y) (c := c) (k := i) hW hb hi (by rw [el]; omega) (by omega), el, hu1 25 (by decide) (by decide) (by decide) (by decide)]
        by_cases h6 : i < t.1 24 c
        · rw [if_pos h6, ref_3 hc h6, en_lt]
          exact (hfe.2.2 i).2 h6
        · rw [if_neg h6, en_ge]
          intro h7
          obtain ⟨-, h8⟩ := ref_cases h7
          rcases h8 with ⟨h9, -⟩ | ⟨h9, -⟩ | ⟨h9, -⟩ | ⟨-, h9, -⟩
          · cases h9
          · cases h9
          · cases h9
          · exact h6 h9
      have hs2 := hstep u1 _ hUE (hu1 0 (by decide) (by decide) (by decide) (by decide))
      have hU2 : ∀ P : Nat × Nat × Nat, (P.1 = 2 ∨ P.1 = 3) ∧ i + 1 ≤ P.2.2 → P.2.1 = c → UM (sEmp u1 (ref t (3, c, i))) c (ref t P) := fun P hP hPc =>
        UM_emp (hU1 P ⟨hP.1, by omega⟩ (fun e => by rw [e] at hP; have := hP.2; simp only at this; omega) hPc) (fun h24 e => by
          have := hI.J h24 e
          rw [this] at hP; have := hP.2; simp only at this; omega)
      simp (disch := first | assumption | omega | decide | with_unfolding_all exact hW) only [fD_unmakeAll_37, kl_0, kl_1, kl_2, kl_3, kl_4, kl_5, kl_6, kl_7, kl_8, kl_10, kl_13, kl_14, kl_15, kl_16, kl_24, kl_25, kl_26, kl_31, kl_32, kl_36, kl_40, kl_62, kl_99, kl_100, kl_255, kl_400, kl_992, kl_1023, kl_1024, kl_1984, kl_9200, kl_4600, kl_48, kl_57, kl_97, kl_122, kl_32767, nI_add, pk_mul, nI_leI, h5, if_false]
      simp (disch := first | assumption | omega | decide | with_unfolding_all exact hW) only [↓km1, ↓cO_1b, ↓cO_2b, ↓cO_14b, ↓cO_17b, ↓cO_19b, ↓cO_21b, ↓cR_1_0b, ↓cR_1_1b, ↓cR_1_2b, ↓cR_1_3b, ↓cR_2_0b, ↓cR_2_1b, ↓cR_2_2b, ↓cR_2_3b, ↓cR_2_4b, ↓cR_2_5b, ↓cR_2_6b, ↓cR_2_7b, ↓cR_14_14b, ↓cR_14_15b, ↓cR_14_16b, ↓cR_14_17b, ↓cR_17_0b, ↓cR_19_0b, ↓cR_21_0b, ↓cA_11b, ↓cA_12b, ↓cg_1_4b, ↓cg_1_5b, ↓cg_1_6b, ↓cg_1_7b, ↓cg_14_0b, ↓cg_14_1b, ↓cg_14_2b, ↓cg_14_3b, ↓cg_14_4b, ↓cg_14_5b, ↓cg_14_6b, ↓cg_14_7b, ↓cg_14_8b, ↓cg_14_9b, ↓cg_14_10b, ↓cg_14_11b, ↓cg_14_12b, ↓cg_14_13b, ↓cg_17_1b, ↓cg_19_1b, ↓cg_21_1b, ↓ca_3b, ↓ca_4b, ↓ca_5b, ↓ca_6b, ↓ca_9b, ↓ca_15b, ↓ca_16b, ↓ca_18b, ↓ca_20b, ↓ca_22b, ↓ca_13b, ↓ca_7b, ↓ca_8b, ↓cp_1_4b, ↓cp_1_6b, ↓cp_1_7b, ↓cp_14_0b, ↓cp_14_2b, ↓cp_14_4b, ↓cp_14_5b, ↓cp_14_6b, ↓cp_14_7b, ↓cp_14_8b, ↓cp_14_9b, ↓cp_14_10b, ↓cp_14_11b, ↓cp_14_12b, ↓cp_14_13b, ↓cp_17_1b, ↓cp_19_1b, ↓cp_21_1b, ↓cu_4b, ↓cu_15b, ↓cn_15b, ↓cm_15b, ↓cu_16b, ↓cn_16b, ↓cm_16b, ↓cu_18b, ↓cu_20b, ↓cu_22b, ↓cu_9b, ↓cl_15b, ↓cl_16b, ↓cl_18b, ↓cl_20b, ↓cl_22b, ↓Option.bind_some, cO_1, cO_2, cO_14, cO_17, cO_19, cO_21, cR_1_0, cR_1_1, cR_1_2, cR_1_3, cR_2_0, cR_2_1, cR_2_2, cR_2_3, cR_2_4, cR_2_5, cR_2_6, cR_2_7, cR_14_14, cR_14_15, cR_14_16, cR_14_17, cR_17_0, cR_19_0, cR_21_0, cA_11, cA_12, cg_1_4, cg_1_5, cg_1_6, cg_1_7, cg_14_0, cg_14_1, cg_14_2, cg_14_3, cg_14_4, cg_14_5, cg_14_6, cg_14_7, cg_14_8, cg_14_9, cg_14_10, cg_14_11, cg_14_12, cg_14_13, cg_17_1, cg_19_1, cg_21_1, ca_3, ca_4, ca_5, ca_6, ca_9, ca_15, ca_16, ca_18, ca_20, ca_22, ca_13, ca_7, ca_8, cp_1_4, cp_1_6, cp_1_7, cp_14_0, cp_14_2, cp_14_4, cp_14_5, cp_14_6, cp_14_7, cp_14_8, cp_14_9, cp_14_10, cp_14_11, cp_14_12, cp_14_13, cp_17_1, cp_19_1, cp_21_1, cu_4, cu_15, cn_15, cm_15, cu_16, cn_16, cm_16, cu_18, cu_20, cu_22, cu_9, cl_15, cl_16, cl_18, cl_20, cl_22, Option.bind_some, kl_0, kl_1, kl_2, kl_3, kl_4, kl_5, kl_6, kl_7, kl_8, kl_10, kl_13, kl_14, kl_15, kl_16, kl_24, kl_25, kl_26, kl_31, kl_32, kl_36, kl_40, kl_62, kl_99, kl_100, kl_255, kl_400, kl_992, kl_1023, kl_1024, kl_1984, kl_9200, kl_4600, kl_48, kl_57, kl_97, kl_122, kl_32767, nI_add, pk_mul, hg1, hs1, hg2, hs2]
      rw [ih (i + 1) n _ (by omega) (by omega) (fun q a1 a2 a3 a4 => by rw [sEmp_1 a1 a2 a3 a4, hu1 q a1 a2 a3 a4]) hU2]
      have es : sP (fun k => ref t (2, c, k)) (fun k => ref t (3, c, k)) u (e + 1) i = sP (fun k => ref t (2, c, k)) (fun k => ref t (3, c, k)) (sEmp (sEmp u (ref t (2, c, i))) (ref t (3, c, i))) e (i + 1) := rfl
      rw [es, hu1e]
  have key1 : ∀ e i n u, i + e = 4 → e < n → (∀ q, q ≠ 17 → q ≠ 12 → q ≠ 20 → q ≠ 18 → u.1 q = t.1 q) → (∀ P : Nat × Nat × Nat, ((P.1 = 2 ∨ P.1 = 3) ∨ i ≤ P.2.2) → P.2.1 = c → UM u c (ref t P)) → fD_unmakeAll_2 n (cM b u Y) (some (1, b, 0)) (some (14, b, c)) (nI i) = some (cM b (sLose (sP (fun k => ref t (2, c, k)) (fun k => ref t (3, c, k)) (sP (fun p => ref t (0, c, p)) (fun p => ref t (1, c, p)) u e i) 24 0) c) Y) := by
    intro e
    induction e with
    | zero =>
      intro i n u hie hn hu hU
      obtain ⟨n, rfl⟩ : ∃ m, n = m + 1 := ⟨n - 1, by omega⟩
      have h5 : 4 ≤ i := by omega
      simp (disch := first | assumption | omega | decide | with_unfolding_all exact hW) only [fD_unmakeAll_2, kl_0, kl_1, kl_2, kl_3, kl_4, kl_5, kl_6, kl_7, kl_8, kl_10, kl_13, kl_14, kl_15, kl_16, kl_24, kl_25, kl_26, kl_31, kl_32, kl_36, kl_40, kl_62, kl_99, kl_100, kl_255, kl_400, kl_992, kl_1023, kl_1024, kl_1984, kl_9200, kl_4600, kl_48, kl_57, kl_97, kl_122, kl_32767, nI_add, pk_mul, nI_leI, h5, if_true]
      exact key2 24 0 xF u (by omega) (by unfold xF; omega) hu (fun P hP hPc => hU P (Or.inl hP.1) hPc)
    | succ e ih =>
      intro i n u hie hn hu hU
      obtain ⟨n, rfl⟩ : ∃ m, n = m + 1 := ⟨n - 1, by omega⟩
      have h5 : ¬ 4 ≤ i := by omega
      have hp : i < 4 := by omega
      have r0 := ref_0 hc hp
      have r1 := ref_1 hc hp
      have hU0 := hU (0, c, i) (Or.inr (Nat.le_refl _)) rfl
      have hs1 := hstep u _ hU0 (hu 0 (by decide) (by decide) (by decide) (by decide))
      have hU1 := todo u _ (0, c, i) hU
      have hu1 : ∀ q, q ≠ 17 → q ≠ 12 → q ≠ 20 → q ≠ 18 → (sEmp u (ref t (0, c, i))).1 q = t.1 q := fun q a1 a2 a3 a4 => by rw [sEmp_1 a1 a2 a3 a4, hu q a1 a2 a3 a4]
      generalize hu1e : sEmp u (ref t (0, c, i)) = u1 at hs1 hU1 hu1
      have hUE := hU1 (1, c, i) (Or.inr (Nat.le_refl _)) (by simp) rfl
      have hs2 := hstep u1 _ hUE (hu1 0 (by decide) (by decide) (by decide) (by decide))
      have e15 := congrFun (hu 15 (by decide) (by decide) (by decide) (by decide)) (4 * c + i)
      have e16 := congrFun (hu1 16 (by decide) (by decide) (by decide) (by decide)) (4 * c + i)
      have hU2 : ∀ P : Nat × Nat × Nat, ((P.1 = 2 ∨ P.1 = 3) ∨ i + 1 ≤ P.2.2) → P.2.1 = c → UM (sEmp u1 (ref t (1, c, i))) c (ref t P) := fun P hP hPc =>
        UM_emp (hU1 P (by omega) (fun e => by rw [e] at hP; simp at hP; omega) hPc) (fun h24 e => by
          have := hI.J h24 e
          rw [this] at hP; simp at hP; omega)
      simp (disch := first | assumption | omega | decide | with_unfolding_all exact hW) only [fD_unmakeAll_2, kl_0, kl_1, kl_2, kl_3, kl_4, kl_5, kl_6, kl_7, kl_8, kl_10, kl_13, kl_14, kl_15, kl_16, kl_24, kl_25, kl_26, kl_31, kl_32, kl_36, kl_40, kl_62, kl_99, kl_100, kl_255, kl_400, kl_992, kl_1023, kl_1024, kl_1984, kl_9200, kl_4600, kl_48, kl_57, kl_97, kl_122, kl_32767, nI_add, pk_mul, nI_leI, h5, if_false]
      rw [r0] at hs1
      rw [r1] at hs2
      simp (disch := first | assumption | omega | decide | with_unfolding_all exact hW) only [↓km1, ↓cO_1b, ↓cO_2b, ↓cO_14b, ↓cO_17b, ↓cO_19b, ↓cO_21b, ↓cR_1_0b, ↓cR_1_1b, ↓cR_1_2b, ↓cR_1_3b, ↓cR_2_0b, ↓cR_2_1b, ↓cR_2_2b, ↓cR_2_3b, ↓cR_2_4b, ↓cR_2_5b, ↓cR_2_6b, ↓cR_2_7b, ↓cR_14_14b, ↓cR_14_15b, ↓cR_14_16b, ↓cR_14_17b, ↓cR_17_0b, ↓cR_19_0b, ↓cR_21_0b, ↓cA_11b, ↓cA_12b, ↓cg_1_4b, ↓cg_1_5b, ↓cg_1_6b, ↓cg_1_7b, ↓cg_14_0b, ↓cg_14_1b, ↓cg_14_2b, ↓cg_14_3b, ↓cg_14_4b, ↓cg_14_5b, ↓cg_14_6b, ↓cg_14_7b, ↓cg_14_8b, ↓cg_14_9b, ↓cg_14_10b, ↓cg_14_11b, ↓cg_14_12b, ↓cg_14_13b, ↓cg_17_1b, ↓cg_19_1b, ↓cg_21_1b, ↓ca_3b, ↓ca_4b, ↓ca_5b, ↓ca_6b, ↓ca_9b, ↓ca_15b, ↓ca_16b, ↓ca_18b, ↓ca_20b, ↓ca_22b, ↓ca_13b, ↓ca_7b, ↓ca_8b, ↓cp_1_4b, ↓cp_1_6b, ↓cp_1_7b, ↓cp_14_0b, ↓cp_14_2b, ↓cp_14_4b, ↓cp_14_5b, ↓cp_14_6b, ↓cp_14_7b, ↓cp_14_8b, ↓cp_14_9b, ↓cp_14_10b, ↓cp_14_11b, ↓cp_14_12b, ↓cp_14_13b, ↓cp_17_1b, ↓cp_19_1b, ↓cp_21_1b, ↓cu_4b, ↓cu_15b, ↓cn_15b, ↓cm_15b, ↓cu_16b, ↓cn_16b, ↓cm_16b, ↓cu_18b, ↓cu_20b, ↓cu_22b, ↓cu_9b, ↓cl_15b, ↓cl_16b, ↓cl_18b, ↓cl_20b, ↓cl_22b, ↓Option.bind_some, cO_1, cO_2, cO_14, cO_17, cO_19, cO_21, cR_1_0, cR_1_1, cR_1_2, cR_1_3, cR_2_0, cR_2_1, cR_2_2, cR_2_3, cR_2_4, cR_2_5, cR_2_6, cR_2_7, cR_14_14, cR_14_15, cR_14_16, cR_14_17, cR_17_0, cR_19_0, cR_21_0, cA_11, cA_12, cg_1_4, cg_1_5, cg_1_6, cg_1_7, cg_14_0, cg_14_1, cg_14_2, cg_14_3, cg_14_4, cg_14_5, cg_14_6, cg_14_7, cg_14_8, cg_14_9, cg_14_10, cg_14_11, cg_14_12, cg_14_13, cg_17_1, cg_19_1, cg_21_1, ca_3, ca_4, ca_5, ca_6, ca_9, ca_15, ca_16, ca_18, ca_20, ca_22, ca_13, ca_7, ca_8, cp_1_4, cp_1_6, cp_1_7, cp_14_0, cp_14_2, cp_14_4, cp_14_5, cp_14_6, cp_14_7, cp_14_8, cp_14_9, cp_14_10, cp_14_11, cp_14_12, cp_14_13, cp_17_1, cp_19_1, cp_21_1, cu_4, cu_15, cn_15, cm_15, cu_16, cn_16, cm_16, cu_18, cu_20, cu_22, cu_9, cl_15, cl_16, cl_18, cl_20, cl_22, Option.bind_some, kl_0, kl_1, kl_2, kl_3, kl_4, kl_5, kl_6, kl_7, kl_8, kl_10, kl_13, kl_14, kl_15, kl_16, kl_24, kl_25, kl_26, kl_31, kl_32, kl_36, kl_40, kl_62, kl_99, kl_100, kl_255, kl_400, kl_992, kl_1023, kl_1024, kl_1984, kl_9200, kl_4600, kl_48, kl_57, kl_97, kl_122, kl_32767, nI_add, pk_mul, e15, hs1, e16, hs2]
      rw [r1] at hU2
      rw [ih (i + 1) n _ (by omega) (by omega) (fun q a1 a2 a3 a4 => by rw [sEmp_1 a1 a2 a3 a4, hu1 q a1 a2 a3 a4]) hU2]
      have es : sP (fun p => ref t (0, c, p)) (fun p => ref t (1, c, p)) u (e + 1) i = sP (fun p => ref t (0, c, p)) (fun p => ref t (1, c, p)) (sEmp (sEmp u (ref t (0, c, i))) (ref t (1, c, i))) e (i + 1) := rfl
      rw [es, hu1e, r1]
  unfold fD_unmakeAll
  rw [kl_0, key1 4 0 xF t (by omega) (by unfold xF; omega) (fun _ _ _ _ _ => rfl) (fun P _ hPc => by
    have := INV.um hI (P := P)
    rw [hPc] at this; exact this), sUA_eq hI hc]
  rfl
