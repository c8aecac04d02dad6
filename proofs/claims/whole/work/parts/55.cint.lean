/-! the class's intervals -/
theorem IQ.kind {s : xS} (h : IQ s) {c : Nat} (hc : c < s.1 19 0) : s.1 0 c < 2 ^ 31 := by have := h.1.1.c hc; omega
theorem D_unFirstF {b : Nat} {t : xS} {Y : xMem} {c N : Nat} (hW : XW Y) (hb : b < 3) (hI : IQ t) (hc : c < t.1 19 0) (hN : N ≤ t.1 22 c) : fD_unmakeFirst (cM b t Y) (1, b, 0) (some (14, b, c)) (some (17, b, c)) (nI N) = some (cM b (sUFF t c N) Y) := by
  have hn := hI.1.1.n
  have hi : c < 4 := by omega
  have hfe := hI.1.fe c hc
  have hk := hI.kind hc
  have hrr : ∀ j, j < t.1 22 c → ref t (2, c, j) = t.1 23 (24 * c + j) := fun j hj => ref_2 hc hj
  have hU0 : ∀ j, j < N → UM t c (t.1 23 (24 * c + j)) := fun j hj => by
    have := INV.um hI (P := (2, c, j))
    rw [hrr j (by omega)] at this; exact this
  have hlt : ∀ j, j < t.1 22 c → t.1 23 (24 * c + j) < 24 := fun j hj => by have := hfe.2.2 j; omega
  have hne : ∀ j k, j < t.1 22 c → k < t.1 22 c → j ≠ k → t.1 23 (24 * c + j) ≠ t.1 23 (24 * c + k) := fun j k hj hk hjk e => by
    have := hI.J (P := (2, c, j)) (Q := (2, c, k)) (by rw [hrr j hj]; exact hlt j hj) (by rw [hrr j hj, hrr k hk]; exact e)
    simp only [Prod.mk.injEq, true_and] at this
    exact hjk this
  have key : ∀ e i n u, i + e = N → e < n → (∀ q, q ≠ 17 → q ≠ 12 → q ≠ 20 → q ≠ 18 → u.1 q = t.1 q) → (∀ j, i ≤ j → j < N → UM u c (t.1 23 (24 * c + j))) → fD_unmakeFirst_3 n (cM b u Y) (some (1, b, 0)) (some (14, b, c)) (some (17, b, c)) (nI N) (nI i) = some (cM b (sA (sShF (sUnF u c e i) c N (t.1 22 c - N) N) 22 c (t.1 22 c - N)) Y) := by
    intro e
    induction e with
    | zero =>
      intro i n u hie hn hu hU
      obtain ⟨n, rfl⟩ : ∃ m, n = m + 1 := ⟨n - 1, by omega⟩
      have h5 : N ≤ i := by omega
      have el := congrFun (hu 22 (by decide) (by decide) (by decide) (by decide)) c
      have hd := D_dropF (b := b) (t := u) (Y := Y) (c := c) (N := N) hW hb hi (by rw [el]; omega) (by rw [el]; exact hN)
      rw [el] at hd
      simp (disch := first | assumption | omega | decide | with_unfolding_all exact hW) only [fD_unmakeFirst_3, fD_unmakeFirst_35, nI_leI, h5, if_true, ↓km1, ↓cO_1b, ↓cO_2b, ↓cO_14b, ↓cO_17b, ↓cO_19b, ↓cO_21b, ↓cR_1_0b, ↓cR_1_1b, ↓cR_1_2b, ↓cR_1_3b, ↓cR_2_0b, ↓cR_2_1b, ↓cR_2_2b, ↓cR_2_3b, ↓cR_2_4b, ↓cR_2_5b, ↓cR_2_6b, ↓cR_2_7b, ↓cR_14_14b, ↓cR_14_15b, ↓cR_14_16b, ↓cR_14_17b, ↓cR_17_0b, ↓cR_19_0b, ↓cR_21_0b, ↓cA_11b, ↓cA_12b, ↓cg_1_4b, ↓cg_1_5b, ↓cg_1_6b, ↓cg_1_7b, ↓cg_14_0b, ↓cg_14_1b, ↓cg_14_2b, ↓cg_14_3b, ↓cg_14_4b, ↓cg_14_5b, ↓cg_14_6b, ↓cg_14_7b, ↓cg_14_8b, ↓cg_14_9b, ↓cg_14_10b, ↓cg_14_11b, ↓cg_14_12b, ↓cg_14_13b, ↓cg_17_1b, ↓cg_19_1b, ↓cg_21_1b, ↓ca_3b, ↓ca_4b, ↓ca_5b, ↓ca_6b, ↓ca_9b, ↓ca_15b, ↓ca_16b, ↓ca_18b, ↓ca_20b, ↓ca_22b, ↓ca_13b, ↓ca_7b, ↓ca_8b, ↓cp_1_4b, ↓cp_1_6b, ↓cp_1_7b, ↓cp_14_0b, ↓cp_14_2b, ↓cp_14_4b, ↓cp_14_5b, ↓cp_14_6b, ↓cp_14_7b, ↓cp_14_8b, ↓cp_14_9b, ↓cp_14_10b, ↓cp_14_11b, ↓cp_14_12b, ↓cp_14_13b, ↓cp_17_1b, ↓cp_19_1b, ↓cp_21_1b, ↓cu_4b, ↓cu_15b, ↓cn_15b, ↓cm_15b, ↓cu_16b, ↓cn_16b, ↓cm_16b, ↓cu_18b, ↓cu_20b, ↓cu_22b, ↓cu_9b, ↓cl_15b, ↓cl_16b, ↓cl_18b, ↓cl_20b, ↓cl_22b, ↓Option.bind_some, cO_1, cO_2, cO_14, cO_17, cO_19, cO_21, cR_1_0, cR_1_1, cR_1_2, cR_1_3, cR_2_0, cR_2_1, cR_2_2, cR_2_3, cR_2_4, cR_2_5, cR_2_6, cR_2_7, cR_14_14, cR_14_15, cR_14_16, cR_14_17, cR_17_0, cR_19_0, cR_21_0, cA_11, cA_12, cg_1_4, cg_1_5, cg_1_6, cg_1_7, cg_14_0, cg_14_1, cg_14_2, cg_14_3, cg_14_4, cg_14_5, cg_14_6, cg_14_7, cg_14_8, cg_14_9, cg_14_10, cg_14_11, cg_14_12, cg_14_13, cg_17_1, cg_19_1, cg_21_1, ca_3, ca_4, ca_5, ca_6, ca_9, ca_15, ca_16, ca_18, ca_20, ca_22, ca_13, ca_7, ca_8, cp_1_4, cp_1_6, cp_1_7, cp_14_0, cp_14_2, cp_14_4, cp_14_5, cp_14_6, cp_14_7, cp_14_8, cp_14_9, cp_14_10, cp_14_11, cp_14_12, cp_14_13, cp_17_1, cp_19_1, cp_21_1, cu_4, cu_15, cn_15, cm_15, cu_16, cn_16, cm_16, cu_18, cu_20, cu_22, cu_9, cl_15, cl_16, cl_18, cl_20, cl_22, Option.bind_some, kl_0, kl_1, kl_2, kl_3, kl_4, kl_5, kl_6, kl_7, kl_8, kl_10, kl_13, kl_14, kl_15, kl_16, kl_24, kl_25, kl_26, kl_31, kl_32, kl_36, kl_40, kl_62, kl_99, kl_100, kl_255, kl_400, kl_992, kl_1023, kl_1024, kl_1984, kl_9200, kl_4600, kl_48, kl_57, kl_97, kl_122, kl_32767, nI_add, pk_mul, hd]
      have es : sUnF u c 0 i = u := rfl
      rw [es]
    | succ e ih =>
      intro i n u hie hn hu hU
      obtain ⟨n, rfl⟩ : ∃ m, n = m + 1 := ⟨n - 1, by omega⟩
      have h5 : ¬ N ≤ i := by omega
      have el := congrFun (hu 22 (by decide) (by decide) (by decide) (by decide)) c
      have h6 : ¬ t.1 22 c ≤ i := by omega
      have hil : i < t.1 22 c := by omega
      have hg := D_getF (b := b) (t := u) (Y := Y) (c := c) (k := i) hW hb hi (by rw [el]; omega) (by omega)
      rw [el, if_pos hil, hu 23 (by decide) (by decide) (by decide) (by decide), ← en_lt (z := m1) (hlt i hil)] at hg
      have hD := D_unmake (b := b) (t := u) (Y := Y) (c := c) (m := t.1 23 (24 * c + i)) hW hb hi (by rw [hu 0 (by decide) (by decide) (by decide) (by decide)]; exact hk) (hU i (Nat.le_refl _) (by omega))
      simp (disch := first | assumption | omega | decide | with_unfolding_all exact hW) only [fD_unmakeFirst_3, nI_leI, h5, h6, if_false, ↓km1, ↓cO_1b, ↓cO_2b, ↓cO_14b, ↓cO_17b, ↓cO_19b, ↓cO_21b, ↓cR_1_0b, ↓cR_1_1b, ↓cR_1_2b, ↓cR_1_3b, ↓cR_2_0b, ↓cR_2_1b, ↓cR_2_2b, ↓cR_2_3b, ↓cR_2_4b, ↓cR_2_5b, ↓cR_2_6b, ↓cR_2_7b, ↓cR_14_14b, ↓cR_14_15b, ↓cR_14_16b, ↓cR_14_17b, ↓cR_17_0b, ↓cR_19_0b, ↓cR_21_0b, ↓cA_11b, ↓cA_12b, ↓cg_1_4b, ↓cg_1_5b, ↓cg_1_6b, ↓cg_1_7b, ↓cg_14_0b, ↓cg_14_1b, ↓cg_14_2b, ↓cg_14_3b, ↓cg_14_4b, ↓cg_14_5b, ↓cg_14_6b, ↓cg_14_7b, ↓cg_14_8b, ↓cg_14_9b, ↓cg_14_10b, ↓cg_14_11b, ↓cg_14_12b, ↓cg_14_13b, ↓cg_17_1b, ↓cg_19_1b, ↓cg_21_1b, ↓ca_3b, ↓ca_4b, ↓ca_5b, ↓ca_6b, ↓ca_9b, ↓ca_15b, ↓ca_16b, ↓ca_18b, ↓ca_20b, ↓ca_22b, ↓ca_13b, ↓ca_7b, ↓ca_8b, ↓cp_1_4b, ↓cp_1_6b, ↓cp_1_7b, ↓cp_14_0b, ↓cp_14_2b, ↓cp_14_4b, ↓cp_14_5b, ↓cp_14_6b, ↓cp_14_7b, ↓cp_14_8b, ↓cp_14_9b, ↓cp_14_10b, ↓cp_14_11b, ↓cp_14_12b, ↓cp_14_13b, ↓cp_17_1b, ↓cp_19_1b, ↓cp_21_1b, ↓cu_4b, ↓cu_15b, ↓cn_15b, ↓cm_15b, ↓cu_16b, ↓cn_16b, ↓cm_16b, ↓cu_18b, ↓cu_20b, ↓cu_22b, ↓cu_9b, ↓cl_15b, ↓cl_16b, ↓cl_18b, ↓cl_20b, ↓cl_22b, ↓Option.bind_some, cO_1, cO_2, cO_14, cO_17, cO_19, cO_21, cR_1_0, cR_1_1, cR_1_2, cR_1_3, cR_2_0, cR_2_1, cR_2_2, cR_2_3, cR_2_4, cR_2_5, cR_2_6, cR_2_7, cR_14_14, cR_14_15, cR_14_16, cR_14_17, cR_17_0, cR_19_0, cR_21_0, cA_11, cA_12, cg_1_4, cg_1_5, cg_1_6, cg_1_7, cg_14_0, cg_14_1, cg_14_2, cg_14_3, cg_14_4, cg_14_5, cg_14_6, cg_14_7, cg_14_8, cg_14_9, cg_14_10, cg_14_11, cg_14_12, cg_14_13, cg_17_1, cg_19_1, cg_21_1, ca_3, ca_4, ca_5, ca_6, ca_9, ca_15, ca_16, ca_18, ca_20, ca_22, ca_13, ca_7, ca_8, cp_1_4, cp_1_6, cp_1_7, cp_14_0, cp_14_2, cp_14_4, cp_14_5, cp_14_6, cp_14_7, cp_14_8, cp_14_9, cp_14_10, cp_14_11, cp_14_12, cp_14_13, cp_17_1, cp_19_1, cp_21_1, cu_4, cu_15, cn_15, cm_15, cu_16, cn_16, cm_16, cu_18, cu_20, cu_22, cu_9, cl_15, cl_16, cl_18, cl_20, cl_22, Option.bind_some, kl_0, kl_1, kl_2, kl_3, kl_4, kl_5, kl_6, kl_7, kl_8, kl_10, kl_13, kl_14, kl_15, kl_16, kl_24, kl_25, kl_26, kl_31, kl_32, kl_36, kl_40, kl_62, kl_99, kl_100, kl_255, kl_400, kl_992, kl_1023, kl_1024, kl_1984, kl_9200, kl_4600, kl_48, kl_57, kl_97, kl_122, kl_32767, nI_add, pk_mul, el, hg, hD]
      rw [ih (i + 1) n _ (by omega) (by omega) (fun q a1 a2 a3 a4 => by rw [sEmp_1 a1 a2 a3 a4, hu q a1 a2 a3 a4]) (fun j hj hj2 => UM_emp (hU j (by omega) hj2) (fun _ => hne j i (by omega) hil (by omega)))]
      have es : sUnF u c (e + 1) i = sUnF (sEmp u (u.1 23 (24 * c + i))) c e (i + 1) := rfl
      rw [es, hu 23 (by decide) (by decide) (by decide) (by decide)]
  unfold fD_unmakeFirst
  rw [kl_0, key N 0 xF t (by omega) (by unfold xF; omega) (fun _ _ _ _ _ => rfl) (fun j _ hj => hU0 j hj)]
  rfl
theorem D_unFirstE {b : Nat} {t : xS} {Y : xMem} {c N : Nat} (hW : XW Y) (hb : b < 3) (hI : IQ t) (hc : c < t.1 19 0) (hN : N ≤ t.1 24 c) : fD_unmakeFirst (cM b t Y) (1, b, 0) (some (14, b, c)) (some (19, b, c)) (nI N) = some (cM b (sUFE t c N) Y) := by
  have hn := hI.1.1.n
  have hi : c < 4 := by omega
  have hfe := hI.1.fe c hc
  have hk := hI.kind hc
  have hrr : ∀ j, j < t.1 24 c → ref t (3, c, j) = t.1 25 (24 * c + j) := fun j hj => ref_3 hc hj
  have hU0 : ∀ j, j < N → UM t c (t.1 25 (24 * c + j)) := fun j hj => by
    have := INV.um hI (P := (3, c, j))
    rw [hrr j (by omega)] at this; exact this
  have hlt : ∀ j, j < t.1 24 c → t.1 25 (24 * c + j) < 24 := fun j hj => by have := hfe.2.2 j; omega
  have hne : ∀ j k, j < t.1 24 c → k < t.1 24 c → j ≠ k → t.1 25 (24 * c + j) ≠ t.1 25 (24 * c + k) := fun j k hj hk hjk e => by
    have := hI.J (P := (3, c, j)) (Q := (3, c, k)) (by rw [hrr j hj]; exact hlt j hj) (by rw [hrr j hj, hrr k hk]; exact e)
    simp only [Prod.mk.injEq, true_and] at this
    exact hjk this
  have key : ∀ e i n u, i + e = N → e < n → (∀ q, q ≠ 17 → q ≠ 12 → q ≠ 20 → q ≠ 18 → u.1 q = t.1 q) → (∀ j, i ≤ j → j < N → UM u c (t.1 25 (24 * c + j))) → fD_unmakeFirst_3 n (cM b u Y) (some (1, b, 0)) (some (14, b, c)) (some (19, b, c)) (nI N) (nI i) = some (cM b (sA (sShE (sUnE u c e i) c N (t.1 24 c - N) N) 24 c (t.1 24 c - N)) Y) := by
    intro e
    induction e with
    | zero =>
      intro i n u hie hn hu hU
      obtain ⟨n, rfl⟩ : ∃ m, n = m + 1 := ⟨n - 1, by omega⟩
      have h5 : N ≤ i := by omega
      have el := congrFun (hu 24 (by decide) (by decide) (by decide) (by decide)) c
      have hd := D_dropE (b := b) (t := u) (Y := Y) (c := c) (N := N) hW hb hi (by rw [el]; omega) (by rw [el]; exact hN)
      rw [el] at hd
      simp (disch := first | assumption | omega | decide | with_unfolding_all exact hW) only [fD_unmakeFirst_3, fD_unmakeFirst_35, nI_leI, h5, if_true, ↓km1, ↓cO_1b, ↓cO_2b, ↓cO_14b, ↓cO_17b, ↓cO_19b, ↓cO_21b, ↓cR_1_0b, ↓cR_1_1b, ↓cR_1_2b, ↓cR_1_3b, ↓cR_2_0b, ↓cR_2_1b, ↓cR_2_2b, ↓cR_2_3b, ↓cR_2_4b, ↓cR_2_5b, ↓cR_2_6b, ↓cR_2_7b, ↓cR_14_14b, ↓cR_14_15b, ↓cR_14_16b, ↓cR_14_17b, ↓cR_17_0b, ↓cR_19_0b, ↓cR_21_0b, ↓cA_11b, ↓cA_12b, ↓cg_1_4b, ↓cg_1_5b, ↓cg_1_6b, ↓cg_1_7b, ↓cg_14_0b, ↓cg_14_1b, ↓cg_14_2b, ↓cg_14_3b, ↓cg_14_4b, ↓cg_14_5b, ↓cg_14_6b, ↓cg_14_7b, ↓cg_14_8b, ↓cg_14_9b, ↓cg_14_10b, ↓cg_14_11b, ↓cg_14_12b, ↓cg_14_13b, ↓cg_17_1b, ↓cg_19_1b, ↓cg_21_1b, ↓ca_3b, ↓ca_4b, ↓ca_5b, ↓ca_6b, ↓ca_9b, ↓ca_15b, ↓ca_16b, ↓ca_18b, ↓ca_20b, ↓ca_22b, ↓ca_13b, ↓ca_7b, ↓ca_8b, ↓cp_1_4b, ↓cp_1_6b, ↓cp_1_7b, ↓cp_14_0b, ↓cp_14_2b, ↓cp_14_4b, ↓cp_14_5b, ↓cp_14_6b, ↓cp_14_7b, ↓cp_14_8b, ↓cp_14_9b, ↓cp_14_10b, ↓cp_14_11b, ↓cp_14_12b, ↓cp_14_13b, ↓cp_17_1b, ↓cp_19_1b, ↓cp_21_1b, ↓cu_4b, ↓cu_15b, ↓cn_15b, ↓cm_15b, ↓cu_16b, ↓cn_16b, ↓cm_16b, ↓cu_18b, ↓cu_20b, ↓cu_22b, ↓cu_9b, ↓cl_15b, ↓cl_16b, ↓cl_18b, ↓cl_20b, ↓cl_22b, ↓Option.bind_some, cO_1, cO_2, cO_14, cO_17, cO_19, cO_21, cR_1_0, cR_1_1, cR_1_2, cR_1_3, cR_2_0, cR_2_1, cR_2_2, cR_2_3, cR_2_4, cR_2_5, cR_2_6, cR_2_7, cR_14_14, cR_14_15, cR_14_16, cR_14_17, cR_17_0, cR_19_0, cR_21_0, cA_11, cA_12, cg_1_4, cg_1_5, cg_1_6, cg_1_7, cg_14_0, cg_14_1, cg_14_2, cg_14_3, cg_14_4, cg_14_5, cg_14_6, cg_14_7, cg_14_8, cg_14_9, cg_14_10, cg_14_11, cg_14_12, cg_14_13, cg_17_1, cg_19_1, cg_21_1, ca_3, ca_4, ca_5, ca_6, ca_9, ca_15, ca_16, ca_18, ca_20, ca_22, ca_13, ca_7, ca_8, cp_1_4, cp_1_6, cp_1_7, cp_14_0, cp_14_2, cp_14_4, cp_14_5, cp_14_6, cp_14_7, cp_14_8, cp_14_9, cp_14_10, cp_14_11, cp_14_12, cp_14_13, cp_17_1, cp_19_1, cp_21_1, cu_4, cu_15, cn_15, cm_15, cu_16, cn_16, cm_16, cu_18, cu_20, cu_22, cu_9, cl_15, cl_16, cl_18, cl_20, cl_22, Option.bind_some, kl_0, kl_1, kl_2, kl_3, kl_4, kl_5, kl_6, kl_7, kl_8, kl_10, kl_13, kl_14, kl_15, kl_16, kl_24, kl_25, kl_26, kl_31, kl_32, kl_36, kl_40, kl_62, kl_99, kl_100, kl_255, kl_400, kl_992, kl_1023, kl_1024, kl_1984, kl_9200, kl_4600, kl_48, kl_57, kl_97, kl_122, kl_32767, nI_add, pk_mul, hd]
      have es : sUnE u c 0 i = u := rfl
      rw [es]
    | succ e ih =>
      intro i n u hie hn hu hU
      obtain ⟨n, rfl⟩ : ∃ m, n = m + 1 := ⟨n - 1, by omega⟩
      have h5 : ¬ N ≤ i := by omega
      have el := congrFun (hu 24 (by decide) (by decide) (by decide) (by decide)) c
      have h6 : ¬ t.1 24 c ≤ i := by omega
      have hil : i < t.1 24 c := by omega
      have hg := D_getE (b := b) (t := u) (Y := Y) (c := c) (k := i) hW hb hi (by rw [el]; omega) (by omega)
      rw [el, if_pos hil, hu 25 (by decide) (by decide) (by decide) (by decide), ← en_lt (z := m1) (hlt i hil)] at hg
      have hD := D_unmake (b := b) (t := u) (Y := Y) (c := c) (m := t.1 25 (24 * c + i)) hW hb hi (by rw [hu 0 (by decide) (by decide) (by decide) (by decide)]; exact hk) (hU i (Nat.le_refl _) (by omega))
      simp (disch := first | assumption | omega | decide | with_unfolding_all exact hW) only [fD_unmakeFirst_3, nI_leI, h5, h6, if_false, ↓km1, ↓cO_1b, ↓cO_2b, ↓cO_14b, ↓cO_17b, ↓cO_19b, ↓cO_21b, ↓cR_1_0b, ↓cR_1_1b, ↓cR_1_2b, ↓cR_1_3b, ↓cR_2_0b, ↓cR_2_1b, ↓cR_2_2b, ↓cR_2_3b, ↓cR_2_4b, ↓cR_2_5b, ↓cR_2_6b, ↓cR_2_7b, ↓cR_14_14b, ↓cR_14_15b, ↓cR_14_16b, ↓cR_14_17b, ↓cR_17_0b, ↓cR_19_0b, ↓cR_21_0b, ↓cA_11b, ↓cA_12b, ↓cg_1_4b, ↓cg_1_5b, ↓cg_1_6b, ↓cg_1_7b, ↓cg_14_0b, ↓cg_14_1b, ↓cg_14_2b, ↓cg_14_3b, ↓cg_14_4b, ↓cg_14_5b, ↓cg_14_6b, ↓cg_14_7b, ↓cg_14_8b, ↓cg_14_9b, ↓cg_14_10b, ↓cg_14_11b, ↓cg_14_12b, ↓cg_14_13b, ↓cg_17_1b, ↓cg_19_1b, ↓cg_21_1b, ↓ca_3b, ↓ca_4b, ↓ca_5b, ↓ca_6b, ↓ca_9b, ↓ca_15b, ↓ca_16b, ↓ca_18b, ↓ca_20b, ↓ca_22b, ↓ca_13b, ↓ca_7b, ↓ca_8b, ↓cp_1_4b, ↓cp_1_6b, ↓cp_1_7b, ↓cp_14_0b, ↓cp_14_2b, ↓cp_14_4b, ↓cp_14_5b, ↓cp_14_6b, ↓cp_14_7b, ↓cp_14_8b, ↓cp_14_9b, ↓cp_14_10b, ↓cp_14_11b, ↓cp_14_12b, ↓cp_14_13b, ↓cp_17_1b, ↓cp_19_1b, ↓cp_21_1b, ↓cu_4b, ↓cu_15b, ↓cn_15b, ↓cm_15b, ↓cu_16b, ↓cn_16b, ↓cm_16b, ↓cu_18b, ↓cu_20b, ↓cu_22b, ↓cu_9b, ↓cl_15b, ↓cl_16b, ↓cl_18b, ↓cl_20b, ↓cl_22b, ↓Option.bind_some, cO_1, cO_2, cO_14, cO_17, cO_19, cO_21, cR_1_0, cR_1_1, cR_1_2, cR_1_3, cR_2_0, cR_2_1, cR_2_2, cR_2_3, cR_2_4, cR_2_5, cR_2_6, cR_2_7, cR_14_14, cR_14_15, cR_14_16, cR_14_17, cR_17_0, cR_19_0, cR_21_0, cA_11, cA_12, cg_1_4, cg_1_5, cg_1_6, cg_1_7, cg_14_0, cg_14_1, cg_14_2, cg_14_3, cg_14_4, cg_14_5, cg_14_6, cg_14_7, cg_14_8, cg_14_9, cg_14_10, cg_14_11, cg_14_12, cg_14_13, cg_17_1, cg_19_1, cg_21_1, ca_3, ca_4, ca_5, ca_6, ca_9, ca_15, ca_16, ca_18, ca_20, ca_22, ca_13, ca_7, ca_8, cp_1_4, cp_1_6, cp_1_7, cp_14_0, cp_14_2, cp_14_4, cp_14_5, cp_14_6, cp_14_7, cp_14_8, cp_14_9, cp_14_10, cp_14_11, cp_14_12, cp_14_13, cp_17_1, cp_19_1, cp_21_1, cu_4, cu_15, cn_15, cm_15, cu_16, cn_16, cm_16, cu_18, cu_20, cu_22, cu_9, cl_15, cl_16, cl_18, cl_20, cl_22, Option.bind_some, kl_0, kl_1, kl_2, kl_3, kl_4, kl_5, kl_6, kl_7, kl_8, kl_10, kl_13, kl_14, kl_15, kl_16, kl_24, kl_25, kl_26, kl_31, kl_32, kl_36, kl_40, kl_62, kl_99, kl_100, kl_255, kl_400, kl_992, kl_1023, kl_1024, kl_1984, kl_9200, kl_4600, kl_48, kl_57, kl_97, kl_122, kl_32767, nI_add, pk_mul, el, hg, hD]
      rw [ih (i + 1) n _ (by omega) (by omega) (fun q a1 a2 a3 a4 => by rw [sEmp_1 a1 a2 a3 a4, hu q a1 a2 a3 a4]) (fun j hj hj2 => UM_emp (hU j (by omega) hj2) (fun _ => hne j i (by omega) hil (by omega)))]
      have es : sUnE u c (e + 1) i = sUnE (sEmp u (u.1 25 (24 * c + i))) c e (i + 1) := rfl
      rw [es, hu 25 (by decide) (by decide) (by decide) (by decide)]
  unfold fD_unmakeFirst
  rw [kl_0, key N 0 xF t (by omega) (by unfold xF; omega) (fun _ _ _ _ _ => rfl) (fun j _ hj => hU0 j hj)]
  rfl
/-! unmakings in any order -/
theorem sEnd_w {s : xS} {z : Nat} : (sEnd s z).2.1 = s.2.1 := rfl
theorem sEnd_t {u : xS} {z : Nat} : (sEnd u z).2.2 = fun j => if j = u.1 13 (z / 62) then u.2.2 (u.1 13 (z / 62)) + (kE (u.1 0 (u.1 13 (z / 62))) (u.2.1 z)).toInt64 else u.2.2 j := rfl
theorem sEnd_12 {u : xS} {z j : Nat} : (sEnd u z).1 12 j = if j = u.1 13 (z / 62) then u.1 12 (u.1 13 (z / 62)) + 1 else u.1 12 j := by
  unfold sEnd
  rw [sA_1]
  by_cases h : j = u.1 13 (z / 62)
  · rw [if_pos ⟨rfl, h⟩, if_pos h]
  · rw [if_neg (fun e => h e.2), if_neg h, sA_n (by decide)]; rfl
theorem sEnd_comm {s : xS} {x y : Nat} : sEnd (sEnd s x) y = sEnd (sEnd s y) x := by
  have h13 : ∀ z, (sEnd s z).1 13 = s.1 13 := fun z => sEnd_1 (by decide) (by decide)
  have h0 : ∀ z, (sEnd s z).1 0 = s.1 0 := fun z => sEnd_1 (by decide) (by decide)
  refine Prod.ext ?_ (Prod.ext (by rw [sEnd_w, sEnd_w, sEnd_w, sEnd_w]) ?_)
  · funext q j
    by_cases h1 : q = 17
    · subst h1
      rw [sEnd_17, sEnd_17, sEnd_17, sEnd_17]
      split <;> split <;> rfl
    · by_cases h2 : q = 12
      · subst h2
        rw [sEnd_12, sEnd_12, sEnd_12, sEnd_12, h13, h13, sEnd_12, sEnd_12]
        by_cases ha : j = s.1 13 (x / 62)
        · by_cases hb : j = s.1 13 (y / 62)
          · rw [← ha, ← hb]
          · have hne : s.1 13 (x / 62) ≠ s.1 13 (y / 62) := fun e => hb (ha.trans e)
            rw [if_neg hb, if_pos ha, if_pos ha, if_neg hne]
        · by_cases hb : j = s.1 13 (y / 62)
          · have hne : s.1 13 (y / 62) ≠ s.1 13 (x / 62) := fun e => ha (hb.trans e)
            rw [if_pos hb, if_neg hne, if_neg ha, if_pos hb]
          · rw [if_neg hb, if_neg ha, if_neg ha, if_neg hb]
      · rw [sEnd_1 h1 h2, sEnd_1 h1 h2, sEnd_1 h1 h2, sEnd_1 h1 h2]
  · rw [sEnd_t, sEnd_t, sEnd_t, sEnd_t, h13, h13, h0, h0, sEnd_w, sEnd_w]
    funext j
    by_cases ha : j = s.1 13 (x / 62)
    · by_cases hb : j = s.1 13 (y / 62)
      · rw [← ha, ← hb]
        simp only [if_true]
        rw [Int64.add_assoc, Int64.add_assoc, Int64.add_comm (kE _ _).toInt64]
      · have hne : s.1 13 (x / 62) ≠ s.1 13 (y / 62) := fun e => hb (ha.trans e)
        simp only [if_neg hb, if_pos ha, if_neg hne]
    · by_cases hb : j = s.1 13 (y / 62)
      · have hne : s.1 13 (y / 62) ≠ s.1 13 (x / 62) := fun e => ha (hb.trans e)
        simp only [if_pos hb, if_neg hne, if_neg ha]
      · simp only [if_neg hb, if_neg ha]
theorem sEnd_sA {s : xS} {x q j v : Nat} (h1 : q ≠ 13) (h2 : q ≠ 0) (h3 : q ≠ 17) (h4 : q ≠ 12) : sEnd (sA s q j v) x = sA (sEnd s x) q j v := by
  have e13 : (sA s q j v).1 13 = s.1 13 := sA_n (fun e => h1 e.symm)
  have e0 : (sA s q j v).1 0 = s.1 0 := sA_n (fun e => h2 e.symm)
  have e12 : (sA s q j v).1 12 = s.1 12 := sA_n (fun e => h4 e.symm)
  unfold sEnd
  rw [e13, e0, e12, sA_comm (q := 12) (fun e => h4 e.symm), sA_comm (q := 17) (fun e => h3 e.symm)]
  rfl
theorem sEmL_end {m x : Nat} : ∀ {d k : Nat} {s : xS}, sEmL (sEnd s x) m d k = sEnd (sEmL s m d k) x := by
  intro d
  induction d with
  | zero => intro k s; rfl
  | succ d ih =>
    intro k s
    have e1 : sEmL (sEnd s x) m (d + 1) k = sEmL (sEnd (sEnd s x) ((sEnd s x).1 21 (8 * m + k))) m d (k + 1) := rfl
    have e2 : sEmL s m (d + 1) k = sEmL (sEnd s (s.1 21 (8 * m + k))) m d (k + 1) := rfl
    rw [e1, e2, sEnd_1 (by decide) (by decide), sEnd_comm, ih]
theorem sEmL_sA {m q j v : Nat} (h1 : q ≠ 13) (h2 : q ≠ 0) (h3 : q ≠ 17) (h4 : q ≠ 12) (h5 : q ≠ 21) : ∀ {d k : Nat} {s : xS}, sEmL (sA s q j v) m d k = sA (sEmL s m d k) q j v := by
  intro d
  induction d with
  | zero => intro k s; rfl
  | succ d ih =>
    intro k s
    have e1 : sEmL (sA s q j v) m (d + 1) k = sEmL (sEnd (sA s q j v) ((sA s q j v).1 21 (8 * m + k))) m d (k + 1) := rfl
    have e2 : sEmL s m (d + 1) k = sEmL (sEnd s (s.1 21 (8 * m + k))) m d (k + 1) := rfl
    rw [e1, e2, sA_n (fun e => h5 e.symm), sEnd_sA h1 h2 h3 h4, ih]
theorem sEmL_comm {m m' : Nat} : ∀ {d k d' k' : Nat} {s : xS}, sEmL (sEmL s m d k) m' d' k' = sEmL (sEmL s m' d' k') m d k := by
  intro d
  induction d with
  | zero => intro k d' k' s; rfl
  | succ d ih =>
    intro k d' k' s
    have e2 : ∀ s, sEmL s m (d + 1) k = sEmL (sEnd s (s.1 21 (8 * m + k))) m d (k + 1) := fun s => rfl
    rw [e2, e2, ih, sEmL_end, sEmL_1 (by decide) (by decide)]
theorem sA_same {s : xS} {q j v v' : Nat} : sA (sA s q j v) q j v' = sA s q j v' := by
  refine Prod.ext ?_ rfl
  funext q' j'
  rw [sA_1, sA_1, sA_1]
  split <;> rfl
theorem sA_comm2 {t : xS} {q j v j' v' : Nat} (h : j ≠ j') : sA (sA t q j v) q j' v' = sA (sA t q j' v') q j v := by
  refine Prod.ext ?_ rfl
  funext k i
  simp only [sA_1]
  by_cases h1 : k = q ∧ i = j'
  · rw [if_pos h1, if_neg (fun e => h (e.2.symm.trans h1.2)), if_pos h1]
  · rw [if_neg h1, if_neg h1]
theorem sEmp_comm {s : xS} {m m' : Nat} (hne : m < 24 → m' < 24 → m ≠ m') : sEmp (sEmp s m) m' = sEmp (sEmp s m') m := by
  by_cases hm : m < 24
  · by_cases hm' : m' < 24
    · have hn := hne hm hm'
      have e : ∀ u k, k < 24 → sEmp u k = sA (sA (sEmL u k (u.1 20 k) 0) 20 k 0) 18 k 0 := fun u k hk => if_pos hk
      have e20 : (sEmp s m).1 20 m' = s.1 20 m' := by rw [sEmp_20, if_neg (fun e => hn e.1.symm)]
      have e20' : (sEmp s m').1 20 m = s.1 20 m := by rw [sEmp_20, if_neg (fun e => hn e.1)]
      rw [e (sEmp s m) m' hm', e20, e (sEmp s m') m hm, e20', e s m hm, e s m' hm']
      rw [sEmL_sA (by decide) (by decide) (by decide) (by decide) (by decide), sEmL_sA (by decide) (by decide) (by decide) (by decide) (by decide), sEmL_sA (by decide) (by decide) (by decide) (by decide) (by decide), sEmL_sA (by decide) (by decide) (by decide) (by decide) (by decide), sEmL_comm]
      rw [sA_comm (q := 18) (q' := 20) (by decide), sA_comm2 (q := 20) hn, sA_comm2 (q := 18) hn, sA_comm (q := 20) (q' := 18) (by decide)]
    · have e : ∀ u, sEmp u m' = u := fun u => if_neg hm'
      rw [e, e]
  · have e : ∀ u, sEmp u m = u := fun u => if_neg hm
    rw [e, e]
