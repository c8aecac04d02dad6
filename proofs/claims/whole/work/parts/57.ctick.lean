/-! the class's intervals -/
theorem sUnF_sA {c q j v : Nat} (h1 : q ≠ 13) (h2 : q ≠ 0) (h3 : q ≠ 17) (h4 : q ≠ 12) (h5 : q ≠ 21) (h6 : q ≠ 20) (h7 : q ≠ 18) (h8 : q ≠ 23) : ∀ {d k : Nat} {s : xS}, sUnF (sA s q j v) c d k = sA (sUnF s c d k) q j v := by
  intro d
  induction d with
  | zero => intro k s; rfl
  | succ d ih => intro k s; unfold sUnF; rw [sA_n (fun e => h8 e.symm), sEmp_sA h1 h2 h3 h4 h5 h6 h7, ih]
theorem sShF_sA {c n q j v : Nat} (h8 : q ≠ 23) : ∀ {d k : Nat} {s : xS}, sShF (sA s q j v) c n d k = sA (sShF s c n d k) q j v := by
  intro d
  induction d with
  | zero => intro k s; rfl
  | succ d ih => intro k s; unfold sShF; rw [sA_n (fun e => h8 e.symm), sA_comm (q := q) h8, ih]
theorem sUFF_sA {s : xS} {c n q j v : Nat} (h1 : q ≠ 13) (h2 : q ≠ 0) (h3 : q ≠ 17) (h4 : q ≠ 12) (h5 : q ≠ 21) (h6 : q ≠ 20) (h7 : q ≠ 18) (h8 : q ≠ 23) (h9 : q ≠ 22) : sUFF (sA s q j v) c n = sA (sUFF s c n) q j v := by
  unfold sUFF
  rw [sA_n (fun e => h9 e.symm), sUnF_sA h1 h2 h3 h4 h5 h6 h7 h8, sShF_sA h8, sA_comm (q := q) h9]
theorem sUnE_sA {c q j v : Nat} (h1 : q ≠ 13) (h2 : q ≠ 0) (h3 : q ≠ 17) (h4 : q ≠ 12) (h5 : q ≠ 21) (h6 : q ≠ 20) (h7 : q ≠ 18) (h8 : q ≠ 25) : ∀ {d k : Nat} {s : xS}, sUnE (sA s q j v) c d k = sA (sUnE s c d k) q j v := by
  intro d
  induction d with
  | zero => intro k s; rfl
  | succ d ih => intro k s; unfold sUnE; rw [sA_n (fun e => h8 e.symm), sEmp_sA h1 h2 h3 h4 h5 h6 h7, ih]
theorem sShE_sA {c n q j v : Nat} (h8 : q ≠ 25) : ∀ {d k : Nat} {s : xS}, sShE (sA s q j v) c n d k = sA (sShE s c n d k) q j v := by
  intro d
  induction d with
  | zero => intro k s; rfl
  | succ d ih => intro k s; unfold sShE; rw [sA_n (fun e => h8 e.symm), sA_comm (q := q) h8, ih]
theorem sUFE_sA {s : xS} {c n q j v : Nat} (h1 : q ≠ 13) (h2 : q ≠ 0) (h3 : q ≠ 17) (h4 : q ≠ 12) (h5 : q ≠ 21) (h6 : q ≠ 20) (h7 : q ≠ 18) (h8 : q ≠ 25) (h9 : q ≠ 24) : sUFE (sA s q j v) c n = sA (sUFE s c n) q j v := by
  unfold sUFE
  rw [sA_n (fun e => h9 e.symm), sUnE_sA h1 h2 h3 h4 h5 h6 h7 h8, sShE_sA h8, sA_comm (q := q) h9]
theorem sDrs_sA {c q j v : Nat} (h1 : q ≠ 13) (h2 : q ≠ 0) (h3 : q ≠ 17) (h4 : q ≠ 12) (h5 : q ≠ 21) (h6 : q ≠ 20) (h7 : q ≠ 18) (h8 : q ≠ 15) (h9 : q ≠ 16) : ∀ {d p : Nat} {s : xS}, sDrs (sA s q j v) c d p = sA (sDrs s c d p) q j v := by
  intro d
  induction d with
  | zero => intro k s; rfl
  | succ d ih =>
    intro p s
    have e : sDr (sA s q j v) (4 * c + p) = sA (sDr s (4 * c + p)) q j v := by
      unfold sDr
      rw [sA_n (fun e => h8 e.symm), sA_n (fun e => h9 e.symm), sEmp_sA h1 h2 h3 h4 h5 h6 h7, sEmp_sA h1 h2 h3 h4 h5 h6 h7, sA_comm (q := q) h8, sA_comm (q := q) h9]
    unfold sDrs
    rw [e, ih]
theorem sUA_sA {s : xS} {c q j v : Nat} (h1 : q ≠ 13) (h2 : q ≠ 0) (h3 : q ≠ 17) (h4 : q ≠ 12) (h5 : q ≠ 21) (h6 : q ≠ 20) (h7 : q ≠ 18) (h8 : q ≠ 15) (h9 : q ≠ 16) (h10 : q ≠ 22) (h11 : q ≠ 23) (h12 : q ≠ 24) (h13 : q ≠ 25) : sUA (sA s q j v) c = sA (sUA s c) q j v := by
  unfold sUA
  rw [sA_n (fun e => h10 e.symm), sA_n (fun e => h12 e.symm), sDrs_sA h1 h2 h3 h4 h5 h6 h7 h8 h9, sUFF_sA h1 h2 h3 h4 h5 h6 h7 h11 h10, sUFE_sA h1 h2 h3 h4 h5 h6 h7 h13 h12]
theorem sRez_19 {s : xS} {c j v : Nat} : sRez (sA s 19 j v) c = sA (sRez s c) 19 j v := by
  have h1 : sRz1 (sA s 19 j v) c = sA (sRz1 s c) 19 j v := by
    unfold sRz1
    rw [sA_n (by decide), sA_n (by decide), sA_n (by decide)]
    split
    · rfl
    · rw [sA_comm (q := 19) (q' := 4) (by decide), sUA_sA (by decide) (by decide) (by decide) (by decide) (by decide) (by decide) (by decide) (by decide) (by decide) (by decide) (by decide) (by decide) (by decide)]
  have h2 : ∀ u, sRz2 (sA u 19 j v) c = sA (sRz2 u c) 19 j v := fun u => by
    unfold sRz2
    rw [sA_n (by decide), sA_n (by decide), sA_comm (q := 19) (q' := 7) (by decide)]
  have h3 : ∀ u, sRz3 (sA u 19 j v) c = sA (sRz3 u c) 19 j v := fun u => by
    unfold sRz3
    rw [sA_n (by decide), sA_n (by decide)]
    split
    · split
      · rw [sA_comm (q := 19) (q' := 7) (by decide)]
      · rw [sA_comm (q := 19) (q' := 7) (by decide), sA_comm (q := 19) (q' := 4) (by decide), sUA_sA (by decide) (by decide) (by decide) (by decide) (by decide) (by decide) (by decide) (by decide) (by decide) (by decide) (by decide) (by decide) (by decide)]
    · rfl
  unfold sRez
  rw [h1, h2, h3]
theorem sIn_19 {s : xS} {c j v : Nat} : sIn2 (sIn1 (sA s 19 j v) c) c = sA (sIn2 (sIn1 s c) c) 19 j v := by
  have h1 : sIn1 (sA s 19 j v) c = sA (sIn1 s c) 19 j v := by
    unfold sIn1
    rw [sA_n (by decide), sA_n (by decide), sUFF_sA (by decide) (by decide) (by decide) (by decide) (by decide) (by decide) (by decide) (by decide) (by decide), sUFE_sA (by decide) (by decide) (by decide) (by decide) (by decide) (by decide) (by decide) (by decide) (by decide), sRez_19]
  rw [h1]
  unfold sIn2
  rw [sA_n (by decide), sA_n (by decide), sA_comm (q := 19) (q' := 6) (by decide), sA_comm (q := 19) (q' := 8) (by decide), sA_comm (q := 19) (q' := 9) (by decide)]
theorem sInt_sA19 {j v : Nat} : ∀ {d c : Nat} {s : xS}, sInt (sA s 19 j v) d c = sA (sInt s d c) 19 j v := by
  intro d
  induction d with
  | zero => intro c s; rfl
  | succ d ih => intro c s; unfold sInt; rw [sIn_19, ih]
theorem sInt_n19 : ∀ {d c : Nat} {s : xS}, (sInt s d c).1 19 = s.1 19 := by
  intro d
  induction d with
  | zero => intro c s; rfl
  | succ d ih => intro c s; unfold sInt; rw [ih, sIn2_19, sIn1_19]
theorem sTick_eq {s : xS} : sTick s = sA (sInt s (s.1 19 0) 0) 19 1 ((sInt s (s.1 19 0) 0).1 19 1 + 1) := by
  unfold sTick
  rw [sInt_sA19, sInt_n19]
/-- what the class does of ROUNDS and QUIET: whether all are unmade then -/
def sFo (t : xS) (c : Nat) : Bool × xS :=
  if nI (t.1 6 c) ≤ nI (t.1 5 c) ∨ 8 ≤ t.1 4 c then
    (if 3 ≤ (sRz2 t c).1 7 c then (if t.1 4 c = 1 then (false, sA (sRz2 t c) 7 c 0) else (true, sA (sA (sRz2 t c) 7 c 0) 4 c (t.1 4 c - 1))) else (false, sRz2 t c))
  else (true, sA (sA t 7 c 0) 4 c (t.1 4 c + 1))
theorem sFo_rez {t : xS} {c : Nat} (h5 : t.1 5 c ≤ 99) : sRez t c = if (sFo t c).1 then sUA (sFo t c).2 c else (sFo t c).2 := by
  unfold sRez sFo
  by_cases h1 : nI (t.1 6 c) ≤ nI (t.1 5 c) ∨ 8 ≤ t.1 4 c
  · have e1 : sRz1 t c = t := if_pos h1
    rw [e1, if_pos h1]
    have e4 : (sRz2 t c).1 4 c = t.1 4 c := by unfold sRz2; rw [sA_n (by decide)]
    unfold sRz3
    rw [e4]
    by_cases h2 : 3 ≤ (sRz2 t c).1 7 c
    · rw [if_pos h2, if_pos h2]
      by_cases h3 : t.1 4 c = 1
      · rw [if_pos h3, if_pos h3]; rfl
      · rw [if_neg h3, if_neg h3]; rfl
    · rw [if_neg h2, if_neg h2]; rfl
  · have h6 : ¬ nI (t.1 6 c) = nI 0 := fun e => h1 (Or.inl (by rw [e]; exact nI_le (Nat.zero_le _) (by omega)))
    have e1 : sRz1 t c = sUA (sA t 4 c (t.1 4 c + 1)) c := if_neg h1
    rw [e1, if_neg h1]
    have e6 : (sUA (sA t 4 c (t.1 4 c + 1)) c).1 6 c = t.1 6 c := by
      rw [sUA_1 (by decide) (by decide) (by decide) (by decide) (by decide) (by decide) (by decide) (by decide) (by decide) (by decide), sA_n (by decide)]
    have e2 : sRz2 (sUA (sA t 4 c (t.1 4 c + 1)) c) c = sA (sUA (sA t 4 c (t.1 4 c + 1)) c) 7 c 0 := by
      unfold sRz2; rw [e6, if_neg h6]
    rw [e2]
    unfold sRz3
    rw [if_neg (by simp [sA_1])]
    show _ = sUA (sA (sA t 7 c 0) 4 c (t.1 4 c + 1)) c
    rw [sA_comm (q := 7) (q' := 4) (by decide), sUA_sA (q := 7) (by decide) (by decide) (by decide) (by decide) (by decide) (by decide) (by decide) (by decide) (by decide) (by decide) (by decide) (by decide) (by decide)]
theorem D_follow {b : Nat} {t : xS} {Y : xMem} {c : Nat} (hW : XW Y) (hb : b < 3) (hi : c < 4) (h4 : 1 ≤ t.1 4 c ∧ t.1 4 c ≤ 8) (h7 : t.1 7 c ≤ 2) : fC_followVisits (cM b t Y) (14, b, c) = some (bI (sFo t c).1, cM b (sFo t c).2 Y) := by
  have k55 : ∀ v, v ≤ 3 → fC_followVisits_55 (cM b t Y) (some (14, b, c)) (some (14, b, c)) (nI v) = some (bI (if 3 ≤ v then (if t.1 4 c = 1 then (false, sA (sA t 7 c v) 7 c 0) else (true, sA (sA (sA t 7 c v) 7 c 0) 4 c (t.1 4 c - 1))) else (false, sA t 7 c v)).1, cM b (if 3 ≤ v then (if t.1 4 c = 1 then (false, sA (sA t 7 c v) 7 c 0) else (true, sA (sA (sA t 7 c v) 7 c 0) 4 c (t.1 4 c - 1))) else (false, sA t 7 c v)).2 Y) := fun v hv => by
    have e7 : (sA t 7 c v).1 7 c = v := by simp [sA_1]
    have e4 : (sA (sA t 7 c v) 7 c 0).1 4 c = t.1 4 c := by rw [sA_n (by decide), sA_n (by decide)]
    unfold fC_followVisits_55
    simp (disch := first | assumption | omega | decide | with_unfolding_all exact hW) only [↓km1, ↓cO_1b, ↓cO_2b, ↓cO_14b, ↓cO_17b, ↓cO_19b, ↓cO_21b, ↓cR_1_0b, ↓cR_1_1b, ↓cR_1_2b, ↓cR_1_3b, ↓cR_2_0b, ↓cR_2_1b, ↓cR_2_2b, ↓cR_2_3b, ↓cR_2_4b, ↓cR_2_5b, ↓cR_2_6b, ↓cR_2_7b, ↓cR_14_14b, ↓cR_14_15b, ↓cR_14_16b, ↓cR_14_17b, ↓cR_17_0b, ↓cR_19_0b, ↓cR_21_0b, ↓cA_11b, ↓cA_12b, ↓cg_1_4b, ↓cg_1_5b, ↓cg_1_6b, ↓cg_1_7b, ↓cg_14_0b, ↓cg_14_1b, ↓cg_14_2b, ↓cg_14_3b, ↓cg_14_4b, ↓cg_14_5b, ↓cg_14_6b, ↓cg_14_7b, ↓cg_14_8b, ↓cg_14_9b, ↓cg_14_10b, ↓cg_14_11b, ↓cg_14_12b, ↓cg_14_13b, ↓cg_17_1b, ↓cg_19_1b, ↓cg_21_1b, ↓ca_3b, ↓ca_4b, ↓ca_5b, ↓ca_6b, ↓ca_9b, ↓ca_15b, ↓ca_16b, ↓ca_18b, ↓ca_20b, ↓ca_22b, ↓ca_13b, ↓ca_7b, ↓ca_8b, ↓cp_1_4b, ↓cp_1_6b, ↓cp_1_7b, ↓cp_14_0b, ↓cp_14_2b, ↓cp_14_4b, ↓cp_14_5b, ↓cp_14_6b, ↓cp_14_7b, ↓cp_14_8b, ↓cp_14_9b, ↓cp_14_10b, ↓cp_14_11b, ↓cp_14_12b, ↓cp_14_13b, ↓cp_17_1b, ↓cp_19_1b, ↓cp_21_1b, ↓cu_4b, ↓cu_15b, ↓cn_15b, ↓cm_15b, ↓cu_16b, ↓cn_16b, ↓cm_16b, ↓cu_18b, ↓cu_20b, ↓cu_22b, ↓cu_9b, ↓cl_15b, ↓cl_16b, ↓cl_18b, ↓cl_20b, ↓cl_22b, ↓Option.bind_some, cO_1, cO_2, cO_14, cO_17, cO_19, cO_21, cR_1_0, cR_1_1, cR_1_2, cR_1_3, cR_2_0, cR_2_1, cR_2_2, cR_2_3, cR_2_4, cR_2_5, cR_2_6, cR_2_7, cR_14_14, cR_14_15, cR_14_16, cR_14_17, cR_17_0, cR_19_0, cR_21_0, cA_11, cA_12, cg_1_4, cg_1_5, cg_1_6, cg_1_7, cg_14_0, cg_14_1, cg_14_2, cg_14_3, cg_14_4, cg_14_5, cg_14_6, cg_14_7, cg_14_8, cg_14_9, cg_14_10, cg_14_11, cg_14_12, cg_14_13, cg_17_1, cg_19_1, cg_21_1, ca_3, ca_4, ca_5, ca_6, ca_9, ca_15, ca_16, ca_18, ca_20, ca_22, ca_13, ca_7, ca_8, cp_1_4, cp_1_6, cp_1_7, cp_14_0, cp_14_2, cp_14_4, cp_14_5, cp_14_6, cp_14_7, cp_14_8, cp_14_9, cp_14_10, cp_14_11, cp_14_12, cp_14_13, cp_17_1, cp_19_1, cp_21_1, cu_4, cu_15, cn_15, cm_15, cu_16, cn_16, cm_16, cu_18, cu_20, cu_22, cu_9, cl_15, cl_16, cl_18, cl_20, cl_22, Option.bind_some, kl_0, kl_1, kl_2, kl_3, kl_4, kl_5, kl_6, kl_7, kl_8, kl_10, kl_13, kl_14, kl_15, kl_16, kl_24, kl_25, kl_26, kl_31, kl_32, kl_36, kl_40, kl_62, kl_99, kl_100, kl_255, kl_400, kl_992, kl_1023, kl_1024, kl_1984, kl_9200, kl_4600, kl_48, kl_57, kl_97, kl_122, kl_32767, nI_add, pk_mul, e7, e4, nI_leI, nI_ltI, pk_sub]
    by_cases h3 : 3 ≤ v
    · by_cases h1 : t.1 4 c = 1
      · have h1n : ¬ 1 < t.1 4 c := by omega
        simp only [h3, h1n, h1, if_true, if_false]; rfl
      · have h1n : 1 < t.1 4 c := by omega
        simp only [h3, h1n, h1, if_true, if_false]; rfl
    · simp only [h3, if_false]; rfl
  have k37 : fC_followVisits_37 (cM b t Y) (some (14, b, c)) = some (bI (if 3 ≤ (sRz2 t c).1 7 c then (if t.1 4 c = 1 then (false, sA (sRz2 t c) 7 c 0) else (true, sA (sA (sRz2 t c) 7 c 0) 4 c (t.1 4 c - 1))) else (false, sRz2 t c)).1, cM b (if 3 ≤ (sRz2 t c).1 7 c then (if t.1 4 c = 1 then (false, sA (sRz2 t c) 7 c 0) else (true, sA (sA (sRz2 t c) 7 c 0) 4 c (t.1 4 c - 1))) else (false, sRz2 t c)).2 Y) := by
    unfold fC_followVisits_37 sRz2
    have e7 : ∀ v, (sA t 7 c v).1 7 c = v := fun v => by simp [sA_1]
    rw [e7]
    simp (disch := first | assumption | omega | decide | with_unfolding_all exact hW) only [↓km1, ↓cO_1b, ↓cO_2b, ↓cO_14b, ↓cO_17b, ↓cO_19b, ↓cO_21b, ↓cR_1_0b, ↓cR_1_1b, ↓cR_1_2b, ↓cR_1_3b, ↓cR_2_0b, ↓cR_2_1b, ↓cR_2_2b, ↓cR_2_3b, ↓cR_2_4b, ↓cR_2_5b, ↓cR_2_6b, ↓cR_2_7b, ↓cR_14_14b, ↓cR_14_15b, ↓cR_14_16b, ↓cR_14_17b, ↓cR_17_0b, ↓cR_19_0b, ↓cR_21_0b, ↓cA_11b, ↓cA_12b, ↓cg_1_4b, ↓cg_1_5b, ↓cg_1_6b, ↓cg_1_7b, ↓cg_14_0b, ↓cg_14_1b, ↓cg_14_2b, ↓cg_14_3b, ↓cg_14_4b, ↓cg_14_5b, ↓cg_14_6b, ↓cg_14_7b, ↓cg_14_8b, ↓cg_14_9b, ↓cg_14_10b, ↓cg_14_11b, ↓cg_14_12b, ↓cg_14_13b, ↓cg_17_1b, ↓cg_19_1b, ↓cg_21_1b, ↓ca_3b, ↓ca_4b, ↓ca_5b, ↓ca_6b, ↓ca_9b, ↓ca_15b, ↓ca_16b, ↓ca_18b, ↓ca_20b, ↓ca_22b, ↓ca_13b, ↓ca_7b, ↓ca_8b, ↓cp_1_4b, ↓cp_1_6b, ↓cp_1_7b, ↓cp_14_0b, ↓cp_14_2b, ↓cp_14_4b, ↓cp_14_5b, ↓cp_14_6b, ↓cp_14_7b, ↓cp_14_8b, ↓cp_14_9b, ↓cp_14_10b, ↓cp_14_11b, ↓cp_14_12b, ↓cp_14_13b, ↓cp_17_1b, ↓cp_19_1b, ↓cp_21_1b, ↓cu_4b, ↓cu_15b, ↓cn_15b, ↓cm_15b, ↓cu_16b, ↓cn_16b, ↓cm_16b, ↓cu_18b, ↓cu_20b, ↓cu_22b, ↓cu_9b, ↓cl_15b, ↓cl_16b, ↓cl_18b, ↓cl_20b, ↓cl_22b, ↓Option.bind_some, cO_1, cO_2, cO_14, cO_17, cO_19, cO_21, cR_1_0, cR_1_1, cR_1_2, cR_1_3, cR_2_0, cR_2_1, cR_2_2, cR_2_3, cR_2_4, cR_2_5, cR_2_6, cR_2_7, cR_14_14, cR_14_15, cR_14_16, cR_14_17, cR_17_0, cR_19_0, cR_21_0, cA_11, cA_12, cg_1_4, cg_1_5, cg_1_6, cg_1_7, cg_14_0, cg_14_1, cg_14_2, cg_14_3, cg_14_4, cg_14_5, cg_14_6, cg_14_7, cg_14_8, cg_14_9, cg_14_10, cg_14_11, cg_14_12, cg_14_13, cg_17_1, cg_19_1, cg_21_1, ca_3, ca_4, ca_5, ca_6, ca_9, ca_15, ca_16, ca_18, ca_20, ca_22, ca_13, ca_7, ca_8, cp_1_4, cp_1_6, cp_1_7, cp_14_0, cp_14_2, cp_14_4, cp_14_5, cp_14_6, cp_14_7, cp_14_8, cp_14_9, cp_14_10, cp_14_11, cp_14_12, cp_14_13, cp_17_1, cp_19_1, cp_21_1, cu_4, cu_15, cn_15, cm_15, cu_16, cn_16, cm_16, cu_18, cu_20, cu_22, cu_9, cl_15, cl_16, cl_18, cl_20, cl_22, Option.bind_some, kl_0, kl_1, kl_2, kl_3, kl_4, kl_5, kl_6, kl_7, kl_8, kl_10, kl_13, kl_14, kl_15, kl_16, kl_24, kl_25, kl_26, kl_31, kl_32, kl_36, kl_40, kl_62, kl_99, kl_100, kl_255, kl_400, kl_992, kl_1023, kl_1024, kl_1984, kl_9200, kl_4600, kl_48, kl_57, kl_97, kl_122, kl_32767, nI_add, pk_mul]
    by_cases h0 : nI (t.1 6 c) = nI 0
    · simp only [h0, if_true]
      exact k55 _ (by omega)
    · simp only [h0, if_false]
      exact k55 _ (by omega)
  unfold fC_followVisits sFo
  simp (disch := first | assumption | omega | decide | with_unfolding_all exact hW) only [↓km1, ↓cO_1b, ↓cO_2b, ↓cO_14b, ↓cO_17b, ↓cO_19b, ↓cO_21b, ↓cR_1_0b, ↓cR_1_1b, ↓cR_1_2b, ↓cR_1_3b, ↓cR_2_0b, ↓cR_2_1b, ↓cR_2_2b, ↓cR_2_3b, ↓cR_2_4b, ↓cR_2_5b, ↓cR_2_6b, ↓cR_2_7b, ↓cR_14_14b, ↓cR_14_15b, ↓cR_14_16b, ↓cR_14_17b, ↓cR_17_0b, ↓cR_19_0b, ↓cR_21_0b, ↓cA_11b, ↓cA_12b, ↓cg_1_4b, ↓cg_1_5b, ↓cg_1_6b, ↓cg_1_7b, ↓cg_14_0b, ↓cg_14_1b, ↓cg_14_2b, ↓cg_14_3b, ↓cg_14_4b, ↓cg_14_5b, ↓cg_14_6b, ↓cg_14_7b, ↓cg_14_8b, ↓cg_14_9b, ↓cg_14_10b, ↓cg_14_11b, ↓cg_14_12b, ↓cg_14_13b, ↓cg_17_1b, ↓cg_19_1b, ↓cg_21_1b, ↓ca_3b, ↓ca_4b, ↓ca_5b, ↓ca_6b, ↓ca_9b, ↓ca_15b, ↓ca_16b, ↓ca_18b, ↓ca_20b, ↓ca_22b, ↓ca_13b, ↓ca_7b, ↓ca_8b, ↓cp_1_4b, ↓cp_1_6b, ↓cp_1_7b, ↓cp_14_0b, ↓cp_14_2b, ↓cp_14_4b, ↓cp_14_5b, ↓cp_14_6b, ↓cp_14_7b, ↓cp_14_8b, ↓cp_14_9b, ↓cp_14_10b, ↓cp_14_11b, ↓cp_14_12b, ↓cp_14_13b, ↓cp_17_1b, ↓cp_19_1b, ↓cp_21_1b, ↓cu_4b, ↓cu_15b, ↓cn_15b, ↓cm_15b, ↓cu_16b, ↓cn_16b, ↓cm_16b, ↓cu_18b, ↓cu_20b, ↓cu_22b, ↓cu_9b, ↓cl_15b, ↓cl_16b, ↓cl_18b, ↓cl_20b, ↓cl_22b, ↓Option.bind_some, cO_1, cO_2, cO_14, cO_17, cO_19, cO_21, cR_1_0, cR_1_1, cR_1_2, cR_1_3, cR_2_0, cR_2_1, cR_2_2, cR_2_3, cR_2_4, cR_2_5, cR_2_6, cR_2_7, cR_14_14, cR_14_15, cR_14_16, cR_14_17, cR_17_0, cR_19_0, cR_21_0, cA_11, cA_12, cg_1_4, cg_1_5, cg_1_6, cg_1_7, cg_14_0, cg_14_1, cg_14_2, cg_14_3, cg_14_4, cg_14_5, cg_14_6, cg_14_7, cg_14_8, cg_14_9, cg_14_10, cg_14_11, cg_14_12, cg_14_13, cg_17_1, cg_19_1, cg_21_1, ca_3, ca_4, ca_5, ca_6, ca_9, ca_15, ca_16, ca_18, ca_20, ca_22, ca_13, ca_7, ca_8, cp_1_4, cp_1_6, cp_1_7, cp_14_0, cp_14_2, cp_14_4, cp_14_5, cp_14_6, cp_14_7, cp_14_8, cp_14_9, cp_14_10, cp_14_11, cp_14_12, cp_14_13, cp_17_1, cp_19_1, cp_21_1, cu_4, cu_15, cn_15, cm_15, cu_16, cn_16, cm_16, cu_18, cu_20, cu_22, cu_9, cl_15, cl_16, cl_18, cl_20, cl_22, Option.bind_some, kl_0, kl_1, kl_2, kl_3, kl_4, kl_5, kl_6, kl_7, kl_8, kl_10, kl_13, kl_14, kl_15, kl_16, kl_24, kl_25, kl_26, kl_31, kl_32, kl_36, kl_40, kl_62, kl_99, kl_100, kl_255, kl_400, kl_992, kl_1023, kl_1024, kl_1984, kl_9200, kl_4600, kl_48, kl_57, kl_97, kl_122, kl_32767, nI_add, pk_mul, nI_leI]
  by_cases h1 : nI (t.1 6 c) ≤ nI (t.1 5 c)
  · simp only [h1, if_true, true_or]
    exact k37
  · by_cases h8 : 8 ≤ t.1 4 c
    · simp only [h1, h8, if_true, if_false, or_true]
      exact k37
    · have e4 : (sA t 7 c 0).1 4 c = t.1 4 c := by rw [sA_n (by decide)]
      simp (disch := first | assumption | omega | decide | with_unfolding_all exact hW) only [h1, h8, if_false, or_self, ↓km1, ↓cO_1b, ↓cO_2b, ↓cO_14b, ↓cO_17b, ↓cO_19b, ↓cO_21b, ↓cR_1_0b, ↓cR_1_1b, ↓cR_1_2b, ↓cR_1_3b, ↓cR_2_0b, ↓cR_2_1b, ↓cR_2_2b, ↓cR_2_3b, ↓cR_2_4b, ↓cR_2_5b, ↓cR_2_6b, ↓cR_2_7b, ↓cR_14_14b, ↓cR_14_15b, ↓cR_14_16b, ↓cR_14_17b, ↓cR_17_0b, ↓cR_19_0b, ↓cR_21_0b, ↓cA_11b, ↓cA_12b, ↓cg_1_4b, ↓cg_1_5b, ↓cg_1_6b, ↓cg_1_7b, ↓cg_14_0b, ↓cg_14_1b, ↓cg_14_2b, ↓cg_14_3b, ↓cg_14_4b, ↓cg_14_5b, ↓cg_14_6b, ↓cg_14_7b, ↓cg_14_8b, ↓cg_14_9b, ↓cg_14_10b, ↓cg_14_11b, ↓cg_14_12b, ↓cg_14_13b, ↓cg_17_1b, ↓cg_19_1b, ↓cg_21_1b, ↓ca_3b, ↓ca_4b, ↓ca_5b, ↓ca_6b, ↓ca_9b, ↓ca_15b, ↓ca_16b, ↓ca_18b, ↓ca_20b, ↓ca_22b, ↓ca_13b, ↓ca_7b, ↓ca_8b, ↓cp_1_4b, ↓cp_1_6b, ↓cp_1_7b, ↓cp_14_0b, ↓cp_14_2b, ↓cp_14_4b, ↓cp_14_5b, ↓cp_14_6b, ↓cp_14_7b, ↓cp_14_8b, ↓cp_14_9b, ↓cp_14_10b, ↓cp_14_11b, ↓cp_14_12b, ↓cp_14_13b, ↓cp_17_1b, ↓cp_19_1b, ↓cp_21_1b, ↓cu_4b, ↓cu_15b, ↓cn_15b, ↓cm_15b, ↓cu_16b, ↓cn_16b, ↓cm_16b, ↓cu_18b, ↓cu_20b, ↓cu_22b, ↓cu_9b, ↓cl_15b, ↓cl_16b, ↓cl_18b, ↓cl_20b, ↓cl_22b, ↓Option.bind_some, cO_1, cO_2, cO_14, cO_17, cO_19, cO_21, cR_1_0, cR_1_1, cR_1_2, cR_1_3, cR_2_0, cR_2_1, cR_2_2, cR_2_3, cR_2_4, cR_2_5, cR_2_6, cR_2_7, cR_14_14, cR_14_15, cR_14_16, cR_14_17, cR_17_0, cR_19_0, cR_21_0, cA_11, cA_12, cg_1_4, cg_1_5, cg_1_6, cg_1_7, cg_14_0, cg_14_1, cg_14_2, cg_14_3, cg_14_4, cg_14_5, cg_14_6, cg_14_7, cg_14_8, cg_14_9, cg_14_10, cg_14_11, cg_14_12, cg_14_13, cg_17_1, cg_19_1, cg_21_1, ca_3, ca_4, ca_5, ca_6, ca_9, ca_15, ca_16, ca_18, ca_20, ca_22, ca_13, ca_7, ca_8, cp_1_4, cp_1_6, cp_1_7, cp_14_0, cp_14_2, cp_14_4, cp_14_5, cp_14_6, cp_14_7, cp_14_8, cp_14_9, cp_14_10, cp_14_11, cp_14_12, cp_14_13, cp_17_1, cp_19_1, cp_21_1, cu_4, cu_15, cn_15, cm_15, cu_16, cn_16, cm_16, cu_18, cu_20, cu_22, cu_9, cl_15, cl_16, cl_18, cl_20, cl_22, Option.bind_some, kl_0, kl_1, kl_2, kl_3, kl_4, kl_5, kl_6, kl_7, kl_8, kl_10, kl_13, kl_14, kl_15, kl_16, kl_24, kl_25, kl_26, kl_31, kl_32, kl_36, kl_40, kl_62, kl_99, kl_100, kl_255, kl_400, kl_992, kl_1023, kl_1024, kl_1984, kl_9200, kl_4600, kl_48, kl_57, kl_97, kl_122, kl_32767, nI_add, pk_mul, e4]
      rfl
theorem D_beginInt {b : Nat} {t : xS} {Y : xMem} {c : Nat} (hW : XW Y) (hb : b < 3) (hi : c < 4) : fC_beginInterval (cM b t Y) (14, b, c) = some (cM b (sIn2 t c) Y) := by
  unfold fC_beginInterval sIn2
  simp (disch := first | assumption | omega | decide | with_unfolding_all exact hW) only [↓km1, ↓cO_1b, ↓cO_2b, ↓cO_14b, ↓cO_17b, ↓cO_19b, ↓cO_21b, ↓cR_1_0b, ↓cR_1_1b, ↓cR_1_2b, ↓cR_1_3b, ↓cR_2_0b, ↓cR_2_1b, ↓cR_2_2b, ↓cR_2_3b, ↓cR_2_4b, ↓cR_2_5b, ↓cR_2_6b, ↓cR_2_7b, ↓cR_14_14b, ↓cR_14_15b, ↓cR_14_16b, ↓cR_14_17b, ↓cR_17_0b, ↓cR_19_0b, ↓cR_21_0b, ↓cA_11b, ↓cA_12b, ↓cg_1_4b, ↓cg_1_5b, ↓cg_1_6b, ↓cg_1_7b, ↓cg_14_0b, ↓cg_14_1b, ↓cg_14_2b, ↓cg_14_3b, ↓cg_14_4b, ↓cg_14_5b, ↓cg_14_6b, ↓cg_14_7b, ↓cg_14_8b, ↓cg_14_9b, ↓cg_14_10b, ↓cg_14_11b, ↓cg_14_12b, ↓cg_14_13b, ↓cg_17_1b, ↓cg_19_1b, ↓cg_21_1b, ↓ca_3b, ↓ca_4b, ↓ca_5b, ↓ca_6b, ↓ca_9b, ↓ca_15b, ↓ca_16b, ↓ca_18b, ↓ca_20b, ↓ca_22b, ↓ca_13b, ↓ca_7b, ↓ca_8b, ↓cp_1_4b, ↓cp_1_6b, ↓cp_1_7b, ↓cp_14_0b, ↓cp_14_2b, ↓cp_14_4b, ↓cp_14_5b, ↓cp_14_6b, ↓cp_14_7b, ↓cp_14_8b, ↓cp_14_9b, ↓cp_14_10b, ↓cp_14_11b, ↓cp_14_12b, ↓cp_14_13b, ↓cp_17_1b, ↓cp_19_1b, ↓cp_21_1b, ↓cu_4b, ↓cu_15b, ↓cn_15b, ↓cm_15b, ↓cu_16b, ↓cn_16b, ↓cm_16b, ↓cu_18b, ↓cu_20b, ↓cu_22b, ↓cu_9b, ↓cl_15b, ↓cl_16b, ↓cl_18b, ↓cl_20b, ↓cl_22b, ↓Option.bind_some, cO_1, cO_2, cO_14, cO_17, cO_19, cO_21, cR_1_0, cR_1_1, cR_1_2, cR_1_3, cR_2_0, cR_2_1, cR_2_2, cR_2_3, cR_2_4, cR_2_5, cR_2_6, cR_2_7, cR_14_14, cR_14_15, cR_14_16, cR_14_17, cR_17_0, cR_19_0, cR_21_0, cA_11, cA_12, cg_1_4, cg_1_5, cg_1_6, cg_1_7, cg_14_0, cg_14_1, cg_14_2, cg_14_3, cg_14_4, cg_14_5, cg_14_6, cg_14_7, cg_14_8, cg_14_9, cg_14_10, cg_14_11, cg_14_12, cg_14_13, cg_17_1, cg_19_1, cg_21_1, ca_3, ca_4, ca_5, ca_6, ca_9, ca_15, ca_16, ca_18, ca_20, ca_22, ca_13, ca_7, ca_8, cp_1_4, cp_1_6, cp_1_7, cp_14_0, cp_14_2, cp_14_4, cp_14_5, cp_14_6, cp_14_7, cp_14_8, cp_14_9, cp_14_10, cp_14_11, cp_14_12, cp_14_13, cp_17_1, cp_19_1, cp_21_1, cu_4, cu_15, cn_15, cm_15, cu_16, cn_16, cm_16, cu_18, cu_20, cu_22, cu_9, cl_15, cl_16, cl_18, cl_20, cl_22, Option.bind_some, kl_0, kl_1, kl_2, kl_3, kl_4, kl_5, kl_6, kl_7, kl_8, kl_10, kl_13, kl_14, kl_15, kl_16, kl_24, kl_25, kl_26, kl_31, kl_32, kl_36, kl_40, kl_62, kl_99, kl_100, kl_255, kl_400, kl_992, kl_1023, kl_1024, kl_1984, kl_9200, kl_4600, kl_48, kl_57, kl_97, kl_122, kl_32767, nI_add, pk_mul, sA_n (show (22 : Nat) ≠ 6 by decide), sA_n (show (24 : Nat) ≠ 8 by decide), sA_n (show (24 : Nat) ≠ 6 by decide)]
theorem IQ.fo {s : xS} (h : IQ s) {c : Nat} (hc : c < s.1 19 0) : IQ (sFo s c).2 ∧ (sFo s c).2.1 19 = s.1 19 := by
  have h4 := h.1.r4 c hc
  have hu : IQ (sRz2 s c) := h.set (by simp)
  have eu : (sRz2 s c).1 19 = s.1 19 := by unfold sRz2; rw [sA_n (by decide)]
  unfold sFo
  generalize sRz2 s c = u at hu eu
  by_cases a1 : nI (s.1 6 c) ≤ nI (s.1 5 c) ∨ 8 ≤ s.1 4 c
  · rw [if_pos a1]
    by_cases a2 : 3 ≤ u.1 7 c
    · rw [if_pos a2]
      by_cases a3 : s.1 4 c = 1
      · rw [if_pos a3]
        refine ⟨hu.set (by simp), ?_⟩
        show (sA u 7 c 0).1 19 = _
        rw [sA_n (by decide), eu]
      · rw [if_neg a3]
        refine ⟨IQ.set4 (hu.set (by simp)) (by omega) (by omega), ?_⟩
        show (sA (sA u 7 c 0) 4 c _).1 19 = _
        rw [sA_n (by decide), sA_n (by decide), eu]
    · rw [if_neg a2]; exact ⟨hu, eu⟩
  · have h9 : ¬ 8 ≤ s.1 4 c := fun e => a1 (Or.inr e)
    rw [if_neg a1]
    refine ⟨IQ.set4 (h.set (by simp)) (by omega) (by omega), ?_⟩
    show (sA (sA s 7 c 0) 4 c _).1 19 = _
    rw [sA_n (by decide), sA_n (by decide)]
theorem D_endInterval {b : Nat} {t : xS} {Y : xMem} (hW : XW Y) (hb : b < 3) (hI : INV t) : fD_endInterval (cM b t Y) (1, b, 0) = some (nI (qMade t) - nI (qMade (sTick t)), cM b (sTick t) Y) := by
  have hn := hI.R.n
  have key : ∀ e i n u, i + e = t.1 19 0 → e < n → INV u → u.1 19 = t.1 19 → fD_endInterval_7 n (cM b u Y) (some (1, b, 0)) (nI (qMade t)) (nI i) = some (nI (qMade t) - nI (qMade (sInt u e i)), cM b (sA (sInt u e i) 19 1 ((sInt u e i).1 19 1 + 1)) Y) := by
    intro e
    induction e with
    | zero =>
      intro i n u hie hn' hIu hu
      obtain ⟨n, rfl⟩ : ∃ m, n = m + 1 := ⟨n - 1, by omega⟩
      have e19 := congrFun hu 0
      have h5 : t.1 19 0 ≤ i := by omega
      have eq : qMade (sA u 19 1 (u.1 19 1 + 1)) = qMade u := qMade_c (by decide)
      simp (disch := first | assumption | omega | decide | with_unfolding_all exact hW) only [fD_endInterval_7, fD_endInterval_75, ↓km1, ↓cO_1b, ↓cO_2b, ↓cO_14b, ↓cO_17b, ↓cO_19b, ↓cO_21b, ↓cR_1_0b, ↓cR_1_1b, ↓cR_1_2b, ↓cR_1_3b, ↓cR_2_0b, ↓cR_2_1b, ↓cR_2_2b, ↓cR_2_3b, ↓cR_2_4b, ↓cR_2_5b, ↓cR_2_6b, ↓cR_2_7b, ↓cR_14_14b, ↓cR_14_15b, ↓cR_14_16b, ↓cR_14_17b, ↓cR_17_0b, ↓cR_19_0b, ↓cR_21_0b, ↓cA_11b, ↓cA_12b, ↓cg_1_4b, ↓cg_1_5b, ↓cg_1_6b, ↓cg_1_7b, ↓cg_14_0b, ↓cg_14_1b, ↓cg_14_2b, ↓cg_14_3b, ↓cg_14_4b, ↓cg_14_5b, ↓cg_14_6b, ↓cg_14_7b, ↓cg_14_8b, ↓cg_14_9b, ↓cg_14_10b, ↓cg_14_11b, ↓cg_14_12b, ↓cg_14_13b, ↓cg_17_1b, ↓cg_19_1b, ↓cg_21_1b, ↓ca_3b, ↓ca_4b, ↓ca_5b, ↓ca_6b, ↓ca_9b, ↓ca_15b, ↓ca_16b, ↓ca_18b, ↓ca_20b, ↓ca_22b, ↓ca_13b, ↓ca_7b, ↓ca_8b, ↓cp_1_4b, ↓cp_1_6b, ↓cp_1_7b, ↓cp_14_0b, ↓cp_14_2b, ↓cp_14_4b, ↓cp_14_5b, ↓cp_14_6b, ↓cp_14_7b, ↓cp_14_8b, ↓cp_14_9b, ↓cp_14_10b, ↓cp_14_11b, ↓cp_14_12b, ↓cp_14_13b, ↓cp_17_1b, ↓cp_19_1b, ↓cp_21_1b, ↓cu_4b, ↓cu_15b, ↓cn_15b, ↓cm_15b, ↓cu_16b, ↓cn_16b, ↓cm_16b, ↓cu_18b, ↓cu_20b, ↓cu_22b, ↓cu_9b, ↓cl_15b, ↓cl_16b, ↓cl_18b, ↓cl_20b, ↓cl_22b, ↓Option.bind_some, cO_1, cO_2, cO_14, cO_17, cO_19, cO_21, cR_1_0, cR_1_1, cR_1_2, cR_1_3, cR_2_0, cR_2_1, cR_2_2, cR_2_3, cR_2_4, cR_2_5, cR_2_6, cR_2_7, cR_14_14, cR_14_15, cR_14_16, cR_14_17, cR_17_0, cR_19_0, cR_21_0, cA_11, cA_12, cg_1_4, cg_1_5, cg_1_6, cg_1_7, cg_14_0, cg_14_1, cg_14_2, cg_14_3, cg_14_4, cg_14_5, cg_14_6, cg_14_7, cg_14_8, cg_14_9, cg_14_10, cg_14_11, cg_14_12, cg_14_13, cg_17_1, cg_19_1, cg_21_1, ca_3, ca_4, ca_5, ca_6, ca_9, ca_15, ca_16, ca_18, ca_20, ca_22, ca_13, ca_7, ca_8, cp_1_4, cp_1_6, cp_1_7, cp_14_0, cp_14_2, cp_14_4, cp_14_5, cp_14_6, cp_14_7, cp_14_8, cp_14_9, cp_14_10, cp_14_11, cp_14_12, cp_14_13, cp_17_1, cp_19_1, cp_21_1, cu_4, cu_15, cn_15, cm_15, cu_16, cn_16, cm_16, cu_18, cu_20, cu_22, cu_9, cl_15, cl_16, cl_18, cl_20, cl_22, Option.bind_some, kl_0, kl_1, kl_2, kl_3, kl_4, kl_5, kl_6, kl_7, kl_8, kl_10, kl_13, kl_14, kl_15, kl_16, kl_24, kl_25, kl_26, kl_31, kl_32, kl_36, kl_40, kl_62, kl_99, kl_100, kl_255, kl_400, kl_992, kl_1023, kl_1024, kl_1984, kl_9200, kl_4600, kl_48, kl_57, kl_97, kl_122, kl_32767, nI_add, pk_mul, e19, nI_leI, h5, if_true, eq]
      rfl
    | succ e ih =>
      intro i n u hie hn' hIu hu
      obtain ⟨n, rfl⟩ : ∃ m, n = m + 1 := ⟨n - 1, by omega⟩
      have e19 := congrFun hu 0
      have h5 : ¬ t.1 19 0 ≤ i := by omega
      have h6 : ¬ 4 ≤ i := by omega
      have hi : i < 4 := by omega
      have hc : i < u.1 19 0 := by omega
      have hC := hIu.C hc
      have q1 := hIu.q.ufF (c := i) hc hC.2.2.1
      have a19 : (sUFF u i (u.1 8 i)).1 19 = u.1 19 := sUFF_1 (by decide) (by decide) (by decide) (by decide) (by decide) (by decide)
      have a24 : (sUFF u i (u.1 8 i)).1 24 = u.1 24 := sUFF_1 (by decide) (by decide) (by decide) (by decide) (by decide) (by decide)
      have a9 : (sUFF u i (u.1 8 i)).1 9 i = u.1 9 i := by rw [sUFF_1 (by decide) (by decide) (by decide) (by decide) (by decide) (by decide)]
      have hc1 : i < (sUFF u i (u.1 8 i)).1 19 0 := by rw [a19]; exact hc
      have q2 := q1.ufE (c := i) (n := u.1 9 i) hc1 (by rw [a24]; exact hC.2.2.2)
      have b19 : (sUFE (sUFF u i (u.1 8 i)) i (u.1 9 i)).1 19 = u.1 19 := by rw [sUFE_1 (by decide) (by decide) (by decide) (by decide) (by decide) (by decide), a19]
      have b7 : (sUFE (sUFF u i (u.1 8 i)) i (u.1 9 i)).1 7 i = u.1 7 i := by rw [sUFE_1 (by decide) (by decide) (by decide) (by decide) (by decide) (by decide), sUFF_1 (by decide) (by decide) (by decide) (by decide) (by decide) (by decide)]
      have b5 : (sUFE (sUFF u i (u.1 8 i)) i (u.1 9 i)).1 5 i = u.1 5 i := by rw [sUFE_1 (by decide) (by decide) (by decide) (by decide) (by decide) (by decide), sUFF_1 (by decide) (by decide) (by decide) (by decide) (by decide) (by decide)]
      have hc2 : i < (sUFE (sUFF u i (u.1 8 i)) i (u.1 9 i)).1 19 0 := by rw [b19]; exact hc
      have s1 := D_unFirstF (b := b) (Y := Y) hW hb hIu.q hc hC.2.2.1
      have s2 := D_unFirstE (b := b) (Y := Y) hW hb q1 (N := u.1 9 i) hc1 (by rw [a24]; exact hC.2.2.2)
      have s3 := D_follow (b := b) (Y := Y) (t := sUFE (sUFF u i (u.1 8 i)) i (u.1 9 i)) (c := i) hW hb hi (q2.1.r4 i hc2) (by rw [b7]; exact hC.2.1)
      have hrez := sFo_rez (t := sUFE (sUFF u i (u.1 8 i)) i (u.1 9 i)) (c := i) (by rw [b5]; exact hC.1)
      obtain ⟨q3, c19⟩ := q2.fo hc2
      have e1 : sIn1 u i = sRez (sUFE (sUFF u i (u.1 8 i)) i (u.1 9 i)) i := rfl
      have es : sInt u (e + 1) i = sInt (sIn2 (sIn1 u i) i) e (i + 1) := rfl
      have hin := hIu.in hc
      have hnx := ih (i + 1) n (sIn2 (sIn1 u i) i) (by omega) (by omega) hin (by rw [sIn2_19, sIn1_19]; exact hu)
      rw [es]
      rw [e1, hrez] at hnx ⊢
      simp (disch := first | assumption | omega | decide | with_unfolding_all exact hW) only [fD_endInterval_7, fD_endInterval_65, ↓km1, ↓cO_1b, ↓cO_2b, ↓cO_14b, ↓cO_17b, ↓cO_19b, ↓cO_21b, ↓cR_1_0b, ↓cR_1_1b, ↓cR_1_2b, ↓cR_1_3b, ↓cR_2_0b, ↓cR_2_1b, ↓cR_2_2b, ↓cR_2_3b, ↓cR_2_4b, ↓cR_2_5b, ↓cR_2_6b, ↓cR_2_7b, ↓cR_14_14b, ↓cR_14_15b, ↓cR_14_16b, ↓cR_14_17b, ↓cR_17_0b, ↓cR_19_0b, ↓cR_21_0b, ↓cA_11b, ↓cA_12b, ↓cg_1_4b, ↓cg_1_5b, ↓cg_1_6b, ↓cg_1_7b, ↓cg_14_0b, ↓cg_14_1b, ↓cg_14_2b, ↓cg_14_3b, ↓cg_14_4b, ↓cg_14_5b, ↓cg_14_6b, ↓cg_14_7b, ↓cg_14_8b, ↓cg_14_9b, ↓cg_14_10b, ↓cg_14_11b, ↓cg_14_12b, ↓cg_14_13b, ↓cg_17_1b, ↓cg_19_1b, ↓cg_21_1b, ↓ca_3b, ↓ca_4b, ↓ca_5b, ↓ca_6b, ↓ca_9b, ↓ca_15b, ↓ca_16b, ↓ca_18b, ↓ca_20b, ↓ca_22b, ↓ca_13b, ↓ca_7b, ↓ca_8b, ↓cp_1_4b, ↓cp_1_6b, ↓cp_1_7b, ↓cp_14_0b, ↓cp_14_2b, ↓cp_14_4b, ↓cp_14_5b, ↓cp_14_6b, ↓cp_14_7b, ↓cp_14_8b, ↓cp_14_9b, ↓cp_14_10b, ↓cp_14_11b, ↓cp_14_12b, ↓cp_14_13b, ↓cp_17_1b, ↓cp_19_1b, ↓cp_21_1b, ↓cu_4b, ↓cu_15b, ↓cn_15b, ↓cm_15b, ↓cu_16b, ↓cn_16b, ↓cm_16b, ↓cu_18b, ↓cu_20b, ↓cu_22b, ↓cu_9b, ↓cl_15b, ↓cl_16b, ↓cl_18b, ↓cl_20b, ↓cl_22b, ↓Option.bind_some, cO_1, cO_2, cO_14, cO_17, cO_19, cO_21, cR_1_0, cR_1_1, cR_1_2, cR_1_3, cR_2_0, cR_2_1, cR_2_2, cR_2_3, cR_2_4, cR_2_5, cR_2_6, cR_2_7, cR_14_14, cR_14_15, cR_14_16, cR_14_17, cR_17_0, cR_19_0, cR_21_0, cA_11, cA_12, cg_1_4, cg_1_5, cg_1_6, cg_1_7, cg_14_0, cg_14_1, cg_14_2, cg_14_3, cg_14_4, cg_14_5, cg_14_6, cg_14_7, cg_14_8, cg_14_9, cg_14_10, cg_14_11, cg_14_12, cg_14_13, cg_17_1, cg_19_1, cg_21_1, ca_3, ca_4, ca_5, ca_6, ca_9, ca_15, ca_16, ca_18, ca_20, ca_22, ca_13, ca_7, ca_8, cp_1_4, cp_1_6, cp_1_7, cp_14_0, cp_14_2, cp_14_4, cp_14_5, cp_14_6, cp_14_7, cp_14_8, cp_14_9, cp_14_10, cp_14_11, cp_14_12, cp_14_13, cp_17_1, cp_19_1, cp_21_1, cu_4, cu_15, cn_15, cm_15, cu_16, cn_16, cm_16, cu_18, cu_20, cu_22, cu_9, cl_15, cl_16, cl_18, cl_20, cl_22, Option.bind_some, kl_0, kl_1, kl_2, kl_3, kl_4, kl_5, kl_6, kl_7, kl_8, kl_10, kl_13, kl_14, kl_15, kl_16, kl_24, kl_25, kl_26, kl_31, kl_32, kl_36, kl_40, kl_62, kl_99, kl_100, kl_255, kl_400, kl_992, kl_1023, kl_1024, kl_1984, kl_9200, kl_4600, kl_48, kl_57, kl_97, kl_122, kl_32767, nI_add, pk_mul, e19, nI_leI, h5, h6, if_false, s1, a9, s2, s3, bI_0]
      generalize sFo (sUFE (sUFF u i (u.1 8 i)) i (u.1 9 i)) i = F at q3 c19 hnx ⊢
      obtain ⟨f, w⟩ := F
      dsimp only at q3 c19 hnx ⊢
      cases f with
      | false =>
        simp only [if_true, Bool.false_eq_true, if_false] at hnx ⊢
        rw [D_beginInt hW hb hi, Option.bind_some, hnx]
      | true =>
        simp only [if_true, Bool.true_eq_false, if_false] at hnx ⊢
        rw [D_unmakeAll hW hb q3 (by rw [c19]; exact hc2), Option.bind_some]
        simp (disch := first | assumption | omega | decide | with_unfolding_all exact hW) only [↓km1, ↓cO_1b, ↓cO_2b, ↓cO_14b, ↓cO_17b, ↓cO_19b, ↓cO_21b, ↓cR_1_0b, ↓cR_1_1b, ↓cR_1_2b, ↓cR_1_3b, ↓cR_2_0b, ↓cR_2_1b, ↓cR_2_2b, ↓cR_2_3b, ↓cR_2_4b, ↓cR_2_5b, ↓cR_2_6b, ↓cR_2_7b, ↓cR_14_14b, ↓cR_14_15b, ↓cR_14_16b, ↓cR_14_17b, ↓cR_17_0b, ↓cR_19_0b, ↓cR_21_0b, ↓cA_11b, ↓cA_12b, ↓cg_1_4b, ↓cg_1_5b, ↓cg_1_6b, ↓cg_1_7b, ↓cg_14_0b, ↓cg_14_1b, ↓cg_14_2b, ↓cg_14_3b, ↓cg_14_4b, ↓cg_14_5b, ↓cg_14_6b, ↓cg_14_7b, ↓cg_14_8b, ↓cg_14_9b, ↓cg_14_10b, ↓cg_14_11b, ↓cg_14_12b, ↓cg_14_13b, ↓cg_17_1b, ↓cg_19_1b, ↓cg_21_1b, ↓ca_3b, ↓ca_4b, ↓ca_5b, ↓ca_6b, ↓ca_9b, ↓ca_15b, ↓ca_16b, ↓ca_18b, ↓ca_20b, ↓ca_22b, ↓ca_13b, ↓ca_7b, ↓ca_8b, ↓cp_1_4b, ↓cp_1_6b, ↓cp_1_7b, ↓cp_14_0b, ↓cp_14_2b, ↓cp_14_4b, ↓cp_14_5b, ↓cp_14_6b, ↓cp_14_7b, ↓cp_14_8b, ↓cp_14_9b, ↓cp_14_10b, ↓cp_14_11b, ↓cp_14_12b, ↓cp_14_13b, ↓cp_17_1b, ↓cp_19_1b, ↓cp_21_1b, ↓cu_4b, ↓cu_15b, ↓cn_15b, ↓cm_15b, ↓cu_16b, ↓cn_16b, ↓cm_16b, ↓cu_18b, ↓cu_20b, ↓cu_22b, ↓cu_9b, ↓cl_15b, ↓cl_16b, ↓cl_18b, ↓cl_20b, ↓cl_22b, ↓Option.bind_some, cO_1, cO_2, cO_14, cO_17, cO_19, cO_21, cR_1_0, cR_1_1, cR_1_2, cR_1_3, cR_2_0, cR_2_1, cR_2_2, cR_2_3, cR_2_4, cR_2_5, cR_2_6, cR_2_7, cR_14_14, cR_14_15, cR_14_16, cR_14_17, cR_17_0, cR_19_0, cR_21_0, cA_11, cA_12, cg_1_4, cg_1_5, cg_1_6, cg_1_7, cg_14_0, cg_14_1, cg_14_2, cg_14_3, cg_14_4, cg_14_5, cg_14_6, cg_14_7, cg_14_8, cg_14_9, cg_14_10, cg_14_11, cg_14_12, cg_14_13, cg_17_1, cg_19_1, cg_21_1, ca_3, ca_4, ca_5, ca_6, ca_9, ca_15, ca_16, ca_18, ca_20, ca_22, ca_13, ca_7, ca_8, cp_1_4, cp_1_6, cp_1_7, cp_14_0, cp_14_2, cp_14_4, cp_14_5, cp_14_6, cp_14_7, cp_14_8, cp_14_9, cp_14_10, cp_14_11, cp_14_12, cp_14_13, cp_17_1, cp_19_1, cp_21_1, cu_4, cu_15, cn_15, cm_15, cu_16, cn_16, cm_16, cu_18, cu_20, cu_22, cu_9, cl_15, cl_16, cl_18, cl_20, cl_22, Option.bind_some, kl_0, kl_1, kl_2, kl_3, kl_4, kl_5, kl_6, kl_7, kl_8, kl_10, kl_13, kl_14, kl_15, kl_16, kl_24, kl_25, kl_26, kl_31, kl_32, kl_36, kl_40, kl_62, kl_99, kl_100, kl_255, kl_400, kl_992, kl_1023, kl_1024, kl_1984, kl_9200, kl_4600, kl_48, kl_57, kl_97, kl_122, kl_32767, nI_add, pk_mul, D_beginInt]
        rw [hnx]
  unfold fD_endInterval
  simp (disch := first | assumption | omega | decide | with_unfolding_all exact hW) only [cg_1_5b]
  rw [kl_0, key (t.1 19 0) 0 xF t (by omega) (by unfold xF; omega) hI rfl, ← sTick_eq]
  have : qMade (sTick t) = qMade (sInt t (t.1 19 0) 0) := by rw [sTick_eq]; exact qMade_c (by decide)
  rw [this]
/-- drains -/
theorem D_unmakeOf {b : Nat} {t : xS} {Y : xMem} {c p : Nat} (hW : XW Y) (hb : b < 3) (hI : INV t) (hc : c < t.1 19 0) (hp : p < 4) : fD_unmakeOf (cM b t Y) (1, b, 0) (some (14, b, c)) (nI p) = some (cM b (sDr t (4 * c + p)) Y) := by
  have hn := hI.R.n
  have hi : c < 4 := by omega
  have hq := hI.q
  have hk := hq.kind hc
  have r0 := ref_0 hc hp
  have r1 := ref_1 hc hp
  have u0 := INV.um hq (P := (0, c, p))
  have u1 := INV.um hq (P := (1, c, p))
  rw [r0] at u0
  rw [r1] at u1
  have u2 : UM (sEmp t (t.1 15 (4 * c + p))) c (t.1 16 (4 * c + p)) := UM_emp u1 (fun h24 e => by
    have := hI.J (P := (1, c, p)) (Q := (0, c, p)) (by rw [r1]; exact h24) (by rw [r0, r1]; exact e)
    simp at this)
  have s1 := D_unmake (b := b) (Y := Y) hW hb hi hk u0
  have s2 := D_unmake (b := b) (Y := Y) (t := sEmp t (t.1 15 (4 * c + p))) hW hb hi (by rw [sEmp_1 (by decide) (by decide) (by decide) (by decide)]; exact hk) u2
  have e16 : (sEmp t (t.1 15 (4 * c + p))).1 16 = t.1 16 := sEmp_1 (by decide) (by decide) (by decide) (by decide)
  unfold fD_unmakeOf sDr
  simp (disch := first | assumption | omega | decide | with_unfolding_all exact hW) only [isP_n, Option.bind_some, bI_0, Bool.true_eq_false, if_false, kl_0, kl_1, kl_2, kl_3, kl_4, kl_5, kl_6, kl_7, kl_8, kl_10, kl_13, kl_14, kl_15, kl_16, kl_24, kl_25, kl_26, kl_31, kl_32, kl_36, kl_40, kl_62, kl_99, kl_100, kl_255, kl_400, kl_992, kl_1023, kl_1024, kl_1984, kl_9200, kl_4600, kl_48, kl_57, kl_97, kl_122, kl_32767, ↓km1, ↓cO_1b, ↓cO_2b, ↓cO_14b, ↓cO_17b, ↓cO_19b, ↓cO_21b, ↓cR_1_0b, ↓cR_1_1b, ↓cR_1_2b, ↓cR_1_3b, ↓cR_2_0b, ↓cR_2_1b, ↓cR_2_2b, ↓cR_2_3b, ↓cR_2_4b, ↓cR_2_5b, ↓cR_2_6b, ↓cR_2_7b, ↓cR_14_14b, ↓cR_14_15b, ↓cR_14_16b, ↓cR_14_17b, ↓cR_17_0b, ↓cR_19_0b, ↓cR_21_0b, ↓cA_11b, ↓cA_12b, ↓cg_1_4b, ↓cg_1_5b, ↓cg_1_6b, ↓cg_1_7b, ↓cg_14_0b, ↓cg_14_1b, ↓cg_14_2b, ↓cg_14_3b, ↓cg_14_4b, ↓cg_14_5b, ↓cg_14_6b, ↓cg_14_7b, ↓cg_14_8b, ↓cg_14_9b, ↓cg_14_10b, ↓cg_14_11b, ↓cg_14_12b, ↓cg_14_13b, ↓cg_17_1b, ↓cg_19_1b, ↓cg_21_1b, ↓ca_3b, ↓ca_4b, ↓ca_5b, ↓ca_6b, ↓ca_9b, ↓ca_15b, ↓ca_16b, ↓ca_18b, ↓ca_20b, ↓ca_22b, ↓ca_13b, ↓ca_7b, ↓ca_8b, ↓cp_1_4b, ↓cp_1_6b, ↓cp_1_7b, ↓cp_14_0b, ↓cp_14_2b, ↓cp_14_4b, ↓cp_14_5b, ↓cp_14_6b, ↓cp_14_7b, ↓cp_14_8b, ↓cp_14_9b, ↓cp_14_10b, ↓cp_14_11b, ↓cp_14_12b, ↓cp_14_13b, ↓cp_17_1b, ↓cp_19_1b, ↓cp_21_1b, ↓cu_4b, ↓cu_15b, ↓cn_15b, ↓cm_15b, ↓cu_16b, ↓cn_16b, ↓cm_16b, ↓cu_18b, ↓cu_20b, ↓cu_22b, ↓cu_9b, ↓cl_15b, ↓cl_16b, ↓cl_18b, ↓cl_20b, ↓cl_22b, ↓Option.bind_some, cO_1, cO_2, cO_14, cO_17, cO_19, cO_21, cR_1_0, cR_1_1, cR_1_2, cR_1_3, cR_2_0, cR_2_1, cR_2_2, cR_2_3, cR_2_4, cR_2_5, cR_2_6, cR_2_7, cR_14_14, cR_14_15, cR_14_16, cR_14_17, cR_17_0, cR_19_0, cR_21_0, cA_11, cA_12, cg_1_4, cg_1_5, cg_1_6, cg_1_7, cg_14_0, cg_14_1, cg_14_2, cg_14_3, cg_14_4, cg_14_5, cg_14_6, cg_14_7, cg_14_8, cg_14_9, cg_14_10, cg_14_11, cg_14_12, cg_14_13, cg_17_1, cg_19_1, cg_21_1, ca_3, ca_4, ca_5, ca_6, ca_9, ca_15, ca_16, ca_18, ca_20, ca_22, ca_13, ca_7, ca_8, cp_1_4, cp_1_6, cp_1_7, cp_14_0, cp_14_2, cp_14_4, cp_14_5, cp_14_6, cp_14_7, cp_14_8, cp_14_9, cp_14_10, cp_14_11, cp_14_12, cp_14_13, cp_17_1, cp_19_1, cp_21_1, cu_4, cu_15, cn_15, cm_15, cu_16, cn_16, cm_16, cu_18, cu_20, cu_22, cu_9, cl_15, cl_16, cl_18, cl_20, cl_22, Option.bind_some, kl_0, kl_1, kl_2, kl_3, kl_4, kl_5, kl_6, kl_7, kl_8, kl_10, kl_13, kl_14, kl_15, kl_16, kl_24, kl_25, kl_26, kl_31, kl_32, kl_36, kl_40, kl_62, kl_99, kl_100, kl_255, kl_400, kl_992, kl_1023, kl_1024, kl_1984, kl_9200, kl_4600, kl_48, kl_57, kl_97, kl_122, kl_32767, nI_add, pk_mul, s1, e16, s2]
theorem sEmp_12 {s : xS} {c m : Nat} (hU : UM s c m) : (sEmp s m).1 12 c = s.1 12 c + qLen s m := by
  unfold sEmp qLen
  split
  next hm =>
    have hr := (hU hm).2.2
    have key : ∀ d k u, k + d ≤ s.1 20 m → u.1 13 = s.1 13 → u.1 21 = s.1 21 → (sEmL u m d k).1 12 c = u.1 12 c + d := by
      intro d
      induction d with
      | zero => intro k u _ _ _; rfl
      | succ d ih =>
        intro k u hk h13 h21
        have e1 : sEmL u m (d + 1) k = sEmL (sEnd u (u.1 21 (8 * m + k))) m d (k + 1) := rfl
        rw [e1, ih (k + 1) _ (by omega) (by rw [sEnd_1 (by decide) (by decide)]; exact h13) (by rw [sEnd_1 (by decide) (by decide)]; exact h21), sEnd_12, h13, h21, (hr k (by omega)).2.1, if_pos rfl]
        omega
    rw [sA_n (by decide), sA_n (by decide), key _ _ _ (by omega) rfl rfl]
  next => rfl
/-- all unmade, ROUNDS told -/
def sAn1 (s : xS) (c r : Nat) : xS := sA (sA (sA (sUA s c) 4 c r) 8 c 0) 9 c 0
def sAnew (s : xS) (r : Nat) : Nat → Nat → xS
  | 0, _ => s
  | d + 1, c => sAnew (sAn1 s c r) r d (c + 1)
theorem sAn1_19 {s : xS} {c r : Nat} : (sAn1 s c r).1 19 = s.1 19 := by
  unfold sAn1
  rw [sA_n (by decide), sA_n (by decide), sA_n (by decide), sUA_1 (by decide) (by decide) (by decide) (by decide) (by decide) (by decide) (by decide) (by decide) (by decide) (by decide)]
theorem INV.an1 {s : xS} (h : INV s) {c r : Nat} (hc : c < s.1 19 0) (h1 : 1 ≤ r) (h8 : r ≤ 8) : INV (sAn1 s c r) := by
  have hq : IQ (sAn1 s c r) := (((h.q.ua hc).set4 h1 h8).set (by simp)).set (by simp)
  refine hq.inv (fun c' hc' => ?_)
  rw [sAn1_19] at hc'
  have hC := h.C hc'
  have e : ∀ q, q ≠ 4 → q ≠ 8 → q ≠ 9 → (sAn1 s c r).1 q = (sUA s c).1 q := fun q a1 a2 a3 => by unfold sAn1; rw [sA_n a3, sA_n a2, sA_n a1]
  have eu : ∀ q, q = 5 ∨ q = 7 ∨ q = 8 ∨ q = 9 → (sUA s c).1 q = s.1 q := fun q hq => sUA_1 (by omega) (by omega) (by omega) (by omega) (by omega) (by omega) (by omega) (by omega) (by omega) (by omega)
  have e8 : (sAn1 s c r).1 8 c' = if c' = c then 0 else s.1 8 c' := by
    unfold sAn1
    rw [sA_n (by decide), sA_1, sA_n (by decide), eu 8 (by simp)]
    by_cases h : c' = c
    · rw [if_pos ⟨rfl, h⟩, if_pos h]
    · rw [if_neg (fun e => h e.2), if_neg h]
  have e9 : (sAn1 s c r).1 9 c' = if c' = c then 0 else s.1 9 c' := by
    unfold sAn1
    rw [sA_1, sA_n (by decide), sA_n (by decide), eu 9 (by simp)]
    by_cases h : c' = c
    · rw [if_pos ⟨rfl, h⟩, if_pos h]
    · rw [if_neg (fun e => h e.2), if_neg h]
  rw [e 5 (by decide) (by decide) (by decide), eu 5 (by simp), e 7 (by decide) (by decide) (by decide), eu 7 (by simp), e8, e9, e 22 (by decide) (by decide) (by decide), e 24 (by decide) (by decide) (by decide), sUA_22, sUA_24]
  by_cases hcc : c' = c
  · rw [if_pos hcc, if_pos hcc, if_pos hcc, if_pos hcc]; exact ⟨hC.1, hC.2.1, Nat.zero_le _, Nat.zero_le _⟩
  · rw [if_neg hcc, if_neg hcc, if_neg hcc, if_neg hcc]; exact hC
theorem INV.anew {r : Nat} (h1 : 1 ≤ r) (h8 : r ≤ 8) : ∀ {d c : Nat} {s : xS}, INV s → c + d ≤ s.1 19 0 → INV (sAnew s r d c) := by
  intro d
  induction d with
  | zero => intro c s h _; exact h
  | succ d ih =>
    intro c s h hc
    unfold sAnew
    exact ih (h.an1 (by omega) h1 h8) (by rw [sAn1_19]; omega)
theorem EQs.anew {r : Nat} (h1 : 1 ≤ r) (h8 : r ≤ 8) : ∀ {d c : Nat} {s t : xS}, EQs s t → INV s → c + d ≤ s.1 19 0 → EQs (sAnew s r d c) (sAnew t r d c) := by
  intro d
  induction d with
  | zero => intro c s t h _ _; exact h
  | succ d ih =>
    intro c s t h hI hc
    unfold sAnew
    refine ih ?_ (hI.an1 (by omega) h1 h8) (by rw [sAn1_19]; omega)
    unfold sAn1
    exact (((h.ua hI.R (c := c) (by omega)).set (by simp) (by decide) (by decide) (by decide)).set (by simp) (by decide) (by decide) (by decide)).set (by simp) (by decide) (by decide) (by decide)
theorem D_startAnew {b : Nat} {t : xS} {Y : xMem} {r : Nat} (hW : XW Y) (hb : b < 3) (hI : INV t) (h1 : 1 ≤ r) (h8 : r ≤ 8) : fD_startAnew (cM b t Y) (1, b, 0) (nI r) = some (cM b (sAnew t r (t.1 19 0) 0) Y) := by
  have hn := hI.R.n
  have key : ∀ e i n u, i + e = t.1 19 0 → e < n → INV u → u.1 19 = t.1 19 → fD_startAnew_2 n (cM b u Y) (some (1, b, 0)) (nI r) (nI i) = some (cM b (sAnew u r e i) Y) := by
    intro e
    induction e with
    | zero =>
      intro i n u hie hn' hIu hu
      obtain ⟨n, rfl⟩ : ∃ m, n = m + 1 := ⟨n - 1, by omega⟩
      have e19 := congrFun hu 0
      have h5 : t.1 19 0 ≤ i := by omega
      simp (disch := first | assumption | omega | decide | with_unfolding_all exact hW) only [fD_startAnew_2, ↓km1, ↓cO_1b, ↓cO_2b, ↓cO_14b, ↓cO_17b, ↓cO_19b, ↓cO_21b, ↓cR_1_0b, ↓cR_1_1b, ↓cR_1_2b, ↓cR_1_3b, ↓cR_2_0b, ↓cR_2_1b, ↓cR_2_2b, ↓cR_2_3b, ↓cR_2_4b, ↓cR_2_5b, ↓cR_2_6b, ↓cR_2_7b, ↓cR_14_14b, ↓cR_14_15b, ↓cR_14_16b, ↓cR_14_17b, ↓cR_17_0b, ↓cR_19_0b, ↓cR_21_0b, ↓cA_11b, ↓cA_12b, ↓cg_1_4b, ↓cg_1_5b, ↓cg_1_6b, ↓cg_1_7b, ↓cg_14_0b, ↓cg_14_1b, ↓cg_14_2b, ↓cg_14_3b, ↓cg_14_4b, ↓cg_14_5b, ↓cg_14_6b, ↓cg_14_7b, ↓cg_14_8b, ↓cg_14_9b, ↓cg_14_10b, ↓cg_14_11b, ↓cg_14_12b, ↓cg_14_13b, ↓cg_17_1b, ↓cg_19_1b, ↓cg_21_1b, ↓ca_3b, ↓ca_4b, ↓ca_5b, ↓ca_6b, ↓ca_9b, ↓ca_15b, ↓ca_16b, ↓ca_18b, ↓ca_20b, ↓ca_22b, ↓ca_13b, ↓ca_7b, ↓ca_8b, ↓cp_1_4b, ↓cp_1_6b, ↓cp_1_7b, ↓cp_14_0b, ↓cp_14_2b, ↓cp_14_4b, ↓cp_14_5b, ↓cp_14_6b, ↓cp_14_7b, ↓cp_14_8b, ↓cp_14_9b, ↓cp_14_10b, ↓cp_14_11b, ↓cp_14_12b, ↓cp_14_13b, ↓cp_17_1b, ↓cp_19_1b, ↓cp_21_1b, ↓cu_4b, ↓cu_15b, ↓cn_15b, ↓cm_15b, ↓cu_16b, ↓cn_16b, ↓cm_16b, ↓cu_18b, ↓cu_20b, ↓cu_22b, ↓cu_9b, ↓cl_15b, ↓cl_16b, ↓cl_18b, ↓cl_20b, ↓cl_22b, ↓Option.bind_some, cO_1, cO_2, cO_14, cO_17, cO_19, cO_21, cR_1_0, cR_1_1, cR_1_2, cR_1_3, cR_2_0, cR_2_1, cR_2_2, cR_2_3, cR_2_4, cR_2_5, cR_2_6, cR_2_7, cR_14_14, cR_14_15, cR_14_16, cR_14_17, cR_17_0, cR_19_0, cR_21_0, cA_11, cA_12, cg_1_4, cg_1_5, cg_1_6, cg_1_7, cg_14_0, cg_14_1, cg_14_2, cg_14_3, cg_14_4, cg_14_5, cg_14_6, cg_14_7, cg_14_8, cg_14_9, cg_14_10, cg_14_11, cg_14_12, cg_14_13, cg_17_1, cg_19_1, cg_21_1, ca_3, ca_4, ca_5, ca_6, ca_9, ca_15, ca_16, ca_18, ca_20, ca_22, ca_13, ca_7, ca_8, cp_1_4, cp_1_6, cp_1_7, cp_14_0, cp_14_2, cp_14_4, cp_14_5, cp_14_6, cp_14_7, cp_14_8, cp_14_9, cp_14_10, cp_14_11, cp_14_12, cp_14_13, cp_17_1, cp_19_1, cp_21_1, cu_4, cu_15, cn_15, cm_15, cu_16, cn_16, cm_16, cu_18, cu_20, cu_22, cu_9, cl_15, cl_16, cl_18, cl_20, cl_22, Option.bind_some, kl_0, kl_1, kl_2, kl_3, kl_4, kl_5, kl_6, kl_7, kl_8, kl_10, kl_13, kl_14, kl_15, kl_16, kl_24, kl_25, kl_26, kl_31, kl_32, kl_36, kl_40, kl_62, kl_99, kl_100, kl_255, kl_400, kl_992, kl_1023, kl_1024, kl_1984, kl_9200, kl_4600, kl_48, kl_57, kl_97, kl_122, kl_32767, nI_add, pk_mul, e19, nI_leI, h5, if_true]
      rfl
    | succ e ih =>
      intro i n u hie hn' hIu hu
      obtain ⟨n, rfl⟩ : ∃ m, n = m + 1 := ⟨n - 1, by omega⟩
      have e19 := congrFun hu 0
      have h5 : ¬ t.1 19 0 ≤ i := by omega
      have h6 : ¬ 4 ≤ i := by omega
      have hi : i < 4 := by omega
      have hc : i < u.1 19 0 := by omega
      have s1 := D_unmakeAll (b := b) (Y := Y) hW hb hIu.q hc
      simp (disch := first | assumption | omega | decide | with_unfolding_all exact hW) only [fD_startAnew_2, ↓km1, ↓cO_1b, ↓cO_2b, ↓cO_14b, ↓cO_17b, ↓cO_19b, ↓cO_21b, ↓cR_1_0b, ↓cR_1_1b, ↓cR_1_2b, ↓cR_1_3b, ↓cR_2_0b, ↓cR_2_1b, ↓cR_2_2b, ↓cR_2_3b, ↓cR_2_4b, ↓cR_2_5b, ↓cR_2_6b, ↓cR_2_7b, ↓cR_14_14b, ↓cR_14_15b, ↓cR_14_16b, ↓cR_14_17b, ↓cR_17_0b, ↓cR_19_0b, ↓cR_21_0b, ↓cA_11b, ↓cA_12b, ↓cg_1_4b, ↓cg_1_5b, ↓cg_1_6b, ↓cg_1_7b, ↓cg_14_0b, ↓cg_14_1b, ↓cg_14_2b, ↓cg_14_3b, ↓cg_14_4b, ↓cg_14_5b, ↓cg_14_6b, ↓cg_14_7b, ↓cg_14_8b, ↓cg_14_9b, ↓cg_14_10b, ↓cg_14_11b, ↓cg_14_12b, ↓cg_14_13b, ↓cg_17_1b, ↓cg_19_1b, ↓cg_21_1b, ↓ca_3b, ↓ca_4b, ↓ca_5b, ↓ca_6b, ↓ca_9b, ↓ca_15b, ↓ca_16b, ↓ca_18b, ↓ca_20b, ↓ca_22b, ↓ca_13b, ↓ca_7b, ↓ca_8b, ↓cp_1_4b, ↓cp_1_6b, ↓cp_1_7b, ↓cp_14_0b, ↓cp_14_2b, ↓cp_14_4b, ↓cp_14_5b, ↓cp_14_6b, ↓cp_14_7b, ↓cp_14_8b, ↓cp_14_9b, ↓cp_14_10b, ↓cp_14_11b, ↓cp_14_12b, ↓cp_14_13b, ↓cp_17_1b, ↓cp_19_1b, ↓cp_21_1b, ↓cu_4b, ↓cu_15b, ↓cn_15b, ↓cm_15b, ↓cu_16b, ↓cn_16b, ↓cm_16b, ↓cu_18b, ↓cu_20b, ↓cu_22b, ↓cu_9b, ↓cl_15b, ↓cl_16b, ↓cl_18b, ↓cl_20b, ↓cl_22b, ↓Option.bind_some, cO_1, cO_2, cO_14, cO_17, cO_19, cO_21, cR_1_0, cR_1_1, cR_1_2, cR_1_3, cR_2_0, cR_2_1, cR_2_2, cR_2_3, cR_2_4, cR_2_5, cR_2_6, cR_2_7, cR_14_14, cR_14_15, cR_14_16, cR_14_17, cR_17_0, cR_19_0, cR_21_0, cA_11, cA_12, cg_1_4, cg_1_5, cg_1_6, cg_1_7, cg_14_0, cg_14_1, cg_14_2, cg_14_3, cg_14_4, cg_14_5, cg_14_6, cg_14_7, cg_14_8, cg_14_9, cg_14_10, cg_14_11, cg_14_12, cg_14_13, cg_17_1, cg_19_1, cg_21_1, ca_3, ca_4, ca_5, ca_6, ca_9, ca_15, ca_16, ca_18, ca_20, ca_22, ca_13, ca_7, ca_8, cp_1_4, cp_1_6, cp_1_7, cp_14_0, cp_14_2, cp_14_4, cp_14_5, cp_14_6, cp_14_7, cp_14_8, cp_14_9, cp_14_10, cp_14_11, cp_14_12, cp_14_13, cp_17_1, cp_19_1, cp_21_1, cu_4, cu_15, cn_15, cm_15, cu_16, cn_16, cm_16, cu_18, cu_20, cu_22, cu_9, cl_15, cl_16, cl_18, cl_20, cl_22, Option.bind_some, kl_0, kl_1, kl_2, kl_3, kl_4, kl_5, kl_6, kl_7, kl_8, kl_10, kl_13, kl_14, kl_15, kl_16, kl_24, kl_25, kl_26, kl_31, kl_32, kl_36, kl_40, kl_62, kl_99, kl_100, kl_255, kl_400, kl_992, kl_1023, kl_1024, kl_1984, kl_9200, kl_4600, kl_48, kl_57, kl_97, kl_122, kl_32767, nI_add, pk_mul, e19, nI_leI, h5, h6, if_false, s1]
      exact ih (i + 1) n (sAn1 u i r) (by omega) (by omega) (hIu.an1 hc h1 h8) (by rw [sAn1_19]; exact hu)
  unfold fD_startAnew
  rw [kl_0, key (t.1 19 0) 0 xF t (by omega) (by unfold xF; omega) hI rfl]
