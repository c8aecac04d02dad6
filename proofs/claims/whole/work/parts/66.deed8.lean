/-! a new cache -/
def sNew1 (t : xS) (c a : Nat) : xS := sA t 1 c a
theorem sNew1_per {t : xS} {c a i : Nat} : qPer (sA t 1 c a) i = if i = c then 992 / a else qPer t i := by
  unfold qPer
  rw [sA_1]
  by_cases h : i = c
  · rw [if_pos ⟨rfl, h⟩, if_pos h]
  · rw [if_neg (fun e => h e.2), if_neg h]
theorem sNew1_pers {t : xS} {c a p : Nat} (h : t.1 13 p ≠ c) : qPers (sA t 1 c a) p = qPers t p := by
  unfold qPers
  rw [sA_n (by decide), sNew1_per, if_neg h]
theorem sNew1_sz {t : xS} {c a p : Nat} (h : t.1 13 p ≠ c) : qSz (sA t 1 c a) p = qSz t p := by
  unfold qSz
  rw [sA_n (show (13 : Nat) ≠ 1 by decide), sA_n (show (26 : Nat) ≠ 1 by decide)]
  have e : (sA t 1 c a).1 1 (t.1 13 p) = t.1 1 (t.1 13 p) := by rw [sA_1, if_neg (fun e => h e.2)]
  rw [e]
theorem cM_size {b : Nat} {t : xS} {Y : xMem} {c a : Nat} (hc : c < 4) (hp : ∀ p, p < 32 → t.1 13 p ≠ c) :
    xsi (xsi (cM b t Y) (14, b, c) 1 (nI a)) (14, b, c) 3 (nI (992 / a)) = cM b (sA t 1 c a) Y := by
  have hT1 : cT 14 c 1 = some (1, c, 0) := if_pos ⟨hc, by decide, by decide⟩
  have same : ∀ κ i k, ¬ (κ = 14 ∧ i = c ∧ (k = 1 ∨ k = 3)) → cI (sA t 1 c a) κ i k = cI t κ i k := fun κ i k h1 => by
    refine cI_agree (fun q j e h => ?_) (fun _ => ?_)
    · have h2 := cT_V h
      rw [sA_1, if_neg]
      rintro ⟨rfl, rfl⟩
      rw [cT_V hT1] at h2
      simp only [Prod.mk.injEq] at h2
      exact h1 ⟨h2.1.symm, h2.2.1.symm, Or.inl h2.2.2.symm⟩
    · have hm : qMade (sA t 1 c a) = qMade t := by unfold qMade; rw [sA_n (by decide)]
      unfold cD
      rw [hm]
      split
      · rfl
      · by_cases h3 : i = 0 ∧ k < 32
        · rw [if_pos h3, if_pos h3, sNew1_sz (hp k h3.2)]
        · rw [if_neg h3, if_neg h3]
      · by_cases h3 : i = 0 ∧ k < 32
        · rw [if_pos h3, if_pos h3, sNew1_pers (hp k h3.2)]
        · rw [if_neg h3, if_neg h3]
      · rfl
      · by_cases h3 : i < 4 ∧ k = 3
        · rw [if_pos h3, if_pos h3, sNew1_per, if_neg (fun e => h1 ⟨rfl, e, Or.inr h3.2⟩)]
        · rw [if_neg h3, if_neg h3]
      · rfl
  have sameL : ∀ κ i k, cL (sA t 1 c a) κ i k = cL t κ i k := fun κ i k => by
    have key : ∀ u, k < 32 → msk (fB (sA t 1 c a) u k) 62 = msk (fB t u k) 62 := fun u hk => msk_cong (fun j hj => by
      unfold fB
      rw [sNew1_pers (hp k hk), sA_n (by decide)])
    unfold cL
    split
    · by_cases h3 : i = 0 ∧ k < 32
      · rw [if_pos h3, if_pos h3, key 0 h3.2]
      · rw [if_neg h3, if_neg h3]
    · by_cases h3 : i = 0 ∧ k < 32
      · rw [if_pos h3, if_pos h3, key 1 h3.2]
      · rw [if_neg h3, if_neg h3]
    all_goals rfl
  have v1 : cI (sA t 1 c a) 14 c 1 = some (nI a) := by
    rw [cI_T hT1, sA_1, if_pos ⟨rfl, rfl⟩]; rfl
  have v3 : cI (sA t 1 c a) 14 c 3 = some (nI (992 / a)) := by
    have hN : cT 14 c 3 = none := if_neg (fun e => e.2.2 rfl)
    rw [cI_D hN]
    show (if c < 4 ∧ 3 = 3 then some (nI (qPer (sA t 1 c a) c)) else none) = _
    rw [if_pos ⟨hc, rfl⟩, sNew1_per, if_pos rfl]
  have inj : ∀ {κ b' i k n : Nat}, ((κ, b', i) = (14, b, c) ∧ k = n) → κ = 14 ∧ b' = b ∧ i = c ∧ k = n := fun e => ⟨(Prod.mk.inj e.1).1, (Prod.mk.inj (Prod.mk.inj e.1).2).1, (Prod.mk.inj (Prod.mk.inj e.1).2).2, e.2⟩
  refine cM_ext (fun κ i k w h => ?_) (fun κ b' i k h => ?_) (fun κ i k w h => ?_) (fun κ b' i k h => ?_) rfl
  · rw [xsi_1, xsi_1]
    by_cases a3 : κ = 14 ∧ i = c ∧ k = 3
    · obtain ⟨rfl, rfl, rfl⟩ := a3
      rw [if_pos ⟨rfl, rfl⟩]; exact Option.some.inj (v3.symm.trans h)
    · rw [if_neg (fun e => a3 ⟨(inj e).1, (inj e).2.2⟩)]
      by_cases a1 : κ = 14 ∧ i = c ∧ k = 1
      · obtain ⟨rfl, rfl, rfl⟩ := a1
        rw [if_pos ⟨rfl, rfl⟩]; exact Option.some.inj (v1.symm.trans h)
      · rw [if_neg (fun e => a1 ⟨(inj e).1, (inj e).2.2⟩)]
        rw [same κ i k (by
          rintro ⟨e1, e2, rfl | rfl⟩
          · exact a1 ⟨e1, e2, rfl⟩
          · exact a3 ⟨e1, e2, rfl⟩)] at h
        exact cM_r h
  · have hne : ∀ n, (n = 1 ∨ n = 3) → ¬ ((κ, b', i) = (14, b, c) ∧ k = n) := by
      intro n hn e
      obtain ⟨rfl, rfl, rfl, rfl⟩ := inj e
      rcases h with h | h
      · exact h rfl
      · rcases hn with rfl | rfl
        · rw [v1] at h; cases h
        · rw [v3] at h; cases h
    rw [xsi_1, xsi_1, if_neg (hne 3 (by simp)), if_neg (hne 1 (by simp))]
    rcases h with h | h
    · exact cM_o (Or.inl h)
    · refine cM_o (Or.inr ?_)
      have := cI_dom (t := sA t 1 c a) (t' := t) (κ := κ) (i := i) (k := k)
      rw [h] at this
      cases hq : cI t κ i k with
      | none => rfl
      | some w => rw [hq] at this; cases this
  · rw [sameL κ i k] at h
    exact cM_rL h
  · rw [sameL κ i k] at h
    exact cM_oL h
theorem xsi_swap {M : xMem} {a : xId} {j k : Nat} {v w : Int32} (h : j ≠ k) : xsi (xsi M a j v) a k w = xsi (xsi M a k w) a j v := by
  refine Prod.ext ?_ rfl
  funext x y
  rw [xsi_1, xsi_1, xsi_1, xsi_1]
  by_cases h1 : x = a ∧ y = k
  · rw [if_pos h1, if_neg (fun e => h (e.2.symm.trans h1.2)), if_pos h1]
  · rw [if_neg h1]
    by_cases h2 : x = a ∧ y = j
    · rw [if_pos h2, if_pos h2]
    · rw [if_neg h2, if_neg h2, if_neg h1]
def sB3 (t : xS) (c k a st : Nat) : xS := sA (sA (sA t 0 c k) 1 c a) 2 c st
theorem D_b3 {β : Type} {b : Nat} {t : xS} {Y : xMem} {c k a st : Nat} {G : xMem → Option β} (hW : XW Y) (hb : b < 3) (hi : c < 4) (hp : ∀ p, p < 32 → t.1 13 p ≠ c) :
    ((xpI (cM b t Y) (some (14, b, c)) 2 0 (nI k)).bind fun M1 => (xpI M1 (some (14, b, c)) 2 1 (nI a)).bind fun M2 => (xpI M2 (some (14, b, c)) 2 2 (nI st)).bind fun M3 => (xpI M3 (some (14, b, c)) 2 3 (nI (992 / a))).bind G) = G (cM b (sB3 t c k a st) Y) := by
  have hW1 : XW (xsi (cM b (sA t 0 c k) Y) (14, b, c) 1 (nI a)) := hW
  have hW2 : XW (xsi (xsi (cM b (sA t 0 c k) Y) (14, b, c) 1 (nI a)) (14, b, c) 2 (nI st)) := hW
  rw [cp_14_0 hW hb hi, Option.bind_some, xpI_w (M := cM b (sA t 0 c k) Y) hW (sh_14 hb hi), Option.bind_some, xpI_w hW1 (sh_14 hb hi), Option.bind_some, xpI_w hW2 (sh_14 hb hi), Option.bind_some]
  rw [xsi_swap (j := 2) (k := 3) (by decide), cM_size hi (fun p hp' => by rw [sA_n (by decide)]; exact hp p hp')]
  exact congrArg G (cM_wT (e := 0) (v := st) (if_pos ⟨hi, by decide, by decide⟩) (by decide))
def sTl (t : xS) (c : Nat) : xS := sT (sA (sA (sA (sA (sA (sA t 4 c 2) 5 c 4) 7 c 0) 10 c 0) 11 c 0) 12 c 0) c 0
def sBeg (t : xS) (c k a st : Nat) : xS := sA (sIn2 (sLose (sTl (sB3 t c k a st) c) c) c) 19 0 (c + 1)
theorem D_begin {b : Nat} {t : xS} {Y : xMem} {c k a st : Nat} (hW : XW Y) (hb : b < 3) (hi : c < 4) (hp : ∀ p, p < 32 → t.1 13 p ≠ c) (ha : 16 ≤ a) (ha2 : a ≤ 400) :
    fC_begin (cM b t Y) (14, b, c) (nI k) (nI a) (nI st) = some (cM b (sIn2 (sLose (sTl (sB3 t c k a st) c) c) c) Y) := by
  have h0 : ¬ nI a ≤ nI 0 := by rw [nI_leI (by omega) (by decide)]; omega
  have h1 : ¬ nI a = nI 0 := nI_ne0 (by omega) (by omega)
  have e : (992 : Int32) / nI a = nI (992 / a) := by rw [kl_992, pk_div (by decide) (by omega) (by omega)]
  unfold fC_begin fC_begin_29
  simp only [kl_0, h0, h1, if_false, e]
  rw [D_b3 hW hb hi hp]
  simp (disch := first | assumption | omega | decide | with_unfolding_all exact hW) only [↓km1, ↓cO_1b, ↓cO_2b, ↓cO_14b, ↓cO_17b, ↓cO_19b, ↓cO_21b, ↓cR_1_0b, ↓cR_1_1b, ↓cR_1_2b, ↓cR_1_3b, ↓cR_2_0b, ↓cR_2_1b, ↓cR_2_2b, ↓cR_2_3b, ↓cR_2_4b, ↓cR_2_5b, ↓cR_2_6b, ↓cR_2_7b, ↓cR_14_14b, ↓cR_14_15b, ↓cR_14_16b, ↓cR_14_17b, ↓cR_17_0b, ↓cR_19_0b, ↓cR_21_0b, ↓cA_11b, ↓cA_12b, ↓cg_1_4b, ↓cg_1_5b, ↓cg_1_6b, ↓cg_1_7b, ↓cg_14_0b, ↓cg_14_1b, ↓cg_14_2b, ↓cg_14_3b, ↓cg_14_4b, ↓cg_14_5b, ↓cg_14_6b, ↓cg_14_7b, ↓cg_14_8b, ↓cg_14_9b, ↓cg_14_10b, ↓cg_14_11b, ↓cg_14_12b, ↓cg_14_13b, ↓cg_17_1b, ↓cg_19_1b, ↓cg_21_1b, ↓ca_3b, ↓ca_4b, ↓ca_5b, ↓ca_6b, ↓ca_9b, ↓ca_15b, ↓ca_16b, ↓ca_18b, ↓ca_20b, ↓ca_22b, ↓ca_13b, ↓ca_7b, ↓ca_8b, ↓cp_1_4b, ↓cp_1_6b, ↓cp_1_7b, ↓cp_14_0b, ↓cp_14_2b, ↓cp_14_4b, ↓cp_14_5b, ↓cp_14_6b, ↓cp_14_7b, ↓cp_14_8b, ↓cp_14_9b, ↓cp_14_10b, ↓cp_14_11b, ↓cp_14_12b, ↓cp_14_13b, ↓cp_17_1b, ↓cp_19_1b, ↓cp_21_1b, ↓cu_4b, ↓cu_15b, ↓cn_15b, ↓cm_15b, ↓cu_16b, ↓cn_16b, ↓cm_16b, ↓cu_18b, ↓cu_20b, ↓cu_22b, ↓cu_9b, ↓cl_15b, ↓cl_16b, ↓cl_18b, ↓cl_20b, ↓cl_22b, ↓Option.bind_some, cO_1, cO_2, cO_14, cO_17, cO_19, cO_21, cR_1_0, cR_1_1, cR_1_2, cR_1_3, cR_2_0, cR_2_1, cR_2_2, cR_2_3, cR_2_4, cR_2_5, cR_2_6, cR_2_7, cR_14_14, cR_14_15, cR_14_16, cR_14_17, cR_17_0, cR_19_0, cR_21_0, cA_11, cA_12, cg_1_4, cg_1_5, cg_1_6, cg_1_7, cg_14_0, cg_14_1, cg_14_2, cg_14_3, cg_14_4, cg_14_5, cg_14_6, cg_14_7, cg_14_8, cg_14_9, cg_14_10, cg_14_11, cg_14_12, cg_14_13, cg_17_1, cg_19_1, cg_21_1, ca_3, ca_4, ca_5, ca_6, ca_9, ca_15, ca_16, ca_18, ca_20, ca_22, ca_13, ca_7, ca_8, cp_1_4, cp_1_6, cp_1_7, cp_14_0, cp_14_2, cp_14_4, cp_14_5, cp_14_6, cp_14_7, cp_14_8, cp_14_9, cp_14_10, cp_14_11, cp_14_12, cp_14_13, cp_17_1, cp_19_1, cp_21_1, cu_4, cu_15, cn_15, cm_15, cu_16, cn_16, cm_16, cu_18, cu_20, cu_22, cu_9, cl_15, cl_16, cl_18, cl_20, cl_22, Option.bind_some, kl_0, kl_1, kl_2, kl_3, kl_4, kl_5, kl_6, kl_7, kl_8, kl_10, kl_13, kl_14, kl_15, kl_16, kl_24, kl_25, kl_26, kl_31, kl_32, kl_36, kl_40, kl_62, kl_99, kl_100, kl_255, kl_400, kl_992, kl_1023, kl_1024, kl_1984, kl_9200, kl_4600, kl_48, kl_57, kl_97, kl_122, kl_32767, nI_add, pk_mul, D_lose, D_beginInt]
  rfl
def okE (lo hi : Nat) (x : Int32) : Bool := if x < nI lo then false else if nI hi < x then false else decide (x - x / 8 * 8 = 0)
theorem C_isMeasure {M : xMem} {x : Int32} {lo hi : Nat} : fX_isMeasure M x (nI lo) (nI hi) = some (bI (okE lo hi x), M) := by
  unfold fX_isMeasure okE
  by_cases h1 : x < nI lo
  · rw [if_pos h1, if_pos h1]; rfl
  · rw [if_neg h1, if_neg h1]
    by_cases h2 : nI hi < x
    · rw [if_pos h2, if_pos h2]; rfl
    · rw [if_neg h2, if_neg h2]
      by_cases h3 : x - x / 8 * 8 = 0
      · rw [if_pos h3, decide_eq_true h3]; rfl
      · rw [if_neg h3, decide_eq_false h3]; rfl
theorem M_isEights {M : xMem} {x : Int32} {lo hi : Nat} : fM_isEights M x (nI lo) (nI hi) = some (bI (okE lo hi x), M) := by
  unfold fM_isEights fM_isIn okE
  by_cases h1 : x < nI lo
  · rw [if_pos h1, if_pos h1]; rfl
  · rw [if_neg h1, if_neg h1]
    by_cases h2 : nI hi < x
    · rw [if_pos h2, if_pos h2]; rfl
    · rw [if_neg h2, if_neg h2, Option.bind_some]
      dsimp only
      rw [if_neg (by decide)]
      by_cases h3 : x - x / 8 * 8 = 0
      · rw [if_pos h3, decide_eq_true h3]; rfl
      · rw [if_neg h3, decide_eq_false h3]; rfl
theorem okE_v {lo hi : Nat} {x : Int32} (hl : lo < 2 ^ 31) (hh : hi + 1 < 2 ^ 31) (h : okE lo hi x = true) : ∃ v, x = nI v ∧ lo ≤ v ∧ v ≤ hi ∧ cN (hi + 1) x = v := by
  have h1 : ¬ x < nI lo := fun e => by unfold okE at h; rw [if_pos e] at h; cases h
  have h2 : ¬ nI hi < x := fun e => by unfold okE at h; rw [if_neg h1, if_pos e] at h; cases h
  clear h
  rcases rg_cases hi x hh with ⟨h3, h4⟩ | ⟨v, hv, rfl, e⟩
  · exfalso
    rcases h4 with h4 | ⟨-, h4⟩
    · rw [Int32.lt_iff_toInt_lt] at h1 h4
      have e1 := nI_toInt (show (0 : Nat) < 2 ^ 31 by decide)
      have e2 := nI_toInt hl
      omega
    · rw [Int32.lt_iff_toInt_lt] at h2
      rw [Int32.le_iff_toInt_le] at h4
      omega
  · refine ⟨v, rfl, ?_, hv, e⟩
    rw [nI_ltI (by omega) hl] at h1
    omega
def rCache (s : xS) (a0 a1 a2 : Int32) : Int32 × xS := if cN 6 a0 < 6 ∧ okE 16 400 a1 = true ∧ okE 8 64 a2 = true then (if s.1 19 0 < 4 then (nI (s.1 19 0), sBeg s (s.1 19 0) (cN 6 a0) (cN 401 a1) (cN 65 a2)) else (m3, s)) else (m1, s)
theorem rCache_a {s : xS} {a0 a1 a2 : Int32} (h : ¬ cN 6 a0 < 6) : rCache s a0 a1 a2 = (m1, s) := if_neg (fun e => h e.1)
theorem rCache_b {s : xS} {a0 a1 a2 : Int32} (h : ¬ okE 16 400 a1 = true) : rCache s a0 a1 a2 = (m1, s) := if_neg (fun e => h e.2.1)
theorem rCache_c {s : xS} {a0 a1 a2 : Int32} (h : ¬ okE 8 64 a2 = true) : rCache s a0 a1 a2 = (m1, s) := if_neg (fun e => h e.2.2)
theorem rCache_f {s : xS} {a0 a1 a2 : Int32} (h0 : cN 6 a0 < 6) (h1 : okE 16 400 a1 = true) (h2 : okE 8 64 a2 = true) (h : ¬ s.1 19 0 < 4) : rCache s a0 a1 a2 = (m3, s) := (if_pos ⟨h0, h1, h2⟩).trans (if_neg h)
theorem rCache_y {s : xS} {a0 a1 a2 : Int32} (h0 : cN 6 a0 < 6) (h1 : okE 16 400 a1 = true) (h2 : okE 8 64 a2 = true) (h : s.1 19 0 < 4) : rCache s a0 a1 a2 = (nI (s.1 19 0), sBeg s (s.1 19 0) (cN 6 a0) (cN 401 a1) (cN 65 a2)) := (if_pos ⟨h0, h1, h2⟩).trans (if_pos h)
theorem sFl_q {c q : Nat} (h1 : q ≠ 15) (h2 : q ≠ 16) : ∀ {d p : Nat} {s : xS}, (sFl s c d p).1 q = s.1 q := by
  intro d
  induction d with
  | zero => intro p s; rfl
  | succ d ih => intro p s; unfold sFl; rw [ih, sA_n h2, sA_n h1]
theorem sBg_19 {t : xS} {c k a st : Nat} : (sIn2 (sLose (sTl (sB3 t c k a st) c) c) c).1 19 = t.1 19 := by
  unfold sIn2 sLose
  rw [sA_n (by decide), sA_n (by decide), sA_n (by decide), sFl_q (by decide) (by decide), sA_n (by decide), sA_n (by decide)]
  unfold sTl sB3
  show (sA (sA (sA (sA (sA (sA (sA (sA (sA t 0 c k) 1 c a) 2 c st) 4 c 2) 5 c 4) 7 c 0) 10 c 0) 11 c 0) 12 c 0).1 19 = _
  rw [sA_n (by decide), sA_n (by decide), sA_n (by decide), sA_n (by decide), sA_n (by decide), sA_n (by decide), sA_n (by decide), sA_n (by decide), sA_n (by decide)]
theorem C_cache {t : xS} {Y : xMem} {a0 a1 a2 : Int32} (hW : XW Y) (hI : INV t) : fX_cache (cM 0 t Y) (0, 0, 0) a0 a1 a2 = some ((rCache t a0 a1 a2).1, cM 0 (rCache t a0 a1 a2).2 Y) := by
  have hn := hI.R.n
  have hb : 0 < 3 := by decide
  unfold fX_cache
  rcases ge_cases 6 a0 (by decide) with ⟨h, h2⟩ | ⟨k, hk, rfl, e⟩
  · rw [rCache_a h]
    rcases h2 with h2 | ⟨h2, h3⟩
    · rw [nI_0] at h2; rw [if_pos h2]; rfl
    · rw [nI_0] at h2; rw [if_neg h2, kl_6, if_pos h3]; rfl
  · have hk0 : ¬ nI k < (0 : Int32) := nI_pos (show k < 2 ^ 31 by omega)
    have hk6 : ¬ (6 : Int32) ≤ nI k := by rw [kl_6, nI_leI (by decide) (by omega)]; omega
    rw [if_neg hk0, if_neg hk6]
    rw [kl_16, kl_400, kl_8, show (64 : Int32) = nI 64 from of_decide_eq_true rfl, C_isMeasure, Option.bind_some]
    dsimp only
    by_cases h1 : okE 16 400 a1 = true
    · rw [h1, if_neg (show ¬ bI true = 0 by decide), C_isMeasure, Option.bind_some]
      dsimp only
      by_cases h2 : okE 8 64 a2 = true
      · rw [h2, if_neg (show ¬ bI true = 0 by decide)]
        obtain ⟨a, rfl, b1, b2, e1⟩ := okE_v (by decide) (by decide) h1
        obtain ⟨st, rfl, c1, c2, e2⟩ := okE_v (by decide) (by decide) h2
        unfold fD_addCache
        simp (disch := first | assumption | omega | decide | with_unfolding_all exact hW) only [↓km1, ↓kn2, ↓kn3, ↓kn5, ↓kn11, ↓kn13, ↓kn14, ↓cX_0b, ↓cX_1b, ↓cX_2b, ↓cX_4b, ↓cX_5b, ↓cX_10b, ↓cX_11b, ↓cX_12b, ↓cX_14b, ↓cXob, cX_0, cX_1, cX_2, cX_4, cX_5, cX_10, cX_11, cX_12, cX_14, cXo, ↓km1, ↓cO_1b, ↓cO_2b, ↓cO_14b, ↓cO_17b, ↓cO_19b, ↓cO_21b, ↓cR_1_0b, ↓cR_1_1b, ↓cR_1_2b, ↓cR_1_3b, ↓cR_2_0b, ↓cR_2_1b, ↓cR_2_2b, ↓cR_2_3b, ↓cR_2_4b, ↓cR_2_5b, ↓cR_2_6b, ↓cR_2_7b, ↓cR_14_14b, ↓cR_14_15b, ↓cR_14_16b, ↓cR_14_17b, ↓cR_17_0b, ↓cR_19_0b, ↓cR_21_0b, ↓cA_11b, ↓cA_12b, ↓cg_1_4b, ↓cg_1_5b, ↓cg_1_6b, ↓cg_1_7b, ↓cg_14_0b, ↓cg_14_1b, ↓cg_14_2b, ↓cg_14_3b, ↓cg_14_4b, ↓cg_14_5b, ↓cg_14_6b, ↓cg_14_7b, ↓cg_14_8b, ↓cg_14_9b, ↓cg_14_10b, ↓cg_14_11b, ↓cg_14_12b, ↓cg_14_13b, ↓cg_17_1b, ↓cg_19_1b, ↓cg_21_1b, ↓ca_3b, ↓ca_4b, ↓ca_5b, ↓ca_6b, ↓ca_9b, ↓ca_15b, ↓ca_16b, ↓ca_18b, ↓ca_20b, ↓ca_22b, ↓ca_13b, ↓ca_7b, ↓ca_8b, ↓cp_1_4b, ↓cp_1_6b, ↓cp_1_7b, ↓cp_14_0b, ↓cp_14_2b, ↓cp_14_4b, ↓cp_14_5b, ↓cp_14_6b, ↓cp_14_7b, ↓cp_14_8b, ↓cp_14_9b, ↓cp_14_10b, ↓cp_14_11b, ↓cp_14_12b, ↓cp_14_13b, ↓cp_17_1b, ↓cp_19_1b, ↓cp_21_1b, ↓cu_4b, ↓cu_15b, ↓cn_15b, ↓cm_15b, ↓cu_16b, ↓cn_16b, ↓cm_16b, ↓cu_18b, ↓cu_20b, ↓cu_22b, ↓cu_9b, ↓cl_15b, ↓cl_16b, ↓cl_18b, ↓cl_20b, ↓cl_22b, ↓Option.bind_some, cO_1, cO_2, cO_14, cO_17, cO_19, cO_21, cR_1_0, cR_1_1, cR_1_2, cR_1_3, cR_2_0, cR_2_1, cR_2_2, cR_2_3, cR_2_4, cR_2_5, cR_2_6, cR_2_7, cR_14_14, cR_14_15, cR_14_16, cR_14_17, cR_17_0, cR_19_0, cR_21_0, cA_11, cA_12, cg_1_4, cg_1_5, cg_1_6, cg_1_7, cg_14_0, cg_14_1, cg_14_2, cg_14_3, cg_14_4, cg_14_5, cg_14_6, cg_14_7, cg_14_8, cg_14_9, cg_14_10, cg_14_11, cg_14_12, cg_14_13, cg_17_1, cg_19_1, cg_21_1, ca_3, ca_4, ca_5, ca_6, ca_9, ca_15, ca_16, ca_18, ca_20, ca_22, ca_13, ca_7, ca_8, cp_1_4, cp_1_6, cp_1_7, cp_14_0, cp_14_2, cp_14_4, cp_14_5, cp_14_6, cp_14_7, cp_14_8, cp_14_9, cp_14_10, cp_14_11, cp_14_12, cp_14_13, cp_17_1, cp_19_1, cp_21_1, cu_4, cu_15, cn_15, cm_15, cu_16, cn_16, cm_16, cu_18, cu_20, cu_22, cu_9, cl_15, cl_16, cl_18, cl_20, cl_22, Option.bind_some, kl_0, kl_1, kl_2, kl_3, kl_4, kl_5, kl_6, kl_7, kl_8, kl_10, kl_13, kl_14, kl_15, kl_16, kl_24, kl_25, kl_26, kl_31, kl_32, kl_36, kl_40, kl_62, kl_99, kl_100, kl_255, kl_400, kl_992, kl_1023, kl_1024, kl_1984, kl_9200, kl_4600, kl_48, kl_57, kl_97, kl_122, kl_32767, nI_add, pk_mul, nI_ltI]
        by_cases h4 : t.1 19 0 < 4
        · rw [if_pos h4, rCache_y (by omega) h1 h2 h4, e, e1, e2]
          have hp : ∀ p, p < 32 → t.1 13 p ≠ t.1 19 0 := fun p hp e => by
            have := (hI.R.p hp).2 (by omega); omega
          simp (disch := first | assumption | omega | decide | with_unfolding_all exact hW) only [↓km1, ↓cO_1b, ↓cO_2b, ↓cO_14b, ↓cO_17b, ↓cO_19b, ↓cO_21b, ↓cR_1_0b, ↓cR_1_1b, ↓cR_1_2b, ↓cR_1_3b, ↓cR_2_0b, ↓cR_2_1b, ↓cR_2_2b, ↓cR_2_3b, ↓cR_2_4b, ↓cR_2_5b, ↓cR_2_6b, ↓cR_2_7b, ↓cR_14_14b, ↓cR_14_15b, ↓cR_14_16b, ↓cR_14_17b, ↓cR_17_0b, ↓cR_19_0b, ↓cR_21_0b, ↓cA_11b, ↓cA_12b, ↓cg_1_4b, ↓cg_1_5b, ↓cg_1_6b, ↓cg_1_7b, ↓cg_14_0b, ↓cg_14_1b, ↓cg_14_2b, ↓cg_14_3b, ↓cg_14_4b, ↓cg_14_5b, ↓cg_14_6b, ↓cg_14_7b, ↓cg_14_8b, ↓cg_14_9b, ↓cg_14_10b, ↓cg_14_11b, ↓cg_14_12b, ↓cg_14_13b, ↓cg_17_1b, ↓cg_19_1b, ↓cg_21_1b, ↓ca_3b, ↓ca_4b, ↓ca_5b, ↓ca_6b, ↓ca_9b, ↓ca_15b, ↓ca_16b, ↓ca_18b, ↓ca_20b, ↓ca_22b, ↓ca_13b, ↓ca_7b, ↓ca_8b, ↓cp_1_4b, ↓cp_1_6b, ↓cp_1_7b, ↓cp_14_0b, ↓cp_14_2b, ↓cp_14_4b, ↓cp_14_5b, ↓cp_14_6b, ↓cp_14_7b, ↓cp_14_8b, ↓cp_14_9b, ↓cp_14_10b, ↓cp_14_11b, ↓cp_14_12b, ↓cp_14_13b, ↓cp_17_1b, ↓cp_19_1b, ↓cp_21_1b, ↓cu_4b, ↓cu_15b, ↓cn_15b, ↓cm_15b, ↓cu_16b, ↓cn_16b, ↓cm_16b, ↓cu_18b, ↓cu_20b, ↓cu_22b, ↓cu_9b, ↓cl_15b, ↓cl_16b, ↓cl_18b, ↓cl_20b, ↓cl_22b, ↓Option.bind_some, cO_1, cO_2, cO_14, cO_17, cO_19, cO_21, cR_1_0, cR_1_1, cR_1_2, cR_1_3, cR_2_0, cR_2_1, cR_2_2, cR_2_3, cR_2_4, cR_2_5, cR_2_6, cR_2_7, cR_14_14, cR_14_15, cR_14_16, cR_14_17, cR_17_0, cR_19_0, cR_21_0, cA_11, cA_12, cg_1_4, cg_1_5, cg_1_6, cg_1_7, cg_14_0, cg_14_1, cg_14_2, cg_14_3, cg_14_4, cg_14_5, cg_14_6, cg_14_7, cg_14_8, cg_14_9, cg_14_10, cg_14_11, cg_14_12, cg_14_13, cg_17_1, cg_19_1, cg_21_1, ca_3, ca_4, ca_5, ca_6, ca_9, ca_15, ca_16, ca_18, ca_20, ca_22, ca_13, ca_7, ca_8, cp_1_4, cp_1_6, cp_1_7, cp_14_0, cp_14_2, cp_14_4, cp_14_5, cp_14_6, cp_14_7, cp_14_8, cp_14_9, cp_14_10, cp_14_11, cp_14_12, cp_14_13, cp_17_1, cp_19_1, cp_21_1, cu_4, cu_15, cn_15, cm_15, cu_16, cn_16, cm_16, cu_18, cu_20, cu_22, cu_9, cl_15, cl_16, cl_18, cl_20, cl_22, Option.bind_some, kl_0, kl_1, kl_2, kl_3, kl_4, kl_5, kl_6, kl_7, kl_8, kl_10, kl_13, kl_14, kl_15, kl_16, kl_24, kl_25, kl_26, kl_31, kl_32, kl_36, kl_40, kl_62, kl_99, kl_100, kl_255, kl_400, kl_992, kl_1023, kl_1024, kl_1984, kl_9200, kl_4600, kl_48, kl_57, kl_97, kl_122, kl_32767, nI_add, pk_mul, D_begin (k := k) (st := st) hW hb h4 hp b1 b2, sBg_19]
          refine (if_neg (show ¬ nI (t.1 19 0) = m1 from by rw [nI_m1 (by omega)]; exact not_false)).trans ?_
          rfl
        · rw [if_neg h4, rCache_f (by omega) h1 h2 h4]; rfl
      · rw [rCache_c h2, Bool.eq_false_iff.mpr h2, if_pos (show bI false = 0 by decide)]; rfl
    · rw [rCache_b h1, Bool.eq_false_iff.mpr h1, if_pos (show bI false = 0 by decide)]; rfl
theorem M_cache174 {d : Int32} {X : xMem} {c : Nat} (hW : XW X) (hc : c < 4) : ∀ e i n s, s.1 19 0 = c → i + e = 4 → e < n → fM_cache_174 n (mM d s X) (some (44, 0, 0)) (nI c) (nI i) = some (nI c, mM d (sA (sFl s c e i) 19 0 (c + 1)) X) := by
  intro e
  induction e with
  | zero =>
    intro i n s hs hie hn
    obtain ⟨n, rfl⟩ : ∃ m, n = m + 1 := ⟨n - 1, by omega⟩
    have h5 : 4 ≤ i := by omega
    simp (disch := first | assumption | omega | decide | with_unfolding_all exact hW) only [fM_cache_174, ↓gR_0b, ↓gR_1b, ↓gR_2b, ↓gR_3b, ↓gR_4b, ↓gR_5b, ↓gR_6b, ↓gR_7b, ↓gR_8b, ↓gR_9b, ↓gR_10b, ↓gR_11b, ↓gR_12b, ↓gR_16b, ↓gR_17b, ↓gR_18b, ↓gR_19b, ↓gR_20b, ↓gR_21b, ↓gR_22b, ↓gR_23b, ↓gR_24b, ↓gR_25b, ↓gR_26b, ↓gR_27b, ↓gR_28b, ↓gR_29b, ↓gR_30b, ↓gR_31b, ↓gR_35b, ↓gR_38b, ↓gR_39b, ↓gR_40b, ↓gR_41b, ↓gR_52b, ↓gR_53b, ↓gR_54b, ↓aI_45b, ↓uI_45b, ↓aI_46b, ↓uI_46b, ↓aI_47b, ↓uI_47b, ↓aI_48b, ↓uI_48b, ↓aI_49b, ↓uI_49b, ↓aI_50b, ↓uI_50b, ↓aI_51b, ↓uI_51b, ↓aI_52b, ↓uI_52b, ↓aI_53b, ↓uI_53b, ↓aI_54b, ↓uI_54b, ↓aI_55b, ↓uI_55b, ↓aI_56b, ↓uI_56b, ↓aI_58b, ↓uI_58b, ↓uN_58b, ↓uM_58b, ↓aI_59b, ↓uI_59b, ↓aI_60b, ↓uI_60b, ↓aI_62b, ↓uI_62b, ↓uN_62b, ↓uM_62b, ↓aI_63b, ↓uI_63b, ↓uN_63b, ↓uM_63b, ↓aI_64b, ↓uI_64b, ↓aI_65b, ↓uI_65b, ↓aI_66b, ↓uI_66b, ↓aI_67b, ↓uI_67b, ↓aI_68b, ↓uI_68b, ↓aI_69b, ↓uI_69b, ↓aI_70b, ↓uI_70b, ↓aI_61b, ↓uI_61b, ↓aL_57b, ↓uL_57b, ↓aI_71b, ↓uI_71b, ↓aI_72b, ↓uI_72b, ↓aI_74b, ↓uI_74b, ↓aI_75b, ↓uI_75b, ↓aI_76b, ↓uI_76b, ↓aI_77b, ↓uI_77b, ↓aI_78b, ↓uI_78b, ↓aI_79b, ↓uI_79b, ↓aI_80b, ↓uI_80b, ↓aI_81b, ↓uI_81b, ↓gI_13b, ↓pI_13b, ↓gI_14b, ↓pI_14b, ↓gI_15b, ↓pI_15b, ↓gI_32b, ↓pI_32b, ↓gI_33b, ↓pI_33b, ↓gI_34b, ↓pI_34b, ↓gI_36b, ↓pI_36b, ↓gI_37b, ↓pI_37b, ↓gI_42b, ↓pI_42b, ↓gI_43b, ↓pI_43b, ↓gI_44b, ↓pI_44b, ↓gI_45b, ↓pI_45b, ↓gI_46b, ↓pI_46b, ↓gI_47b, ↓pI_47b, ↓gI_48b, ↓pI_48b, ↓gI_49b, ↓pI_49b, ↓gI_50b, ↓pI_50b, ↓gI_51b, ↓pI_51b, ↓pZ_32b, ↓pZ_33b, ↓pZ_46b, ↓xob_44b, ↓Option.bind_some, xob_44, gR_0, gR_1, gR_2, gR_3, gR_4, gR_5, gR_6, gR_7, gR_8, gR_9, gR_10, gR_11, gR_12, gR_16, gR_17, gR_18, gR_19, gR_20, gR_21, gR_22, gR_23, gR_24, gR_25, gR_26, gR_27, gR_28, gR_29, gR_30, gR_31, gR_35, gR_38, gR_39, gR_40, gR_41, gR_52, gR_53, gR_54, aI_45, aI_46, aI_47, aI_48, aI_49, aI_50, aI_51, aI_52, aI_53, aI_54, aI_55, aI_56, aI_58, aI_59, aI_60, aI_62, aI_63, aI_64, aI_65, aI_66, aI_67, aI_68, aI_69, aI_70, aI_61, aL_57, aI_71, aI_72, aI_74, aI_75, aI_76, aI_77, aI_78, aI_79, aI_80, aI_81, uI_45, uI_46, uI_47, uI_48, uI_49, uI_50, uI_51, uI_52, uI_53, uI_54, uI_55, uI_56, uI_58, uN_58, uM_58, uI_59, uI_60, uI_62, uN_62, uM_62, uI_63, uN_63, uM_63, uI_64, uI_65, uI_66, uI_67, uI_68, uI_69, uI_70, uI_61, uL_57, uI_71, uI_72, uI_74, uI_75, uI_76, uI_77, uI_78, uI_79, uI_80, uI_81, gI_13, gI_14, gI_15, gI_32, gI_33, gI_34, gI_36, gI_37, gI_42, gI_43, gI_44, gI_45, gI_46, gI_47, gI_48, gI_49, gI_50, gI_51, pI_13, pI_14, pI_15, pI_32, pI_33, pI_34, pI_36, pI_37, pI_42, pI_43, pI_44, pI_45, pI_46, pI_47, pI_48, pI_49, pI_50, pI_51, pZ_32, pZ_33, pZ_46, Option.bind_some, kl_0, kl_1, kl_2, kl_3, kl_4, kl_5, kl_6, kl_7, kl_8, kl_10, kl_13, kl_14, kl_15, kl_16, kl_24, kl_25, kl_26, kl_31, kl_32, kl_36, kl_40, kl_62, kl_99, kl_100, kl_255, kl_400, kl_992, kl_1023, kl_1024, kl_1984, kl_9200, kl_4600, kl_48, kl_57, kl_97, kl_122, kl_32767, nI_add, pk_mul, nI_leI, h5, if_true, hs]
    rfl
  | succ e ih =>
    intro i n s hs hie hn
    obtain ⟨n, rfl⟩ : ∃ m, n = m + 1 := ⟨n - 1, by omega⟩
    have h5 : ¬ 4 ≤ i := by omega
    have h6 : 4 * c + i < 16 := by omega
    simp (disch := first | assumption | omega | decide | with_unfolding_all exact hW) only [fM_cache_174, ↓gR_0b, ↓gR_1b, ↓gR_2b, ↓gR_3b, ↓gR_4b, ↓gR_5b, ↓gR_6b, ↓gR_7b, ↓gR_8b, ↓gR_9b, ↓gR_10b, ↓gR_11b, ↓gR_12b, ↓gR_16b, ↓gR_17b, ↓gR_18b, ↓gR_19b, ↓gR_20b, ↓gR_21b, ↓gR_22b, ↓gR_23b, ↓gR_24b, ↓gR_25b, ↓gR_26b, ↓gR_27b, ↓gR_28b, ↓gR_29b, ↓gR_30b, ↓gR_31b, ↓gR_35b, ↓gR_38b, ↓gR_39b, ↓gR_40b, ↓gR_41b, ↓gR_52b, ↓gR_53b, ↓gR_54b, ↓aI_45b, ↓uI_45b, ↓aI_46b, ↓uI_46b, ↓aI_47b, ↓uI_47b, ↓aI_48b, ↓uI_48b, ↓aI_49b, ↓uI_49b, ↓aI_50b, ↓uI_50b, ↓aI_51b, ↓uI_51b, ↓aI_52b, ↓uI_52b, ↓aI_53b, ↓uI_53b, ↓aI_54b, ↓uI_54b, ↓aI_55b, ↓uI_55b, ↓aI_56b, ↓uI_56b, ↓aI_58b, ↓uI_58b, ↓uN_58b, ↓uM_58b, ↓aI_59b, ↓uI_59b, ↓aI_60b, ↓uI_60b, ↓aI_62b, ↓uI_62b, ↓uN_62b, ↓uM_62b, ↓aI_63b, ↓uI_63b, ↓uN_63b, ↓uM_63b, ↓aI_64b, ↓uI_64b, ↓aI_65b, ↓uI_65b, ↓aI_66b, ↓uI_66b, ↓aI_67b, ↓uI_67b, ↓aI_68b, ↓uI_68b, ↓aI_69b, ↓uI_69b, ↓aI_70b, ↓uI_70b, ↓aI_61b, ↓uI_61b, ↓aL_57b, ↓uL_57b, ↓aI_71b, ↓uI_71b, ↓aI_72b, ↓uI_72b, ↓aI_74b, ↓uI_74b, ↓aI_75b, ↓uI_75b, ↓aI_76b, ↓uI_76b, ↓aI_77b, ↓uI_77b, ↓aI_78b, ↓uI_78b, ↓aI_79b, ↓uI_79b, ↓aI_80b, ↓uI_80b, ↓aI_81b, ↓uI_81b, ↓gI_13b, ↓pI_13b, ↓gI_14b, ↓pI_14b, ↓gI_15b, ↓pI_15b, ↓gI_32b, ↓pI_32b, ↓gI_33b, ↓pI_33b, ↓gI_34b, ↓pI_34b, ↓gI_36b, ↓pI_36b, ↓gI_37b, ↓pI_37b, ↓gI_42b, ↓pI_42b, ↓gI_43b, ↓pI_43b, ↓gI_44b, ↓pI_44b, ↓gI_45b, ↓pI_45b, ↓gI_46b, ↓pI_46b, ↓gI_47b, ↓pI_47b, ↓gI_48b, ↓pI_48b, ↓gI_49b, ↓pI_49b, ↓gI_50b, ↓pI_50b, ↓gI_51b, ↓pI_51b, ↓pZ_32b, ↓pZ_33b, ↓pZ_46b, ↓xob_44b, ↓Option.bind_some, xob_44, gR_0, gR_1, gR_2, gR_3, gR_4, gR_5, gR_6, gR_7, gR_8, gR_9, gR_10, gR_11, gR_12, gR_16, gR_17, gR_18, gR_19, gR_20, gR_21, gR_22, gR_23, gR_24, gR_25, gR_26, gR_27, gR_28, gR_29, gR_30, gR_31, gR_35, gR_38, gR_39, gR_40, gR_41, gR_52, gR_53, gR_54, aI_45, aI_46, aI_47, aI_48, aI_49, aI_50, aI_51, aI_52, aI_53, aI_54, aI_55, aI_56, aI_58, aI_59, aI_60, aI_62, aI_63, aI_64, aI_65, aI_66, aI_67, aI_68, aI_69, aI_70, aI_61, aL_57, aI_71, aI_72, aI_74, aI_75, aI_76, aI_77, aI_78, aI_79, aI_80, aI_81, uI_45, uI_46, uI_47, uI_48, uI_49, uI_50, uI_51, uI_52, uI_53, uI_54, uI_55, uI_56, uI_58, uN_58, uM_58, uI_59, uI_60, uI_62, uN_62, uM_62, uI_63, uN_63, uM_63, uI_64, uI_65, uI_66, uI_67, uI_68, uI_69, uI_70, uI_61, uL_57, uI_71, uI_72, uI_74, uI_75, uI_76, uI_77, uI_78, uI_79, uI_80, uI_81, gI_13, gI_14, gI_15, gI_32, gI_33, gI_34, gI_36, gI_37, gI_42, gI_43, gI_44, gI_45, gI_46, gI_47, gI_48, gI_49, gI_50, gI_51, pI_13, pI_14, pI_15, pI_32, pI_33, pI_34, pI_36, pI_37, pI_42, pI_43, pI_44, pI_45, pI_46, pI_47, pI_48, pI_49, pI_50, pI_51, pZ_32, pZ_33, pZ_46, Option.bind_some, kl_0, kl_1, kl_2, kl_3, kl_4, kl_5, kl_6, kl_7, kl_8, kl_10, kl_13, kl_14, kl_15, kl_16, kl_24, kl_25, kl_26, kl_31, kl_32, kl_36, kl_40, kl_62, kl_99, kl_100, kl_255, kl_400, kl_992, kl_1023, kl_1024, kl_1984, kl_9200, kl_4600, kl_48, kl_57, kl_97, kl_122, kl_32767, nI_add, pk_mul, nI_leI, h5, if_false]
    rw [ih (i + 1) n _ (by rw [sA_n (by decide), sA_n (by decide)]; exact hs) (by omega) (by omega)]
    rfl
def sBm (s : xS) (c k a st : Nat) : xS := sA (sA (sT (sA (sA (sA (sA (sA (sA (sA (sA (sA (sA (sA (sA s 0 c k) 1 c a) 2 c st) 4 c 2) 5 c 4) 6 c 0) 7 c 0) 8 c 0) 9 c 0) 10 c 0) 11 c 0) 12 c 0) c 0) 22 c 0) 24 c 0
theorem M_isIn {M : xMem} {k hi : Nat} {x : Int32} (hh : hi + 1 < 2 ^ 31) : fM_isIn M x (nI 0) (nI hi) = some (bI (decide (cN (hi + 1) x < hi + 1)), M) := by
  unfold fM_isIn
  rcases rg_cases hi x hh with ⟨h3, h4⟩ | ⟨v, hv, rfl, e⟩
  · rw [decide_eq_false h3]
    rcases h4 with h4 | ⟨h5, h4⟩
    · rw [if_pos h4]; rfl
    · have h6 : nI hi < x := by
        rw [Int32.le_iff_toInt_le] at h4
        rw [Int32.lt_iff_toInt_lt]; omega
      rw [if_neg h5, if_pos h6]; rfl
  · rw [e, decide_eq_true (show v < hi + 1 by omega), if_neg (show ¬ nI v < nI 0 from nI_pos (show v < 2 ^ 31 by omega)), if_neg (by rw [nI_ltI (by omega) (by omega)]; omega)]; rfl
theorem M_cache {d : Int32} {s : xS} {X : xMem} {a0 a1 a2 : Int32} (hW : XW X) (hI : INV s) : fM_cache (mM d s X) (44, 0, 0) a0 a1 a2 = some ((rCache s a0 a1 a2).1, mM d (if cN 6 a0 < 6 ∧ okE 16 400 a1 = true ∧ okE 8 64 a2 = true ∧ s.1 19 0 < 4 then sA (sFl (sBm s (s.1 19 0) (cN 6 a0) (cN 401 a1) (cN 65 a2)) (s.1 19 0) 4 0) 19 0 (s.1 19 0 + 1) else s) X) := by
  have hn := hI.R.n
  unfold fM_cache
  rw [kl_16, kl_400, kl_8, show (64 : Int32) = nI 64 from of_decide_eq_true rfl, show (fM_isIn (mM d s X) a0 0 5) = _ from M_isIn (k := 0) (hi := 5) (by decide), Option.bind_some]
  dsimp only
  by_cases hk : cN 6 a0 < 6
  · rw [decide_eq_true (show cN (5 + 1) a0 < 5 + 1 from hk), if_neg (show ¬ bI true = 0 by decide), M_isEights, Option.bind_some]
    dsimp only
    by_cases h1 : okE 16 400 a1 = true
    · rw [h1, if_neg (show ¬ bI true = 0 by decide), M_isEights, Option.bind_some]
      dsimp only
      by_cases h2 : okE 8 64 a2 = true
      · rw [h2, if_neg (show ¬ bI true = 0 by decide)]
        rcases ge_cases 6 a0 (by decide) with ⟨h, -⟩ | ⟨k, -, rfl, e⟩
        · exact absurd hk h
        obtain ⟨a, rfl, b1, b2, e1⟩ := okE_v (by decide) (by decide) h1
        obtain ⟨st, rfl, c1, c2, e2⟩ := okE_v (by decide) (by decide) h2
        have e5 : (nI (s.1 19 0) = nI 4) = (s.1 19 0 = 4) := propext (nI_eq (by omega) (by decide))
        simp (disch := first | assumption | omega | decide | with_unfolding_all exact hW) only [↓km1, ↓kn2, ↓kn3, ↓kn5, ↓kn11, ↓kn13, ↓kn14, ↓gR_0b, ↓gR_1b, ↓gR_2b, ↓gR_3b, ↓gR_4b, ↓gR_5b, ↓gR_6b, ↓gR_7b, ↓gR_8b, ↓gR_9b, ↓gR_10b, ↓gR_11b, ↓gR_12b, ↓gR_16b, ↓gR_17b, ↓gR_18b, ↓gR_19b, ↓gR_20b, ↓gR_21b, ↓gR_22b, ↓gR_23b, ↓gR_24b, ↓gR_25b, ↓gR_26b, ↓gR_27b, ↓gR_28b, ↓gR_29b, ↓gR_30b, ↓gR_31b, ↓gR_35b, ↓gR_38b, ↓gR_39b, ↓gR_40b, ↓gR_41b, ↓gR_52b, ↓gR_53b, ↓gR_54b, ↓aI_45b, ↓uI_45b, ↓aI_46b, ↓uI_46b, ↓aI_47b, ↓uI_47b, ↓aI_48b, ↓uI_48b, ↓aI_49b, ↓uI_49b, ↓aI_50b, ↓uI_50b, ↓aI_51b, ↓uI_51b, ↓aI_52b, ↓uI_52b, ↓aI_53b, ↓uI_53b, ↓aI_54b, ↓uI_54b, ↓aI_55b, ↓uI_55b, ↓aI_56b, ↓uI_56b, ↓aI_58b, ↓uI_58b, ↓uN_58b, ↓uM_58b, ↓aI_59b, ↓uI_59b, ↓aI_60b, ↓uI_60b, ↓aI_62b, ↓uI_62b, ↓uN_62b, ↓uM_62b, ↓aI_63b, ↓uI_63b, ↓uN_63b, ↓uM_63b, ↓aI_64b, ↓uI_64b, ↓aI_65b, ↓uI_65b, ↓aI_66b, ↓uI_66b, ↓aI_67b, ↓uI_67b, ↓aI_68b, ↓uI_68b, ↓aI_69b, ↓uI_69b, ↓aI_70b, ↓uI_70b, ↓aI_61b, ↓uI_61b, ↓aL_57b, ↓uL_57b, ↓aI_71b, ↓uI_71b, ↓aI_72b, ↓uI_72b, ↓aI_74b, ↓uI_74b, ↓aI_75b, ↓uI_75b, ↓aI_76b, ↓uI_76b, ↓aI_77b, ↓uI_77b, ↓aI_78b, ↓uI_78b, ↓aI_79b, ↓uI_79b, ↓aI_80b, ↓uI_80b, ↓aI_81b, ↓uI_81b, ↓gI_13b, ↓pI_13b, ↓gI_14b, ↓pI_14b, ↓gI_15b, ↓pI_15b, ↓gI_32b, ↓pI_32b, ↓gI_33b, ↓pI_33b, ↓gI_34b, ↓pI_34b, ↓gI_36b, ↓pI_36b, ↓gI_37b, ↓pI_37b, ↓gI_42b, ↓pI_42b, ↓gI_43b, ↓pI_43b, ↓gI_44b, ↓pI_44b, ↓gI_45b, ↓pI_45b, ↓gI_46b, ↓pI_46b, ↓gI_47b, ↓pI_47b, ↓gI_48b, ↓pI_48b, ↓gI_49b, ↓pI_49b, ↓gI_50b, ↓pI_50b, ↓gI_51b, ↓pI_51b, ↓pZ_32b, ↓pZ_33b, ↓pZ_46b, ↓xob_44b, ↓Option.bind_some, xob_44, gR_0, gR_1, gR_2, gR_3, gR_4, gR_5, gR_6, gR_7, gR_8, gR_9, gR_10, gR_11, gR_12, gR_16, gR_17, gR_18, gR_19, gR_20, gR_21, gR_22, gR_23, gR_24, gR_25, gR_26, gR_27, gR_28, gR_29, gR_30, gR_31, gR_35, gR_38, gR_39, gR_40, gR_41, gR_52, gR_53, gR_54, aI_45, aI_46, aI_47, aI_48, aI_49, aI_50, aI_51, aI_52, aI_53, aI_54, aI_55, aI_56, aI_58, aI_59, aI_60, aI_62, aI_63, aI_64, aI_65, aI_66, aI_67, aI_68, aI_69, aI_70, aI_61, aL_57, aI_71, aI_72, aI_74, aI_75, aI_76, aI_77, aI_78, aI_79, aI_80, aI_81, uI_45, uI_46, uI_47, uI_48, uI_49, uI_50, uI_51, uI_52, uI_53, uI_54, uI_55, uI_56, uI_58, uN_58, uM_58, uI_59, uI_60, uI_62, uN_62, uM_62, uI_63, uN_63, uM_63, uI_64, uI_65, uI_66, uI_67, uI_68, uI_69, uI_70, uI_61, uL_57, uI_71, uI_72, uI_74, uI_75, uI_76, uI_77, uI_78, uI_79, uI_80, uI_81, gI_13, gI_14, gI_15, gI_32, gI_33, gI_34, gI_36, gI_37, gI_42, gI_43, gI_44, gI_45, gI_46, gI_47, gI_48, gI_49, gI_50, gI_51, pI_13, pI_14, pI_15, pI_32, pI_33, pI_34, pI_36, pI_37, pI_42, pI_43, pI_44, pI_45, pI_46, pI_47, pI_48, pI_49, pI_50, pI_51, pZ_32, pZ_33, pZ_46, Option.bind_some, kl_0, kl_1, kl_2, kl_3, kl_4, kl_5, kl_6, kl_7, kl_8, kl_10, kl_13, kl_14, kl_15, kl_16, kl_24, kl_25, kl_26, kl_31, kl_32, kl_36, kl_40, kl_62, kl_99, kl_100, kl_255, kl_400, kl_992, kl_1023, kl_1024, kl_1984, kl_9200, kl_4600, kl_48, kl_57, kl_97, kl_122, kl_32767, nI_add, pk_mul, e5]
        by_cases h4 : s.1 19 0 < 4
        · rw [if_neg (by omega), if_pos ⟨hk, trivial, trivial, h4⟩, rCache_y hk h1 h2 h4, e, e1, e2]
          show fM_cache_174 xF (mM d (sBm s (s.1 19 0) k a st) X) _ _ (nI 0) = _
          rw [M_cache174 hW h4 4 0 xF (sBm s (s.1 19 0) k a st) rfl (by omega) (by unfold xF; omega)]
        · rw [if_pos (by omega), if_neg (fun e => h4 e.2.2.2), rCache_f hk h1 h2 h4]
      · rw [rCache_c h2, Bool.eq_false_iff.mpr h2, if_pos (show bI false = 0 by decide), if_neg (fun e => Bool.noConfusion e.2.2.1)]; rfl
    · rw [rCache_b h1, Bool.eq_false_iff.mpr h1, if_pos (show bI false = 0 by decide), if_neg (fun e => Bool.noConfusion e.2.1)]; rfl
  · rw [rCache_a hk, decide_eq_false (show ¬ cN (5 + 1) a0 < 5 + 1 from hk), if_pos (show bI false = 0 by decide), if_neg (fun e => hk e.1)]; rfl
