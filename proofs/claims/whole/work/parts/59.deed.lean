/-! the calls in deed -/
def m2 : Int32 := -2
theorem kn2 : (-2 : Int32) = m2 := rfl
def m3 : Int32 := -3
theorem kn3 : (-3 : Int32) = m3 := rfl
def m5 : Int32 := -5
theorem kn5 : (-5 : Int32) = m5 := rfl
def m11 : Int32 := -11
theorem kn11 : (-11 : Int32) = m11 := rfl
def m13 : Int32 := -13
theorem kn13 : (-13 : Int32) = m13 := rfl
def m14 : Int32 := -14
theorem kn14 : (-14 : Int32) = m14 := rfl
theorem cX_0 {b : Nat} {t : xS} {Y : xMem} (hW : XW Y) : xgR (cM b t Y) (some (0, 0, 0)) 7 0 = some (some (1, 0, 0)) := (xgR_w (M := cM b t Y) hW sh_0 (by decide) (by decide) rfl).trans rfl
theorem cX_0b {β : Type} {b : Nat} {t : xS} {Y : xMem} (hW : XW Y) {k : _ → Option β} : (xgR (cM b t Y) (some (0, 0, 0)) 7 0).bind k = k (some (1, 0, 0)) := by rw [cX_0 (by assumption)]; rfl
theorem cX_1 {b : Nat} {t : xS} {Y : xMem} (hW : XW Y) : xgR (cM b t Y) (some (0, 0, 0)) 7 1 = some (some (1, 1, 0)) := (xgR_w (M := cM b t Y) hW sh_0 (by decide) (by decide) rfl).trans rfl
theorem cX_1b {β : Type} {b : Nat} {t : xS} {Y : xMem} (hW : XW Y) {k : _ → Option β} : (xgR (cM b t Y) (some (0, 0, 0)) 7 1).bind k = k (some (1, 1, 0)) := by rw [cX_1 (by assumption)]; rfl
theorem cX_2 {b : Nat} {t : xS} {Y : xMem} (hW : XW Y) : xgR (cM b t Y) (some (0, 0, 0)) 7 2 = some (some (1, 2, 0)) := (xgR_w (M := cM b t Y) hW sh_0 (by decide) (by decide) rfl).trans rfl
theorem cX_2b {β : Type} {b : Nat} {t : xS} {Y : xMem} (hW : XW Y) {k : _ → Option β} : (xgR (cM b t Y) (some (0, 0, 0)) 7 2).bind k = k (some (1, 2, 0)) := by rw [cX_2 (by assumption)]; rfl
theorem cX_4 {b : Nat} {t : xS} {Y : xMem} (hW : XW Y) : xgR (cM b t Y) (some (0, 0, 0)) 7 4 = some (some (23, 0, 0)) := (xgR_w (M := cM b t Y) hW sh_0 (by decide) (by decide) rfl).trans rfl
theorem cX_4b {β : Type} {b : Nat} {t : xS} {Y : xMem} (hW : XW Y) {k : _ → Option β} : (xgR (cM b t Y) (some (0, 0, 0)) 7 4).bind k = k (some (23, 0, 0)) := by rw [cX_4 (by assumption)]; rfl
theorem cX_5 {b : Nat} {t : xS} {Y : xMem} (hW : XW Y) : xgR (cM b t Y) (some (0, 0, 0)) 7 5 = some (some (25, 0, 0)) := (xgR_w (M := cM b t Y) hW sh_0 (by decide) (by decide) rfl).trans rfl
theorem cX_5b {β : Type} {b : Nat} {t : xS} {Y : xMem} (hW : XW Y) {k : _ → Option β} : (xgR (cM b t Y) (some (0, 0, 0)) 7 5).bind k = k (some (25, 0, 0)) := by rw [cX_5 (by assumption)]; rfl
theorem cX_10 {b : Nat} {t : xS} {Y : xMem} (hW : XW Y) : xgR (cM b t Y) (some (0, 0, 0)) 7 10 = some (some (36, 0, 0)) := (xgR_w (M := cM b t Y) hW sh_0 (by decide) (by decide) rfl).trans rfl
theorem cX_10b {β : Type} {b : Nat} {t : xS} {Y : xMem} (hW : XW Y) {k : _ → Option β} : (xgR (cM b t Y) (some (0, 0, 0)) 7 10).bind k = k (some (36, 0, 0)) := by rw [cX_10 (by assumption)]; rfl
theorem cX_11 {b : Nat} {t : xS} {Y : xMem} (hW : XW Y) : xgR (cM b t Y) (some (0, 0, 0)) 7 11 = some (some (38, 0, 0)) := (xgR_w (M := cM b t Y) hW sh_0 (by decide) (by decide) rfl).trans rfl
theorem cX_11b {β : Type} {b : Nat} {t : xS} {Y : xMem} (hW : XW Y) {k : _ → Option β} : (xgR (cM b t Y) (some (0, 0, 0)) 7 11).bind k = k (some (38, 0, 0)) := by rw [cX_11 (by assumption)]; rfl
theorem cX_12 {b : Nat} {t : xS} {Y : xMem} (hW : XW Y) : xgR (cM b t Y) (some (0, 0, 0)) 7 12 = some (some (39, 0, 0)) := (xgR_w (M := cM b t Y) hW sh_0 (by decide) (by decide) rfl).trans rfl
theorem cX_12b {β : Type} {b : Nat} {t : xS} {Y : xMem} (hW : XW Y) {k : _ → Option β} : (xgR (cM b t Y) (some (0, 0, 0)) 7 12).bind k = k (some (39, 0, 0)) := by rw [cX_12 (by assumption)]; rfl
theorem cX_14 {b : Nat} {t : xS} {Y : xMem} (hW : XW Y) : xgR (cM b t Y) (some (0, 0, 0)) 7 14 = some (some (40, 0, 0)) := (xgR_w (M := cM b t Y) hW sh_0 (by decide) (by decide) rfl).trans rfl
theorem cX_14b {β : Type} {b : Nat} {t : xS} {Y : xMem} (hW : XW Y) {k : _ → Option β} : (xgR (cM b t Y) (some (0, 0, 0)) 7 14).bind k = k (some (40, 0, 0)) := by rw [cX_14 (by assumption)]; rfl
theorem cXo {b : Nat} {t : xS} {Y : xMem} (hW : XW Y) : xob (cM b t Y) (some (0, 0, 0)) 7 = some (0, 0, 0) := xob_w (M := cM b t Y) hW sh_0
theorem cXob {β : Type} {b : Nat} {t : xS} {Y : xMem} (hW : XW Y) {k : _ → Option β} : (xob (cM b t Y) (some (0, 0, 0)) 7).bind k = k (0, 0, 0) := by rw [cXo (by assumption)]; rfl
theorem bI_if {α : Type} {c : Bool} {x : Option α} : (if bI c = 0 ∨ bI c = 1 then x else none) = x := by cases c <;> rfl
theorem M_isCache {d : Int32} {s : xS} {X : xMem} {v : Int32} (hW : XW X) (hn : s.1 19 0 ≤ 4) : fM_isCache (mM d s X) (44, 0, 0) v = some (bI (decide (cN (s.1 19 0) v < s.1 19 0)), mM d s X) := by
  unfold fM_isCache
  rw [gI_13 hW, Option.bind_some, isIn_v (by omega), Option.bind_some, bI_if]
theorem M_isProc {M : xMem} {v : Int32} : fM_isProcessor M v = some (bI (decide (cN 4 v < 4)), M) := by
  unfold fM_isProcessor
  rw [kl_0, kl_3, isIn_m (by decide), Option.bind_some]
  exact bI_if
theorem bI_t : bI true = 1 := rfl
theorem bI_f : bI false = 0 := rfl
theorem bI_0' {b : Bool} : (bI b = 0) = (b = false) := by cases b <;> decide
theorem dec_f {p : Prop} {h : Decidable p} : (decide p = false) = ¬ p := by simp
/-- where a number is that of a cache -/
theorem ca_cases (n : Nat) (v : Int32) (hn : n ≤ 4) : (¬ cN n v < n) ∨ ∃ c, c < n ∧ v = nI c ∧ cN n v = c := by
  rcases cN_cases n v (by omega) with ⟨h1, h2⟩ | ⟨h1, h2⟩
  · exact Or.inl (by omega)
  · exact Or.inr ⟨_, h1, h2, rfl⟩
theorem pr_cases (v : Int32) : (¬ cN 4 v < 4) ∨ ∃ p, p < 4 ∧ v = nI p ∧ cN 4 v = p := ca_cases 4 v (by omega)
/-! limit -/
def rLimit (s : xS) (a0 a1 : Int32) : Int32 × xS := if cN (s.1 19 0) a0 < s.1 19 0 ∧ cN 100 a1 < 100 then (nI (s.1 5 (cN (s.1 19 0) a0)), sA s 5 (cN (s.1 19 0) a0) (cN 100 a1)) else (m1, s)
theorem C_limit {t : xS} {Y : xMem} {a0 a1 : Int32} (hW : XW Y) (hI : INV t) : fX_limit (cM 0 t Y) (0, 0, 0) a0 a1 = some ((rLimit t a0 a1).1, cM 0 (rLimit t a0 a1).2 Y) := by
  have hn := hI.R.n
  have hb : 0 < 3 := by decide
  unfold fX_limit
  simp (disch := first | assumption | omega | decide | with_unfolding_all exact hW) only [↓km1, ↓kn2, ↓kn3, ↓kn5, ↓kn11, ↓kn13, ↓kn14, ↓cX_0b, ↓cX_1b, ↓cX_2b, ↓cX_4b, ↓cX_5b, ↓cX_10b, ↓cX_11b, ↓cX_12b, ↓cX_14b, ↓cXob, cX_0, cX_1, cX_2, cX_4, cX_5, cX_10, cX_11, cX_12, cX_14, cXo, ↓km1, ↓cO_1b, ↓cO_2b, ↓cO_14b, ↓cO_17b, ↓cO_19b, ↓cO_21b, ↓cR_1_0b, ↓cR_1_1b, ↓cR_1_2b, ↓cR_1_3b, ↓cR_2_0b, ↓cR_2_1b, ↓cR_2_2b, ↓cR_2_3b, ↓cR_2_4b, ↓cR_2_5b, ↓cR_2_6b, ↓cR_2_7b, ↓cR_14_14b, ↓cR_14_15b, ↓cR_14_16b, ↓cR_14_17b, ↓cR_17_0b, ↓cR_19_0b, ↓cR_21_0b, ↓cA_11b, ↓cA_12b, ↓cg_1_4b, ↓cg_1_5b, ↓cg_1_6b, ↓cg_1_7b, ↓cg_14_0b, ↓cg_14_1b, ↓cg_14_2b, ↓cg_14_3b, ↓cg_14_4b, ↓cg_14_5b, ↓cg_14_6b, ↓cg_14_7b, ↓cg_14_8b, ↓cg_14_9b, ↓cg_14_10b, ↓cg_14_11b, ↓cg_14_12b, ↓cg_14_13b, ↓cg_17_1b, ↓cg_19_1b, ↓cg_21_1b, ↓ca_3b, ↓ca_4b, ↓ca_5b, ↓ca_6b, ↓ca_9b, ↓ca_15b, ↓ca_16b, ↓ca_18b, ↓ca_20b, ↓ca_22b, ↓ca_13b, ↓ca_7b, ↓ca_8b, ↓cp_1_4b, ↓cp_1_6b, ↓cp_1_7b, ↓cp_14_0b, ↓cp_14_2b, ↓cp_14_4b, ↓cp_14_5b, ↓cp_14_6b, ↓cp_14_7b, ↓cp_14_8b, ↓cp_14_9b, ↓cp_14_10b, ↓cp_14_11b, ↓cp_14_12b, ↓cp_14_13b, ↓cp_17_1b, ↓cp_19_1b, ↓cp_21_1b, ↓cu_4b, ↓cu_15b, ↓cn_15b, ↓cm_15b, ↓cu_16b, ↓cn_16b, ↓cm_16b, ↓cu_18b, ↓cu_20b, ↓cu_22b, ↓cu_9b, ↓cl_15b, ↓cl_16b, ↓cl_18b, ↓cl_20b, ↓cl_22b, ↓Option.bind_some, cO_1, cO_2, cO_14, cO_17, cO_19, cO_21, cR_1_0, cR_1_1, cR_1_2, cR_1_3, cR_2_0, cR_2_1, cR_2_2, cR_2_3, cR_2_4, cR_2_5, cR_2_6, cR_2_7, cR_14_14, cR_14_15, cR_14_16, cR_14_17, cR_17_0, cR_19_0, cR_21_0, cA_11, cA_12, cg_1_4, cg_1_5, cg_1_6, cg_1_7, cg_14_0, cg_14_1, cg_14_2, cg_14_3, cg_14_4, cg_14_5, cg_14_6, cg_14_7, cg_14_8, cg_14_9, cg_14_10, cg_14_11, cg_14_12, cg_14_13, cg_17_1, cg_19_1, cg_21_1, ca_3, ca_4, ca_5, ca_6, ca_9, ca_15, ca_16, ca_18, ca_20, ca_22, ca_13, ca_7, ca_8, cp_1_4, cp_1_6, cp_1_7, cp_14_0, cp_14_2, cp_14_4, cp_14_5, cp_14_6, cp_14_7, cp_14_8, cp_14_9, cp_14_10, cp_14_11, cp_14_12, cp_14_13, cp_17_1, cp_19_1, cp_21_1, cu_4, cu_15, cn_15, cm_15, cu_16, cn_16, cm_16, cu_18, cu_20, cu_22, cu_9, cl_15, cl_16, cl_18, cl_20, cl_22, Option.bind_some, kl_0, kl_1, kl_2, kl_3, kl_4, kl_5, kl_6, kl_7, kl_8, kl_10, kl_13, kl_14, kl_15, kl_16, kl_24, kl_25, kl_26, kl_31, kl_32, kl_36, kl_40, kl_62, kl_99, kl_100, kl_255, kl_400, kl_992, kl_1023, kl_1024, kl_1984, kl_9200, kl_4600, kl_48, kl_57, kl_97, kl_122, kl_32767, nI_add, pk_mul]
  rw [D_cacheAt hW hb hn, Option.bind_some]
  rcases ca_cases (t.1 19 0) a0 hn with h | ⟨c, hc, rfl, e⟩
  · have er : rLimit t a0 a1 = (m1, t) := if_neg (fun e => h e.1)
    rw [er]
    simp only [h, if_false, eq_self, if_true]
  · have hi : c < 4 := by omega
    simp only [e, hc, if_true, reduceCtorEq, if_false]
    rcases cN_cases 100 a1 (by decide) with ⟨h1, h2⟩ | ⟨h1, h2⟩
    · have er : rLimit t (nI c) a1 = (m1, t) := if_neg (fun e => by have := e.2; omega)
      rw [er]
      by_cases h3 : a1 < nI 0
      · simp only [h3, if_true]
      · have h4 : ¬ a1 ≤ nI 99 := by
          rcases h2 with h2 | h2
          · exact absurd h2 h3
          · intro h4
            rw [Int32.le_iff_toInt_le, nI_toInt (by decide)] at h2 h4
            omega
        simp only [h3, h4, if_false]
    · have er : rLimit t (nI c) a1 = (nI (t.1 5 (cN (t.1 19 0) (nI c))), sA t 5 (cN (t.1 19 0) (nI c)) (cN 100 a1)) := if_pos ⟨by rw [e]; exact hc, h1⟩
      rw [er, e]
      generalize cN 100 a1 = v at h1 h2
      subst h2
      have h3 : v ≤ 99 := by omega
      simp (disch := first | assumption | omega | decide | with_unfolding_all exact hW) only [↓km1, ↓cO_1b, ↓cO_2b, ↓cO_14b, ↓cO_17b, ↓cO_19b, ↓cO_21b, ↓cR_1_0b, ↓cR_1_1b, ↓cR_1_2b, ↓cR_1_3b, ↓cR_2_0b, ↓cR_2_1b, ↓cR_2_2b, ↓cR_2_3b, ↓cR_2_4b, ↓cR_2_5b, ↓cR_2_6b, ↓cR_2_7b, ↓cR_14_14b, ↓cR_14_15b, ↓cR_14_16b, ↓cR_14_17b, ↓cR_17_0b, ↓cR_19_0b, ↓cR_21_0b, ↓cA_11b, ↓cA_12b, ↓cg_1_4b, ↓cg_1_5b, ↓cg_1_6b, ↓cg_1_7b, ↓cg_14_0b, ↓cg_14_1b, ↓cg_14_2b, ↓cg_14_3b, ↓cg_14_4b, ↓cg_14_5b, ↓cg_14_6b, ↓cg_14_7b, ↓cg_14_8b, ↓cg_14_9b, ↓cg_14_10b, ↓cg_14_11b, ↓cg_14_12b, ↓cg_14_13b, ↓cg_17_1b, ↓cg_19_1b, ↓cg_21_1b, ↓ca_3b, ↓ca_4b, ↓ca_5b, ↓ca_6b, ↓ca_9b, ↓ca_15b, ↓ca_16b, ↓ca_18b, ↓ca_20b, ↓ca_22b, ↓ca_13b, ↓ca_7b, ↓ca_8b, ↓cp_1_4b, ↓cp_1_6b, ↓cp_1_7b, ↓cp_14_0b, ↓cp_14_2b, ↓cp_14_4b, ↓cp_14_5b, ↓cp_14_6b, ↓cp_14_7b, ↓cp_14_8b, ↓cp_14_9b, ↓cp_14_10b, ↓cp_14_11b, ↓cp_14_12b, ↓cp_14_13b, ↓cp_17_1b, ↓cp_19_1b, ↓cp_21_1b, ↓cu_4b, ↓cu_15b, ↓cn_15b, ↓cm_15b, ↓cu_16b, ↓cn_16b, ↓cm_16b, ↓cu_18b, ↓cu_20b, ↓cu_22b, ↓cu_9b, ↓cl_15b, ↓cl_16b, ↓cl_18b, ↓cl_20b, ↓cl_22b, ↓Option.bind_some, cO_1, cO_2, cO_14, cO_17, cO_19, cO_21, cR_1_0, cR_1_1, cR_1_2, cR_1_3, cR_2_0, cR_2_1, cR_2_2, cR_2_3, cR_2_4, cR_2_5, cR_2_6, cR_2_7, cR_14_14, cR_14_15, cR_14_16, cR_14_17, cR_17_0, cR_19_0, cR_21_0, cA_11, cA_12, cg_1_4, cg_1_5, cg_1_6, cg_1_7, cg_14_0, cg_14_1, cg_14_2, cg_14_3, cg_14_4, cg_14_5, cg_14_6, cg_14_7, cg_14_8, cg_14_9, cg_14_10, cg_14_11, cg_14_12, cg_14_13, cg_17_1, cg_19_1, cg_21_1, ca_3, ca_4, ca_5, ca_6, ca_9, ca_15, ca_16, ca_18, ca_20, ca_22, ca_13, ca_7, ca_8, cp_1_4, cp_1_6, cp_1_7, cp_14_0, cp_14_2, cp_14_4, cp_14_5, cp_14_6, cp_14_7, cp_14_8, cp_14_9, cp_14_10, cp_14_11, cp_14_12, cp_14_13, cp_17_1, cp_19_1, cp_21_1, cu_4, cu_15, cn_15, cm_15, cu_16, cn_16, cm_16, cu_18, cu_20, cu_22, cu_9, cl_15, cl_16, cl_18, cl_20, cl_22, Option.bind_some, kl_0, kl_1, kl_2, kl_3, kl_4, kl_5, kl_6, kl_7, kl_8, kl_10, kl_13, kl_14, kl_15, kl_16, kl_24, kl_25, kl_26, kl_31, kl_32, kl_36, kl_40, kl_62, kl_99, kl_100, kl_255, kl_400, kl_992, kl_1023, kl_1024, kl_1984, kl_9200, kl_4600, kl_48, kl_57, kl_97, kl_122, kl_32767, nI_add, pk_mul, ↓km1, nI_m1, en_m1, m1_lt0, m1_eq, m1_0, nI_00, nI_10, nI_0le, nI_n0, nI_leI, h3, Nat.not_lt_zero, if_true, if_false, not_true, not_false_iff, and_true, true_and, and_false, false_and, Bool.false_eq_true, reduceCtorEq]
theorem M_limit {d : Int32} {s : xS} {X : xMem} {a0 a1 : Int32} (hW : XW X) (hI : INV s) : fM_limit (mM d s X) (44, 0, 0) a0 a1 = some ((rLimit s a0 a1).1, mM d (rLimit s a0 a1).2 X) := by
  have hn := hI.R.n
  unfold fM_limit
  simp (disch := first | assumption | omega | decide | with_unfolding_all exact hW) only [↓km1, ↓kn2, ↓kn3, ↓kn5, ↓kn11, ↓kn13, ↓kn14, ↓gR_0b, ↓gR_1b, ↓gR_2b, ↓gR_3b, ↓gR_4b, ↓gR_5b, ↓gR_6b, ↓gR_7b, ↓gR_8b, ↓gR_9b, ↓gR_10b, ↓gR_11b, ↓gR_12b, ↓gR_16b, ↓gR_17b, ↓gR_18b, ↓gR_19b, ↓gR_20b, ↓gR_21b, ↓gR_22b, ↓gR_23b, ↓gR_24b, ↓gR_25b, ↓gR_26b, ↓gR_27b, ↓gR_28b, ↓gR_29b, ↓gR_30b, ↓gR_31b, ↓gR_35b, ↓gR_38b, ↓gR_39b, ↓gR_40b, ↓gR_41b, ↓gR_52b, ↓gR_53b, ↓gR_54b, ↓aI_45b, ↓uI_45b, ↓aI_46b, ↓uI_46b, ↓aI_47b, ↓uI_47b, ↓aI_48b, ↓uI_48b, ↓aI_49b, ↓uI_49b, ↓aI_50b, ↓uI_50b, ↓aI_51b, ↓uI_51b, ↓aI_52b, ↓uI_52b, ↓aI_53b, ↓uI_53b, ↓aI_54b, ↓uI_54b, ↓aI_55b, ↓uI_55b, ↓aI_56b, ↓uI_56b, ↓aI_58b, ↓uI_58b, ↓uN_58b, ↓uM_58b, ↓aI_59b, ↓uI_59b, ↓aI_60b, ↓uI_60b, ↓aI_62b, ↓uI_62b, ↓uN_62b, ↓uM_62b, ↓aI_63b, ↓uI_63b, ↓uN_63b, ↓uM_63b, ↓aI_64b, ↓uI_64b, ↓aI_65b, ↓uI_65b, ↓aI_66b, ↓uI_66b, ↓aI_67b, ↓uI_67b, ↓aI_68b, ↓uI_68b, ↓aI_69b, ↓uI_69b, ↓aI_70b, ↓uI_70b, ↓aI_61b, ↓uI_61b, ↓aL_57b, ↓uL_57b, ↓aI_71b, ↓uI_71b, ↓aI_72b, ↓uI_72b, ↓aI_74b, ↓uI_74b, ↓aI_75b, ↓uI_75b, ↓aI_76b, ↓uI_76b, ↓aI_77b, ↓uI_77b, ↓aI_78b, ↓uI_78b, ↓aI_79b, ↓uI_79b, ↓aI_80b, ↓uI_80b, ↓aI_81b, ↓uI_81b, ↓gI_13b, ↓pI_13b, ↓gI_14b, ↓pI_14b, ↓gI_15b, ↓pI_15b, ↓gI_32b, ↓pI_32b, ↓gI_33b, ↓pI_33b, ↓gI_34b, ↓pI_34b, ↓gI_36b, ↓pI_36b, ↓gI_37b, ↓pI_37b, ↓gI_42b, ↓pI_42b, ↓gI_43b, ↓pI_43b, ↓gI_44b, ↓pI_44b, ↓gI_45b, ↓pI_45b, ↓gI_46b, ↓pI_46b, ↓gI_47b, ↓pI_47b, ↓gI_48b, ↓pI_48b, ↓gI_49b, ↓pI_49b, ↓gI_50b, ↓pI_50b, ↓gI_51b, ↓pI_51b, ↓pZ_32b, ↓pZ_33b, ↓pZ_46b, ↓xob_44b, ↓Option.bind_some, xob_44, gR_0, gR_1, gR_2, gR_3, gR_4, gR_5, gR_6, gR_7, gR_8, gR_9, gR_10, gR_11, gR_12, gR_16, gR_17, gR_18, gR_19, gR_20, gR_21, gR_22, gR_23, gR_24, gR_25, gR_26, gR_27, gR_28, gR_29, gR_30, gR_31, gR_35, gR_38, gR_39, gR_40, gR_41, gR_52, gR_53, gR_54, aI_45, aI_46, aI_47, aI_48, aI_49, aI_50, aI_51, aI_52, aI_53, aI_54, aI_55, aI_56, aI_58, aI_59, aI_60, aI_62, aI_63, aI_64, aI_65, aI_66, aI_67, aI_68, aI_69, aI_70, aI_61, aL_57, aI_71, aI_72, aI_74, aI_75, aI_76, aI_77, aI_78, aI_79, aI_80, aI_81, uI_45, uI_46, uI_47, uI_48, uI_49, uI_50, uI_51, uI_52, uI_53, uI_54, uI_55, uI_56, uI_58, uN_58, uM_58, uI_59, uI_60, uI_62, uN_62, uM_62, uI_63, uN_63, uM_63, uI_64, uI_65, uI_66, uI_67, uI_68, uI_69, uI_70, uI_61, uL_57, uI_71, uI_72, uI_74, uI_75, uI_76, uI_77, uI_78, uI_79, uI_80, uI_81, gI_13, gI_14, gI_15, gI_32, gI_33, gI_34, gI_36, gI_37, gI_42, gI_43, gI_44, gI_45, gI_46, gI_47, gI_48, gI_49, gI_50, gI_51, pI_13, pI_14, pI_15, pI_32, pI_33, pI_34, pI_36, pI_37, pI_42, pI_43, pI_44, pI_45, pI_46, pI_47, pI_48, pI_49, pI_50, pI_51, pZ_32, pZ_33, pZ_46, Option.bind_some, kl_0, kl_1, kl_2, kl_3, kl_4, kl_5, kl_6, kl_7, kl_8, kl_10, kl_13, kl_14, kl_15, kl_16, kl_24, kl_25, kl_26, kl_31, kl_32, kl_36, kl_40, kl_62, kl_99, kl_100, kl_255, kl_400, kl_992, kl_1023, kl_1024, kl_1984, kl_9200, kl_4600, kl_48, kl_57, kl_97, kl_122, kl_32767, nI_add, pk_mul, M_isCache, bI_0, dec_f]
  rcases ca_cases (s.1 19 0) a0 hn with h | ⟨c, hc, rfl, e⟩
  · have er : rLimit s a0 a1 = (m1, s) := if_neg (fun e => h e.1)
    rw [er]
    simp only [h, not_false_iff, if_true]
  · have hi : c < 4 := by omega
    rw [isIn_m (by decide), Option.bind_some]
    simp only [e, hc, not_true, if_false, bI_0, dec_f, Nat.reduceAdd]
    by_cases h1 : cN 100 a1 < 100
    · have er : rLimit s (nI c) a1 = (nI (s.1 5 (cN (s.1 19 0) (nI c))), sA s 5 (cN (s.1 19 0) (nI c)) (cN 100 a1)) := if_pos ⟨by rw [e]; exact hc, h1⟩
      rw [er, e]
      simp only [h1, not_true, if_false]
      rcases cN_cases 100 a1 (by decide) with ⟨h2, -⟩ | ⟨-, h2⟩
      · omega
      · generalize cN 100 a1 = v at h1 h2
        subst h2
        simp (disch := first | assumption | omega | decide | with_unfolding_all exact hW) only [↓gR_0b, ↓gR_1b, ↓gR_2b, ↓gR_3b, ↓gR_4b, ↓gR_5b, ↓gR_6b, ↓gR_7b, ↓gR_8b, ↓gR_9b, ↓gR_10b, ↓gR_11b, ↓gR_12b, ↓gR_16b, ↓gR_17b, ↓gR_18b, ↓gR_19b, ↓gR_20b, ↓gR_21b, ↓gR_22b, ↓gR_23b, ↓gR_24b, ↓gR_25b, ↓gR_26b, ↓gR_27b, ↓gR_28b, ↓gR_29b, ↓gR_30b, ↓gR_31b, ↓gR_35b, ↓gR_38b, ↓gR_39b, ↓gR_40b, ↓gR_41b, ↓gR_52b, ↓gR_53b, ↓gR_54b, ↓aI_45b, ↓uI_45b, ↓aI_46b, ↓uI_46b, ↓aI_47b, ↓uI_47b, ↓aI_48b, ↓uI_48b, ↓aI_49b, ↓uI_49b, ↓aI_50b, ↓uI_50b, ↓aI_51b, ↓uI_51b, ↓aI_52b, ↓uI_52b, ↓aI_53b, ↓uI_53b, ↓aI_54b, ↓uI_54b, ↓aI_55b, ↓uI_55b, ↓aI_56b, ↓uI_56b, ↓aI_58b, ↓uI_58b, ↓uN_58b, ↓uM_58b, ↓aI_59b, ↓uI_59b, ↓aI_60b, ↓uI_60b, ↓aI_62b, ↓uI_62b, ↓uN_62b, ↓uM_62b, ↓aI_63b, ↓uI_63b, ↓uN_63b, ↓uM_63b, ↓aI_64b, ↓uI_64b, ↓aI_65b, ↓uI_65b, ↓aI_66b, ↓uI_66b, ↓aI_67b, ↓uI_67b, ↓aI_68b, ↓uI_68b, ↓aI_69b, ↓uI_69b, ↓aI_70b, ↓uI_70b, ↓aI_61b, ↓uI_61b, ↓aL_57b, ↓uL_57b, ↓aI_71b, ↓uI_71b, ↓aI_72b, ↓uI_72b, ↓aI_74b, ↓uI_74b, ↓aI_75b, ↓uI_75b, ↓aI_76b, ↓uI_76b, ↓aI_77b, ↓uI_77b, ↓aI_78b, ↓uI_78b, ↓aI_79b, ↓uI_79b, ↓aI_80b, ↓uI_80b, ↓aI_81b, ↓uI_81b, ↓gI_13b, ↓pI_13b, ↓gI_14b, ↓pI_14b, ↓gI_15b, ↓pI_15b, ↓gI_32b, ↓pI_32b, ↓gI_33b, ↓pI_33b, ↓gI_34b, ↓pI_34b, ↓gI_36b, ↓pI_36b, ↓gI_37b, ↓pI_37b, ↓gI_42b, ↓pI_42b, ↓gI_43b, ↓pI_43b, ↓gI_44b, ↓pI_44b, ↓gI_45b, ↓pI_45b, ↓gI_46b, ↓pI_46b, ↓gI_47b, ↓pI_47b, ↓gI_48b, ↓pI_48b, ↓gI_49b, ↓pI_49b, ↓gI_50b, ↓pI_50b, ↓gI_51b, ↓pI_51b, ↓pZ_32b, ↓pZ_33b, ↓pZ_46b, ↓xob_44b, ↓Option.bind_some, xob_44, gR_0, gR_1, gR_2, gR_3, gR_4, gR_5, gR_6, gR_7, gR_8, gR_9, gR_10, gR_11, gR_12, gR_16, gR_17, gR_18, gR_19, gR_20, gR_21, gR_22, gR_23, gR_24, gR_25, gR_26, gR_27, gR_28, gR_29, gR_30, gR_31, gR_35, gR_38, gR_39, gR_40, gR_41, gR_52, gR_53, gR_54, aI_45, aI_46, aI_47, aI_48, aI_49, aI_50, aI_51, aI_52, aI_53, aI_54, aI_55, aI_56, aI_58, aI_59, aI_60, aI_62, aI_63, aI_64, aI_65, aI_66, aI_67, aI_68, aI_69, aI_70, aI_61, aL_57, aI_71, aI_72, aI_74, aI_75, aI_76, aI_77, aI_78, aI_79, aI_80, aI_81, uI_45, uI_46, uI_47, uI_48, uI_49, uI_50, uI_51, uI_52, uI_53, uI_54, uI_55, uI_56, uI_58, uN_58, uM_58, uI_59, uI_60, uI_62, uN_62, uM_62, uI_63, uN_63, uM_63, uI_64, uI_65, uI_66, uI_67, uI_68, uI_69, uI_70, uI_61, uL_57, uI_71, uI_72, uI_74, uI_75, uI_76, uI_77, uI_78, uI_79, uI_80, uI_81, gI_13, gI_14, gI_15, gI_32, gI_33, gI_34, gI_36, gI_37, gI_42, gI_43, gI_44, gI_45, gI_46, gI_47, gI_48, gI_49, gI_50, gI_51, pI_13, pI_14, pI_15, pI_32, pI_33, pI_34, pI_36, pI_37, pI_42, pI_43, pI_44, pI_45, pI_46, pI_47, pI_48, pI_49, pI_50, pI_51, pZ_32, pZ_33, pZ_46, Option.bind_some, kl_0, kl_1, kl_2, kl_3, kl_4, kl_5, kl_6, kl_7, kl_8, kl_10, kl_13, kl_14, kl_15, kl_16, kl_24, kl_25, kl_26, kl_31, kl_32, kl_36, kl_40, kl_62, kl_99, kl_100, kl_255, kl_400, kl_992, kl_1023, kl_1024, kl_1984, kl_9200, kl_4600, kl_48, kl_57, kl_97, kl_122, kl_32767, nI_add, pk_mul]
    · have er : rLimit s (nI c) a1 = (m1, s) := if_neg (fun e => h1 e.2)
      rw [er]
      simp only [h1, not_false_iff, if_true]
theorem rLimit_ok {s t : xS} (h : EQs s t) (hI : INV s) {a0 a1 : Int32} : (rLimit t a0 a1).1 = (rLimit s a0 a1).1 ∧ EQs (rLimit s a0 a1).2 (rLimit t a0 a1).2 ∧ INV (rLimit s a0 a1).2 := by
  unfold rLimit
  rw [h.n (j := 0) (by decide)]
  by_cases h1 : cN (s.1 19 0) a0 < s.1 19 0 ∧ cN 100 a1 < 100
  · rw [if_pos h1, if_pos h1]
    exact ⟨by show nI _ = nI _; rw [h.c (by decide) (by decide) h1.1], h.set (by simp) (by decide) (by decide) (by decide), hI.lim (by omega)⟩
  · rw [if_neg h1, if_neg h1]; exact ⟨rfl, h, hI⟩
/-! take -/
theorem takes_live {s : xS} (h : INV s) {c p : Nat} (hc : c < s.1 19 0) (hp : p < 4) (hl : (sTakes s c p).1 < 1984) : (sTakes s c p).2.1 17 (sTakes s c p).1 = 1 := by
  have pop : ∀ u m, (sPop u m).1 17 (qTop u m) = 1 := fun u m => by unfold sPop; rw [sA_1, if_pos ⟨rfl, rfl⟩]
  have mk : ∀ u b, (sMk u c b).1 17 b = 1 := fun u b => by unfold sMk; rw [sA_n (by decide), sA_1, if_pos ⟨rfl, rfl⟩]
  have ex : ∀ i m, qTop (sExch s i) m = qTop s m := fun i m => by
    unfold qTop sExch; rw [sA_n (by decide), sA_n (by decide), sA_n (by decide), sA_n (by decide)]
  unfold sTakes at hl ⊢
  by_cases a1 : qHas s (s.1 15 (4 * c + p)) = true
  · rw [if_pos a1]; exact pop _ _
  · rw [if_neg a1] at hl ⊢
    by_cases a2 : qHas s (s.1 16 (4 * c + p)) = true
    · rw [if_pos a2]
      have := pop (sExch s (4 * c + p)) (s.1 16 (4 * c + p))
      rw [ex] at this; exact this
    · rw [if_neg a2] at hl ⊢
      by_cases a3 : s.1 22 c = 0
      · rw [if_pos a3] at hl ⊢
        unfold sOut at hl ⊢
        by_cases b1 : qFirst s c < 1984
        · rw [if_pos b1]; exact mk _ _
        · rw [if_neg b1] at hl ⊢
          by_cases b2 : qPage s < 32
          · rw [if_pos b2]; exact mk _ _
          · rw [if_neg b2] at hl; exact absurd hl (Nat.lt_irrefl 1984)
      · rw [if_neg a3]
        have e20 : ∀ q i, q = 20 ∨ q = 21 → (sTak3 s c p).1 q i = s.1 q i := fun q i h => sTak3_20 h
        have eT := qTop_c (m := s.1 23 (24 * c + (s.1 22 c - 1))) e20
        have := pop (sTak3 s c p) (s.1 23 (24 * c + (s.1 22 c - 1)))
        rw [eT] at this; exact this
def rTake (s : xS) (a0 a1 : Int32) : Int32 × xS := if cN (s.1 19 0) a0 < s.1 19 0 ∧ cN 4 a1 < 4 then ((if (sTakes s (cN (s.1 19 0) a0) (cN 4 a1)).1 < 1984 then nI (qAddr (sTakes s (cN (s.1 19 0) a0) (cN 4 a1)).2 (sTakes s (cN (s.1 19 0) a0) (cN 4 a1)).1) else m3), (sTakes s (cN (s.1 19 0) a0) (cN 4 a1)).2) else (m1, s)
theorem rTake_no {s : xS} {a0 a1 : Int32} (h : ¬ (cN (s.1 19 0) a0 < s.1 19 0 ∧ cN 4 a1 < 4)) : rTake s a0 a1 = (m1, s) := if_neg h
theorem rTake_yes {s : xS} {c p : Nat} (hn : s.1 19 0 ≤ 4) (hc : c < s.1 19 0) (hp : p < 4) : rTake s (nI c) (nI p) = ((if (sTakes s c p).1 < 1984 then nI (qAddr (sTakes s c p).2 (sTakes s c p).1) else m3), (sTakes s c p).2) := by
  unfold rTake
  rw [cN_nI hc (by omega), cN_nI hp (by decide), if_pos ⟨hc, hp⟩]
theorem C_take {t : xS} {Y : xMem} {a0 a1 : Int32} (hW : XW Y) (hI : INV t) : fX_take (cM 0 t Y) (0, 0, 0) a0 a1 = some ((rTake t a0 a1).1, cM 0 (rTake t a0 a1).2 Y) := by
  have hn := hI.R.n
  have hb : 0 < 3 := by decide
  unfold fX_take
  simp (disch := first | assumption | omega | decide | with_unfolding_all exact hW) only [↓km1, ↓kn2, ↓kn3, ↓kn5, ↓kn11, ↓kn13, ↓kn14, ↓cX_0b, ↓cX_1b, ↓cX_2b, ↓cX_4b, ↓cX_5b, ↓cX_10b, ↓cX_11b, ↓cX_12b, ↓cX_14b, ↓cXob, cX_0, cX_1, cX_2, cX_4, cX_5, cX_10, cX_11, cX_12, cX_14, cXo, ↓km1, ↓cO_1b, ↓cO_2b, ↓cO_14b, ↓cO_17b, ↓cO_19b, ↓cO_21b, ↓cR_1_0b, ↓cR_1_1b, ↓cR_1_2b, ↓cR_1_3b, ↓cR_2_0b, ↓cR_2_1b, ↓cR_2_2b, ↓cR_2_3b, ↓cR_2_4b, ↓cR_2_5b, ↓cR_2_6b, ↓cR_2_7b, ↓cR_14_14b, ↓cR_14_15b, ↓cR_14_16b, ↓cR_14_17b, ↓cR_17_0b, ↓cR_19_0b, ↓cR_21_0b, ↓cA_11b, ↓cA_12b, ↓cg_1_4b, ↓cg_1_5b, ↓cg_1_6b, ↓cg_1_7b, ↓cg_14_0b, ↓cg_14_1b, ↓cg_14_2b, ↓cg_14_3b, ↓cg_14_4b, ↓cg_14_5b, ↓cg_14_6b, ↓cg_14_7b, ↓cg_14_8b, ↓cg_14_9b, ↓cg_14_10b, ↓cg_14_11b, ↓cg_14_12b, ↓cg_14_13b, ↓cg_17_1b, ↓cg_19_1b, ↓cg_21_1b, ↓ca_3b, ↓ca_4b, ↓ca_5b, ↓ca_6b, ↓ca_9b, ↓ca_15b, ↓ca_16b, ↓ca_18b, ↓ca_20b, ↓ca_22b, ↓ca_13b, ↓ca_7b, ↓ca_8b, ↓cp_1_4b, ↓cp_1_6b, ↓cp_1_7b, ↓cp_14_0b, ↓cp_14_2b, ↓cp_14_4b, ↓cp_14_5b, ↓cp_14_6b, ↓cp_14_7b, ↓cp_14_8b, ↓cp_14_9b, ↓cp_14_10b, ↓cp_14_11b, ↓cp_14_12b, ↓cp_14_13b, ↓cp_17_1b, ↓cp_19_1b, ↓cp_21_1b, ↓cu_4b, ↓cu_15b, ↓cn_15b, ↓cm_15b, ↓cu_16b, ↓cn_16b, ↓cm_16b, ↓cu_18b, ↓cu_20b, ↓cu_22b, ↓cu_9b, ↓cl_15b, ↓cl_16b, ↓cl_18b, ↓cl_20b, ↓cl_22b, ↓Option.bind_some, cO_1, cO_2, cO_14, cO_17, cO_19, cO_21, cR_1_0, cR_1_1, cR_1_2, cR_1_3, cR_2_0, cR_2_1, cR_2_2, cR_2_3, cR_2_4, cR_2_5, cR_2_6, cR_2_7, cR_14_14, cR_14_15, cR_14_16, cR_14_17, cR_17_0, cR_19_0, cR_21_0, cA_11, cA_12, cg_1_4, cg_1_5, cg_1_6, cg_1_7, cg_14_0, cg_14_1, cg_14_2, cg_14_3, cg_14_4, cg_14_5, cg_14_6, cg_14_7, cg_14_8, cg_14_9, cg_14_10, cg_14_11, cg_14_12, cg_14_13, cg_17_1, cg_19_1, cg_21_1, ca_3, ca_4, ca_5, ca_6, ca_9, ca_15, ca_16, ca_18, ca_20, ca_22, ca_13, ca_7, ca_8, cp_1_4, cp_1_6, cp_1_7, cp_14_0, cp_14_2, cp_14_4, cp_14_5, cp_14_6, cp_14_7, cp_14_8, cp_14_9, cp_14_10, cp_14_11, cp_14_12, cp_14_13, cp_17_1, cp_19_1, cp_21_1, cu_4, cu_15, cn_15, cm_15, cu_16, cn_16, cm_16, cu_18, cu_20, cu_22, cu_9, cl_15, cl_16, cl_18, cl_20, cl_22, Option.bind_some, kl_0, kl_1, kl_2, kl_3, kl_4, kl_5, kl_6, kl_7, kl_8, kl_10, kl_13, kl_14, kl_15, kl_16, kl_24, kl_25, kl_26, kl_31, kl_32, kl_36, kl_40, kl_62, kl_99, kl_100, kl_255, kl_400, kl_992, kl_1023, kl_1024, kl_1984, kl_9200, kl_4600, kl_48, kl_57, kl_97, kl_122, kl_32767, nI_add, pk_mul]
  rw [D_cacheAt hW hb hn, Option.bind_some]
  rcases ca_cases (t.1 19 0) a0 hn with h | ⟨c, hc, rfl, e⟩
  · rw [rTake_no (fun e => h e.1)]
    simp only [h, if_false, eq_self, if_true]
  · simp only [e, hc, if_true, reduceCtorEq, if_false]
    rw [isP_v, Option.bind_some]
    rcases pr_cases a1 with h | ⟨p, hp, rfl, e2⟩
    · rw [rTake_no (fun e => h e.2)]
      simp only [bI_0, dec_f, h, not_false_iff, if_true]
    · rw [rTake_yes hn hc hp]
      simp only [bI_0, dec_f, e2, hp, not_true, if_false]
      have ht := D_takeBy (b := 0) (Y := Y) hW hb hI hc hp
      simp (disch := first | assumption | omega | decide | with_unfolding_all exact hW) only [↓cX_0b, ↓cX_1b, ↓cX_2b, ↓cX_4b, ↓cX_5b, ↓cX_10b, ↓cX_11b, ↓cX_12b, ↓cX_14b, ↓cXob, cX_0, cX_1, cX_2, cX_4, cX_5, cX_10, cX_11, cX_12, cX_14, cXo, ↓km1, ↓cO_1b, ↓cO_2b, ↓cO_14b, ↓cO_17b, ↓cO_19b, ↓cO_21b, ↓cR_1_0b, ↓cR_1_1b, ↓cR_1_2b, ↓cR_1_3b, ↓cR_2_0b, ↓cR_2_1b, ↓cR_2_2b, ↓cR_2_3b, ↓cR_2_4b, ↓cR_2_5b, ↓cR_2_6b, ↓cR_2_7b, ↓cR_14_14b, ↓cR_14_15b, ↓cR_14_16b, ↓cR_14_17b, ↓cR_17_0b, ↓cR_19_0b, ↓cR_21_0b, ↓cA_11b, ↓cA_12b, ↓cg_1_4b, ↓cg_1_5b, ↓cg_1_6b, ↓cg_1_7b, ↓cg_14_0b, ↓cg_14_1b, ↓cg_14_2b, ↓cg_14_3b, ↓cg_14_4b, ↓cg_14_5b, ↓cg_14_6b, ↓cg_14_7b, ↓cg_14_8b, ↓cg_14_9b, ↓cg_14_10b, ↓cg_14_11b, ↓cg_14_12b, ↓cg_14_13b, ↓cg_17_1b, ↓cg_19_1b, ↓cg_21_1b, ↓ca_3b, ↓ca_4b, ↓ca_5b, ↓ca_6b, ↓ca_9b, ↓ca_15b, ↓ca_16b, ↓ca_18b, ↓ca_20b, ↓ca_22b, ↓ca_13b, ↓ca_7b, ↓ca_8b, ↓cp_1_4b, ↓cp_1_6b, ↓cp_1_7b, ↓cp_14_0b, ↓cp_14_2b, ↓cp_14_4b, ↓cp_14_5b, ↓cp_14_6b, ↓cp_14_7b, ↓cp_14_8b, ↓cp_14_9b, ↓cp_14_10b, ↓cp_14_11b, ↓cp_14_12b, ↓cp_14_13b, ↓cp_17_1b, ↓cp_19_1b, ↓cp_21_1b, ↓cu_4b, ↓cu_15b, ↓cn_15b, ↓cm_15b, ↓cu_16b, ↓cn_16b, ↓cm_16b, ↓cu_18b, ↓cu_20b, ↓cu_22b, ↓cu_9b, ↓cl_15b, ↓cl_16b, ↓cl_18b, ↓cl_20b, ↓cl_22b, ↓Option.bind_some, cO_1, cO_2, cO_14, cO_17, cO_19, cO_21, cR_1_0, cR_1_1, cR_1_2, cR_1_3, cR_2_0, cR_2_1, cR_2_2, cR_2_3, cR_2_4, cR_2_5, cR_2_6, cR_2_7, cR_14_14, cR_14_15, cR_14_16, cR_14_17, cR_17_0, cR_19_0, cR_21_0, cA_11, cA_12, cg_1_4, cg_1_5, cg_1_6, cg_1_7, cg_14_0, cg_14_1, cg_14_2, cg_14_3, cg_14_4, cg_14_5, cg_14_6, cg_14_7, cg_14_8, cg_14_9, cg_14_10, cg_14_11, cg_14_12, cg_14_13, cg_17_1, cg_19_1, cg_21_1, ca_3, ca_4, ca_5, ca_6, ca_9, ca_15, ca_16, ca_18, ca_20, ca_22, ca_13, ca_7, ca_8, cp_1_4, cp_1_6, cp_1_7, cp_14_0, cp_14_2, cp_14_4, cp_14_5, cp_14_6, cp_14_7, cp_14_8, cp_14_9, cp_14_10, cp_14_11, cp_14_12, cp_14_13, cp_17_1, cp_19_1, cp_21_1, cu_4, cu_15, cn_15, cm_15, cu_16, cn_16, cm_16, cu_18, cu_20, cu_22, cu_9, cl_15, cl_16, cl_18, cl_20, cl_22, Option.bind_some, kl_0, kl_1, kl_2, kl_3, kl_4, kl_5, kl_6, kl_7, kl_8, kl_10, kl_13, kl_14, kl_15, kl_16, kl_24, kl_25, kl_26, kl_31, kl_32, kl_36, kl_40, kl_62, kl_99, kl_100, kl_255, kl_400, kl_992, kl_1023, kl_1024, kl_1984, kl_9200, kl_4600, kl_48, kl_57, kl_97, kl_122, kl_32767, nI_add, pk_mul, ht]
      by_cases hl : (sTakes t c p).1 < 1984
      · have h17 := takes_live hI hc hp hl
        have hV := (hI.takes hc hp).V hl (by omega)
        have h13 := hV.1
        simp (disch := first | assumption | omega | decide | with_unfolding_all exact hW) only [en_lt hl, hl, if_true, ↓km1, nI_m1, en_m1, m1_lt0, m1_eq, m1_0, nI_00, nI_10, nI_0le, nI_n0, if_false, ↓cX_0b, ↓cX_1b, ↓cX_2b, ↓cX_4b, ↓cX_5b, ↓cX_10b, ↓cX_11b, ↓cX_12b, ↓cX_14b, ↓cXob, cX_0, cX_1, cX_2, cX_4, cX_5, cX_10, cX_11, cX_12, cX_14, cXo, ↓km1, ↓cO_1b, ↓cO_2b, ↓cO_14b, ↓cO_17b, ↓cO_19b, ↓cO_21b, ↓cR_1_0b, ↓cR_1_1b, ↓cR_1_2b, ↓cR_1_3b, ↓cR_2_0b, ↓cR_2_1b, ↓cR_2_2b, ↓cR_2_3b, ↓cR_2_4b, ↓cR_2_5b, ↓cR_2_6b, ↓cR_2_7b, ↓cR_14_14b, ↓cR_14_15b, ↓cR_14_16b, ↓cR_14_17b, ↓cR_17_0b, ↓cR_19_0b, ↓cR_21_0b, ↓cA_11b, ↓cA_12b, ↓cg_1_4b, ↓cg_1_5b, ↓cg_1_6b, ↓cg_1_7b, ↓cg_14_0b, ↓cg_14_1b, ↓cg_14_2b, ↓cg_14_3b, ↓cg_14_4b, ↓cg_14_5b, ↓cg_14_6b, ↓cg_14_7b, ↓cg_14_8b, ↓cg_14_9b, ↓cg_14_10b, ↓cg_14_11b, ↓cg_14_12b, ↓cg_14_13b, ↓cg_17_1b, ↓cg_19_1b, ↓cg_21_1b, ↓ca_3b, ↓ca_4b, ↓ca_5b, ↓ca_6b, ↓ca_9b, ↓ca_15b, ↓ca_16b, ↓ca_18b, ↓ca_20b, ↓ca_22b, ↓ca_13b, ↓ca_7b, ↓ca_8b, ↓cp_1_4b, ↓cp_1_6b, ↓cp_1_7b, ↓cp_14_0b, ↓cp_14_2b, ↓cp_14_4b, ↓cp_14_5b, ↓cp_14_6b, ↓cp_14_7b, ↓cp_14_8b, ↓cp_14_9b, ↓cp_14_10b, ↓cp_14_11b, ↓cp_14_12b, ↓cp_14_13b, ↓cp_17_1b, ↓cp_19_1b, ↓cp_21_1b, ↓cu_4b, ↓cu_15b, ↓cn_15b, ↓cm_15b, ↓cu_16b, ↓cn_16b, ↓cm_16b, ↓cu_18b, ↓cu_20b, ↓cu_22b, ↓cu_9b, ↓cl_15b, ↓cl_16b, ↓cl_18b, ↓cl_20b, ↓cl_22b, ↓Option.bind_some, cO_1, cO_2, cO_14, cO_17, cO_19, cO_21, cR_1_0, cR_1_1, cR_1_2, cR_1_3, cR_2_0, cR_2_1, cR_2_2, cR_2_3, cR_2_4, cR_2_5, cR_2_6, cR_2_7, cR_14_14, cR_14_15, cR_14_16, cR_14_17, cR_17_0, cR_19_0, cR_21_0, cA_11, cA_12, cg_1_4, cg_1_5, cg_1_6, cg_1_7, cg_14_0, cg_14_1, cg_14_2, cg_14_3, cg_14_4, cg_14_5, cg_14_6, cg_14_7, cg_14_8, cg_14_9, cg_14_10, cg_14_11, cg_14_12, cg_14_13, cg_17_1, cg_19_1, cg_21_1, ca_3, ca_4, ca_5, ca_6, ca_9, ca_15, ca_16, ca_18, ca_20, ca_22, ca_13, ca_7, ca_8, cp_1_4, cp_1_6, cp_1_7, cp_14_0, cp_14_2, cp_14_4, cp_14_5, cp_14_6, cp_14_7, cp_14_8, cp_14_9, cp_14_10, cp_14_11, cp_14_12, cp_14_13, cp_17_1, cp_19_1, cp_21_1, cu_4, cu_15, cn_15, cm_15, cu_16, cn_16, cm_16, cu_18, cu_20, cu_22, cu_9, cl_15, cl_16, cl_18, cl_20, cl_22, Option.bind_some, kl_0, kl_1, kl_2, kl_3, kl_4, kl_5, kl_6, kl_7, kl_8, kl_10, kl_13, kl_14, kl_15, kl_16, kl_24, kl_25, kl_26, kl_31, kl_32, kl_36, kl_40, kl_62, kl_99, kl_100, kl_255, kl_400, kl_992, kl_1023, kl_1024, kl_1984, kl_9200, kl_4600, kl_48, kl_57, kl_97, kl_122, kl_32767, nI_add, pk_mul, D_addressOf]
      · simp only [en_ge hl, hl, if_false, eq_self, if_true]
theorem M_take {d : Int32} {s : xS} {X : xMem} {a0 a1 : Int32} (hW : XW X) (hI : INV s) : fM_take (mM d s X) (44, 0, 0) a0 a1 = some ((rTake s a0 a1).1, mM d (rTake s a0 a1).2 X) := by
  have hn := hI.R.n
  unfold fM_take
  simp (disch := first | assumption | omega | decide | with_unfolding_all exact hW) only [↓km1, ↓kn2, ↓kn3, ↓kn5, ↓kn11, ↓kn13, ↓kn14, ↓gR_0b, ↓gR_1b, ↓gR_2b, ↓gR_3b, ↓gR_4b, ↓gR_5b, ↓gR_6b, ↓gR_7b, ↓gR_8b, ↓gR_9b, ↓gR_10b, ↓gR_11b, ↓gR_12b, ↓gR_16b, ↓gR_17b, ↓gR_18b, ↓gR_19b, ↓gR_20b, ↓gR_21b, ↓gR_22b, ↓gR_23b, ↓gR_24b, ↓gR_25b, ↓gR_26b, ↓gR_27b, ↓gR_28b, ↓gR_29b, ↓gR_30b, ↓gR_31b, ↓gR_35b, ↓gR_38b, ↓gR_39b, ↓gR_40b, ↓gR_41b, ↓gR_52b, ↓gR_53b, ↓gR_54b, ↓aI_45b, ↓uI_45b, ↓aI_46b, ↓uI_46b, ↓aI_47b, ↓uI_47b, ↓aI_48b, ↓uI_48b, ↓aI_49b, ↓uI_49b, ↓aI_50b, ↓uI_50b, ↓aI_51b, ↓uI_51b, ↓aI_52b, ↓uI_52b, ↓aI_53b, ↓uI_53b, ↓aI_54b, ↓uI_54b, ↓aI_55b, ↓uI_55b, ↓aI_56b, ↓uI_56b, ↓aI_58b, ↓uI_58b, ↓uN_58b, ↓uM_58b, ↓aI_59b, ↓uI_59b, ↓aI_60b, ↓uI_60b, ↓aI_62b, ↓uI_62b, ↓uN_62b, ↓uM_62b, ↓aI_63b, ↓uI_63b, ↓uN_63b, ↓uM_63b, ↓aI_64b, ↓uI_64b, ↓aI_65b, ↓uI_65b, ↓aI_66b, ↓uI_66b, ↓aI_67b, ↓uI_67b, ↓aI_68b, ↓uI_68b, ↓aI_69b, ↓uI_69b, ↓aI_70b, ↓uI_70b, ↓aI_61b, ↓uI_61b, ↓aL_57b, ↓uL_57b, ↓aI_71b, ↓uI_71b, ↓aI_72b, ↓uI_72b, ↓aI_74b, ↓uI_74b, ↓aI_75b, ↓uI_75b, ↓aI_76b, ↓uI_76b, ↓aI_77b, ↓uI_77b, ↓aI_78b, ↓uI_78b, ↓aI_79b, ↓uI_79b, ↓aI_80b, ↓uI_80b, ↓aI_81b, ↓uI_81b, ↓gI_13b, ↓pI_13b, ↓gI_14b, ↓pI_14b, ↓gI_15b, ↓pI_15b, ↓gI_32b, ↓pI_32b, ↓gI_33b, ↓pI_33b, ↓gI_34b, ↓pI_34b, ↓gI_36b, ↓pI_36b, ↓gI_37b, ↓pI_37b, ↓gI_42b, ↓pI_42b, ↓gI_43b, ↓pI_43b, ↓gI_44b, ↓pI_44b, ↓gI_45b, ↓pI_45b, ↓gI_46b, ↓pI_46b, ↓gI_47b, ↓pI_47b, ↓gI_48b, ↓pI_48b, ↓gI_49b, ↓pI_49b, ↓gI_50b, ↓pI_50b, ↓gI_51b, ↓pI_51b, ↓pZ_32b, ↓pZ_33b, ↓pZ_46b, ↓xob_44b, ↓Option.bind_some, xob_44, gR_0, gR_1, gR_2, gR_3, gR_4, gR_5, gR_6, gR_7, gR_8, gR_9, gR_10, gR_11, gR_12, gR_16, gR_17, gR_18, gR_19, gR_20, gR_21, gR_22, gR_23, gR_24, gR_25, gR_26, gR_27, gR_28, gR_29, gR_30, gR_31, gR_35, gR_38, gR_39, gR_40, gR_41, gR_52, gR_53, gR_54, aI_45, aI_46, aI_47, aI_48, aI_49, aI_50, aI_51, aI_52, aI_53, aI_54, aI_55, aI_56, aI_58, aI_59, aI_60, aI_62, aI_63, aI_64, aI_65, aI_66, aI_67, aI_68, aI_69, aI_70, aI_61, aL_57, aI_71, aI_72, aI_74, aI_75, aI_76, aI_77, aI_78, aI_79, aI_80, aI_81, uI_45, uI_46, uI_47, uI_48, uI_49, uI_50, uI_51, uI_52, uI_53, uI_54, uI_55, uI_56, uI_58, uN_58, uM_58, uI_59, uI_60, uI_62, uN_62, uM_62, uI_63, uN_63, uM_63, uI_64, uI_65, uI_66, uI_67, uI_68, uI_69, uI_70, uI_61, uL_57, uI_71, uI_72, uI_74, uI_75, uI_76, uI_77, uI_78, uI_79, uI_80, uI_81, gI_13, gI_14, gI_15, gI_32, gI_33, gI_34, gI_36, gI_37, gI_42, gI_43, gI_44, gI_45, gI_46, gI_47, gI_48, gI_49, gI_50, gI_51, pI_13, pI_14, pI_15, pI_32, pI_33, pI_34, pI_36, pI_37, pI_42, pI_43, pI_44, pI_45, pI_46, pI_47, pI_48, pI_49, pI_50, pI_51, pZ_32, pZ_33, pZ_46, Option.bind_some, kl_0, kl_1, kl_2, kl_3, kl_4, kl_5, kl_6, kl_7, kl_8, kl_10, kl_13, kl_14, kl_15, kl_16, kl_24, kl_25, kl_26, kl_31, kl_32, kl_36, kl_40, kl_62, kl_99, kl_100, kl_255, kl_400, kl_992, kl_1023, kl_1024, kl_1984, kl_9200, kl_4600, kl_48, kl_57, kl_97, kl_122, kl_32767, nI_add, pk_mul, M_isCache, bI_0, dec_f]
  rcases ca_cases (s.1 19 0) a0 hn with h | ⟨c, hc, rfl, e⟩
  · rw [rTake_no (fun e => h e.1)]
    simp only [h, not_false_iff, if_true]
  · simp only [e, hc, not_true, if_false]
    rw [M_isProc, Option.bind_some]
    rcases pr_cases a1 with h | ⟨p, hp, rfl, e2⟩
    · rw [rTake_no (fun e => h e.2)]
      simp only [bI_0, dec_f, h, not_false_iff, if_true]
    · have ht := M_takes (d := d) (X := X) hW hI.R hI.S' hc hp (hI.preT hc hp)
      rw [rTake_yes hn hc hp]
      simp only [bI_0, dec_f, e2, hp, not_true, if_false]
      simp (disch := first | assumption | omega | decide | with_unfolding_all exact hW) only [↓gR_0b, ↓gR_1b, ↓gR_2b, ↓gR_3b, ↓gR_4b, ↓gR_5b, ↓gR_6b, ↓gR_7b, ↓gR_8b, ↓gR_9b, ↓gR_10b, ↓gR_11b, ↓gR_12b, ↓gR_16b, ↓gR_17b, ↓gR_18b, ↓gR_19b, ↓gR_20b, ↓gR_21b, ↓gR_22b, ↓gR_23b, ↓gR_24b, ↓gR_25b, ↓gR_26b, ↓gR_27b, ↓gR_28b, ↓gR_29b, ↓gR_30b, ↓gR_31b, ↓gR_35b, ↓gR_38b, ↓gR_39b, ↓gR_40b, ↓gR_41b, ↓gR_52b, ↓gR_53b, ↓gR_54b, ↓aI_45b, ↓uI_45b, ↓aI_46b, ↓uI_46b, ↓aI_47b, ↓uI_47b, ↓aI_48b, ↓uI_48b, ↓aI_49b, ↓uI_49b, ↓aI_50b, ↓uI_50b, ↓aI_51b, ↓uI_51b, ↓aI_52b, ↓uI_52b, ↓aI_53b, ↓uI_53b, ↓aI_54b, ↓uI_54b, ↓aI_55b, ↓uI_55b, ↓aI_56b, ↓uI_56b, ↓aI_58b, ↓uI_58b, ↓uN_58b, ↓uM_58b, ↓aI_59b, ↓uI_59b, ↓aI_60b, ↓uI_60b, ↓aI_62b, ↓uI_62b, ↓uN_62b, ↓uM_62b, ↓aI_63b, ↓uI_63b, ↓uN_63b, ↓uM_63b, ↓aI_64b, ↓uI_64b, ↓aI_65b, ↓uI_65b, ↓aI_66b, ↓uI_66b, ↓aI_67b, ↓uI_67b, ↓aI_68b, ↓uI_68b, ↓aI_69b, ↓uI_69b, ↓aI_70b, ↓uI_70b, ↓aI_61b, ↓uI_61b, ↓aL_57b, ↓uL_57b, ↓aI_71b, ↓uI_71b, ↓aI_72b, ↓uI_72b, ↓aI_74b, ↓uI_74b, ↓aI_75b, ↓uI_75b, ↓aI_76b, ↓uI_76b, ↓aI_77b, ↓uI_77b, ↓aI_78b, ↓uI_78b, ↓aI_79b, ↓uI_79b, ↓aI_80b, ↓uI_80b, ↓aI_81b, ↓uI_81b, ↓gI_13b, ↓pI_13b, ↓gI_14b, ↓pI_14b, ↓gI_15b, ↓pI_15b, ↓gI_32b, ↓pI_32b, ↓gI_33b, ↓pI_33b, ↓gI_34b, ↓pI_34b, ↓gI_36b, ↓pI_36b, ↓gI_37b, ↓pI_37b, ↓gI_42b, ↓pI_42b, ↓gI_43b, ↓pI_43b, ↓gI_44b, ↓pI_44b, ↓gI_45b, ↓pI_45b, ↓gI_46b, ↓pI_46b, ↓gI_47b, ↓pI_47b, ↓gI_48b, ↓pI_48b, ↓gI_49b, ↓pI_49b, ↓gI_50b, ↓pI_50b, ↓gI_51b, ↓pI_51b, ↓pZ_32b, ↓pZ_33b, ↓pZ_46b, ↓xob_44b, ↓Option.bind_some, xob_44, gR_0, gR_1, gR_2, gR_3, gR_4, gR_5, gR_6, gR_7, gR_8, gR_9, gR_10, gR_11, gR_12, gR_16, gR_17, gR_18, gR_19, gR_20, gR_21, gR_22, gR_23, gR_24, gR_25, gR_26, gR_27, gR_28, gR_29, gR_30, gR_31, gR_35, gR_38, gR_39, gR_40, gR_41, gR_52, gR_53, gR_54, aI_45, aI_46, aI_47, aI_48, aI_49, aI_50, aI_51, aI_52, aI_53, aI_54, aI_55, aI_56, aI_58, aI_59, aI_60, aI_62, aI_63, aI_64, aI_65, aI_66, aI_67, aI_68, aI_69, aI_70, aI_61, aL_57, aI_71, aI_72, aI_74, aI_75, aI_76, aI_77, aI_78, aI_79, aI_80, aI_81, uI_45, uI_46, uI_47, uI_48, uI_49, uI_50, uI_51, uI_52, uI_53, uI_54, uI_55, uI_56, uI_58, uN_58, uM_58, uI_59, uI_60, uI_62, uN_62, uM_62, uI_63, uN_63, uM_63, uI_64, uI_65, uI_66, uI_67, uI_68, uI_69, uI_70, uI_61, uL_57, uI_71, uI_72, uI_74, uI_75, uI_76, uI_77, uI_78, uI_79, uI_80, uI_81, gI_13, gI_14, gI_15, gI_32, gI_33, gI_34, gI_36, gI_37, gI_42, gI_43, gI_44, gI_45, gI_46, gI_47, gI_48, gI_49, gI_50, gI_51, pI_13, pI_14, pI_15, pI_32, pI_33, pI_34, pI_36, pI_37, pI_42, pI_43, pI_44, pI_45, pI_46, pI_47, pI_48, pI_49, pI_50, pI_51, pZ_32, pZ_33, pZ_46, Option.bind_some, kl_0, kl_1, kl_2, kl_3, kl_4, kl_5, kl_6, kl_7, kl_8, kl_10, kl_13, kl_14, kl_15, kl_16, kl_24, kl_25, kl_26, kl_31, kl_32, kl_36, kl_40, kl_62, kl_99, kl_100, kl_255, kl_400, kl_992, kl_1023, kl_1024, kl_1984, kl_9200, kl_4600, kl_48, kl_57, kl_97, kl_122, kl_32767, nI_add, pk_mul, ht]
      simp only [en_0le (show (1984 : Nat) < 2 ^ 31 by decide) (show (-9 : Int32) < 0 by decide)]
      by_cases hl : (sTakes s c p).1 < 1984
      · have h17 := takes_live hI hc hp hl
        have hV := (hI.takes hc hp).V hl (by omega)
        have h13 := hV.1
        simp (disch := first | assumption | omega | decide | with_unfolding_all exact hW) only [en_lt hl, hl, if_true, ↓gR_0b, ↓gR_1b, ↓gR_2b, ↓gR_3b, ↓gR_4b, ↓gR_5b, ↓gR_6b, ↓gR_7b, ↓gR_8b, ↓gR_9b, ↓gR_10b, ↓gR_11b, ↓gR_12b, ↓gR_16b, ↓gR_17b, ↓gR_18b, ↓gR_19b, ↓gR_20b, ↓gR_21b, ↓gR_22b, ↓gR_23b, ↓gR_24b, ↓gR_25b, ↓gR_26b, ↓gR_27b, ↓gR_28b, ↓gR_29b, ↓gR_30b, ↓gR_31b, ↓gR_35b, ↓gR_38b, ↓gR_39b, ↓gR_40b, ↓gR_41b, ↓gR_52b, ↓gR_53b, ↓gR_54b, ↓aI_45b, ↓uI_45b, ↓aI_46b, ↓uI_46b, ↓aI_47b, ↓uI_47b, ↓aI_48b, ↓uI_48b, ↓aI_49b, ↓uI_49b, ↓aI_50b, ↓uI_50b, ↓aI_51b, ↓uI_51b, ↓aI_52b, ↓uI_52b, ↓aI_53b, ↓uI_53b, ↓aI_54b, ↓uI_54b, ↓aI_55b, ↓uI_55b, ↓aI_56b, ↓uI_56b, ↓aI_58b, ↓uI_58b, ↓uN_58b, ↓uM_58b, ↓aI_59b, ↓uI_59b, ↓aI_60b, ↓uI_60b, ↓aI_62b, ↓uI_62b, ↓uN_62b, ↓uM_62b, ↓aI_63b, ↓uI_63b, ↓uN_63b, ↓uM_63b, ↓aI_64b, ↓uI_64b, ↓aI_65b, ↓uI_65b, ↓aI_66b, ↓uI_66b, ↓aI_67b, ↓uI_67b, ↓aI_68b, ↓uI_68b, ↓aI_69b, ↓uI_69b, ↓aI_70b, ↓uI_70b, ↓aI_61b, ↓uI_61b, ↓aL_57b, ↓uL_57b, ↓aI_71b, ↓uI_71b, ↓aI_72b, ↓uI_72b, ↓aI_74b, ↓uI_74b, ↓aI_75b, ↓uI_75b, ↓aI_76b, ↓uI_76b, ↓aI_77b, ↓uI_77b, ↓aI_78b, ↓uI_78b, ↓aI_79b, ↓uI_79b, ↓aI_80b, ↓uI_80b, ↓aI_81b, ↓uI_81b, ↓gI_13b, ↓pI_13b, ↓gI_14b, ↓pI_14b, ↓gI_15b, ↓pI_15b, ↓gI_32b, ↓pI_32b, ↓gI_33b, ↓pI_33b, ↓gI_34b, ↓pI_34b, ↓gI_36b, ↓pI_36b, ↓gI_37b, ↓pI_37b, ↓gI_42b, ↓pI_42b, ↓gI_43b, ↓pI_43b, ↓gI_44b, ↓pI_44b, ↓gI_45b, ↓pI_45b, ↓gI_46b, ↓pI_46b, ↓gI_47b, ↓pI_47b, ↓gI_48b, ↓pI_48b, ↓gI_49b, ↓pI_49b, ↓gI_50b, ↓pI_50b, ↓gI_51b, ↓pI_51b, ↓pZ_32b, ↓pZ_33b, ↓pZ_46b, ↓xob_44b, ↓Option.bind_some, xob_44, gR_0, gR_1, gR_2, gR_3, gR_4, gR_5, gR_6, gR_7, gR_8, gR_9, gR_10, gR_11, gR_12, gR_16, gR_17, gR_18, gR_19, gR_20, gR_21, gR_22, gR_23, gR_24, gR_25, gR_26, gR_27, gR_28, gR_29, gR_30, gR_31, gR_35, gR_38, gR_39, gR_40, gR_41, gR_52, gR_53, gR_54, aI_45, aI_46, aI_47, aI_48, aI_49, aI_50, aI_51, aI_52, aI_53, aI_54, aI_55, aI_56, aI_58, aI_59, aI_60, aI_62, aI_63, aI_64, aI_65, aI_66, aI_67, aI_68, aI_69, aI_70, aI_61, aL_57, aI_71, aI_72, aI_74, aI_75, aI_76, aI_77, aI_78, aI_79, aI_80, aI_81, uI_45, uI_46, uI_47, uI_48, uI_49, uI_50, uI_51, uI_52, uI_53, uI_54, uI_55, uI_56, uI_58, uN_58, uM_58, uI_59, uI_60, uI_62, uN_62, uM_62, uI_63, uN_63, uM_63, uI_64, uI_65, uI_66, uI_67, uI_68, uI_69, uI_70, uI_61, uL_57, uI_71, uI_72, uI_74, uI_75, uI_76, uI_77, uI_78, uI_79, uI_80, uI_81, gI_13, gI_14, gI_15, gI_32, gI_33, gI_34, gI_36, gI_37, gI_42, gI_43, gI_44, gI_45, gI_46, gI_47, gI_48, gI_49, gI_50, gI_51, pI_13, pI_14, pI_15, pI_32, pI_33, pI_34, pI_36, pI_37, pI_42, pI_43, pI_44, pI_45, pI_46, pI_47, pI_48, pI_49, pI_50, pI_51, pZ_32, pZ_33, pZ_46, Option.bind_some, kl_0, kl_1, kl_2, kl_3, kl_4, kl_5, kl_6, kl_7, kl_8, kl_10, kl_13, kl_14, kl_15, kl_16, kl_24, kl_25, kl_26, kl_31, kl_32, kl_36, kl_40, kl_62, kl_99, kl_100, kl_255, kl_400, kl_992, kl_1023, kl_1024, kl_1984, kl_9200, kl_4600, kl_48, kl_57, kl_97, kl_122, kl_32767, nI_add, pk_mul, M_addressOf]
      · simp only [hl, if_false]
theorem rTake_ok {s t : xS} (h : EQs s t) (hI : INV s) {a0 a1 : Int32} : (rTake t a0 a1).1 = (rTake s a0 a1).1 ∧ EQs (rTake s a0 a1).2 (rTake t a0 a1).2 ∧ INV (rTake s a0 a1).2 := by
  unfold rTake
  rw [h.n (j := 0) (by decide)]
  by_cases h1 : cN (s.1 19 0) a0 < s.1 19 0 ∧ cN 4 a1 < 4
  · rw [if_pos h1, if_pos h1]
    obtain ⟨h2, h3⟩ := h.takes hI h1.1 h1.2
    refine ⟨?_, h3, hI.takes h1.1 h1.2⟩
    show (if (sTakes t _ _).1 < 1984 then _ else _) = (if (sTakes s _ _).1 < 1984 then _ else _)
    rw [h2]
    by_cases hl : (sTakes s (cN (s.1 19 0) a0) (cN 4 a1)).1 < 1984
    · have h17 := takes_live hI h1.1 h1.2 hl
      have hN := hI.takes h1.1 h1.2
      rw [if_pos hl, if_pos hl, h3.addr hN.R hl (hN.V hl (by omega)).1]
    · rw [if_neg hl, if_neg hl]
  · rw [if_neg h1, if_neg h1]; exact ⟨rfl, h, hI⟩
