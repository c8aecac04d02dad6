/-! bin -/
def okBin (a0 a1 : Int32) : Prop := cN 4 a0 < 4 ∧ cN 41 a1 < 41
def rBin (a0 a1 : Int32) : Int32 := if cN 4 a0 < 4 then (if a1 ≤ 40 then (if 0 ≤ a1 then 1 else -14) else -1) else -1
def cBin (k v : Nat) (M : xMem) : xMem := xsi (pat (fun a x => decide (a = (42, 0, k) ∧ x < 40)) (fun _ _ => m1) M) (43, 0, 0) k (nI v)
def mBin (k v : Nat) (X : xMem) : xMem := xsi (pat (fun a x => decide (a = (79, 0, 0) ∧ 40 * k ≤ x ∧ x < 40 * k + 40)) (fun _ _ => -9) X) (80, 0, 0) k (nI v)
def bsBin (bs : Nat → Nat) (k v x : Nat) : Nat := if x = k then v else bs x
def bpBin (bp : Nat → Nat) (k x : Nat) : Nat := if 40 * k ≤ x ∧ x < 40 * k + 40 then 32768 else bp x
theorem RBc.bin {bs bp : Nat → Nat} {k v : Nat} {M : xMem} (h : RBc bs bp M) (hk : k < 4) (hv : v < 41) : RBc (bsBin bs k v) (bpBin bp k) (cBin k v M) := by
  refine ⟨fun i hi => ?_, fun i j hi hj => ?_⟩
  · unfold cBin bsBin
    rw [xsi_1, pat_1]
    by_cases h1 : i = k
    · rw [if_pos ⟨rfl, h1⟩, if_pos h1, en_lt hv]
    · rw [if_neg (fun e => h1 e.2), if_neg h1, if_neg (by rw [decide_eq_false (by simp)]; decide)]
      exact h.1 i hi
  · unfold cBin bpBin
    rw [xsi_1, if_neg (by simp), pat_1]
    by_cases h1 : i = k
    · subst h1
      rw [if_pos (decide_eq_true ⟨rfl, hj⟩), if_pos (by omega)]; rfl
    · rw [if_neg (by rw [decide_eq_false (by simp [h1])]; decide), if_neg (by omega)]
      exact h.2 i j hi hj
theorem RBm.bin {bs bp : Nat → Nat} {k v : Nat} {X : xMem} (h : RBm bs bp X) (hk : k < 4) (hv : v < 41) : RBm (bsBin bs k v) (bpBin bp k) (mBin k v X) := by
  refine ⟨fun i hi => ?_, fun x hx => ?_⟩
  · unfold mBin bsBin
    rw [xsi_1, pat_1]
    by_cases h1 : i = k
    · rw [if_pos ⟨rfl, h1⟩, if_pos h1, en_lt hv]
    · rw [if_neg (fun e => h1 e.2), if_neg h1, if_neg (by rw [decide_eq_false (by simp)]; decide)]
      exact h.1 i hi
  · unfold mBin bpBin
    rw [xsi_1, if_neg (by simp), pat_1]
    by_cases h1 : 40 * k ≤ x ∧ x < 40 * k + 40
    · rw [if_pos (decide_eq_true ⟨rfl, h1⟩), if_pos h1]; rfl
    · rw [if_neg (by rw [decide_eq_false (fun e => h1 e.2)]; decide), if_neg h1]
      exact h.2 x hx
theorem cBin_cM {t : xS} {Y : xMem} {k v : Nat} : cBin k v (cM 0 t Y) = cM 0 t (cBin k v Y) := by
  unfold cBin
  rw [cM_pat (fun a x h => by rw [(of_decide_eq_true h).1]; exact Or.inr (Or.inr (show 22 < 42 by decide))), cM_out' (by decide)]
theorem C_bin {M : xMem} {a0 a1 : Int32} (hW : XW M) : fX_bin M (0, 0, 0) a0 a1 = some (rBin a0 a1, if cN 4 a0 < 4 ∧ cN 41 a1 < 41 then cBin (cN 4 a0) (cN 41 a1) M else M) := by
  unfold fX_bin rBin
  rw [bR_14 hW, Option.bind_some, bO_40 hW, Option.bind_some, D_isNumber, Option.bind_some]
  dsimp only
  by_cases h : cN 4 a0 < 4
  · rw [decide_eq_true h, if_neg (show ¬ bI true = 0 by decide), if_pos h]
    rcases rg_cases 40 a1 (by decide) with ⟨h1, h2⟩ | ⟨v, hv, rfl, e⟩
    · rw [if_neg (show ¬ (cN 4 a0 < 4 ∧ cN 41 a1 < 41) from fun e => h1 e.2)]
      rcases h2 with h2 | ⟨h2, h3⟩
      · rw [nI_0] at h2
        have h4 : a1 ≤ 40 := by
          rw [Int32.le_iff_toInt_le]
          rw [Int32.lt_iff_toInt_lt] at h2
          have e0 : (0 : Int32).toInt = 0 := by decide
          have e1 : (40 : Int32).toInt = 40 := by decide
          omega
        have h5 : ¬ (0 : Int32) ≤ a1 := by
          rw [Int32.le_iff_toInt_le]
          rw [Int32.lt_iff_toInt_lt] at h2
          omega
        rw [if_pos h4, if_neg h5, if_pos h4, if_neg h5]
      · rw [← kl_40] at h3
        rw [if_neg h3, if_neg h3]
    · have h4 : nI v ≤ (40 : Int32) := by rw [kl_40, nI_leI (by omega) (by decide)]; exact hv
      have h5 : (0 : Int32) ≤ nI v := by rw [kl_0, nI_leI (by decide) (by omega)]; omega
      rw [if_pos h4, if_pos h5, if_pos h4, if_pos h5, if_pos (show cN 4 a0 < 4 ∧ cN 41 (nI v) < 41 from ⟨h, by rw [e]; omega⟩), e]
      rw [bR_14 hW, Option.bind_some, bO_40 hW, Option.bind_some]
      unfold fB_begin
      rw [bO_40 hW, Option.bind_some, D_isNumber, Option.bind_some]
      dsimp only
      rw [decide_eq_true h, if_neg (show ¬ bI true = 0 by decide), if_neg (show ¬ nI v < (0 : Int32) from nI_pos (show v < 2 ^ 31 by omega))]
      have h6 : ¬ (40 : Int32) < nI v := by rw [kl_40, nI_ltI (by decide) (by omega)]; omega
      rw [if_neg h6]
      rcases ge_cases 4 a0 (by decide) with ⟨h', -⟩ | ⟨k, hk, rfl, e2⟩
      · exact absurd h h'
      · have hW1 : XW (pat (fun a x => decide (a = (42, 0, k) ∧ x < 40)) (fun _ _ => m1) M) := hW
        rw [e2, bR_0 hW, Option.bind_some, bA_41 hW hk, Option.bind_some, km1, D_fillA hW (sh_42 hk) (by decide), Option.bind_some, bR_1 hW1, Option.bind_some, xuI_w hW1 sh_43 hk (by decide), Option.bind_some, Option.bind_some]
        rfl
  · rw [decide_eq_false h, if_pos (show bI false = 0 by decide), if_neg h, if_neg (show ¬ (cN 4 a0 < 4 ∧ cN 41 a1 < 41) from fun e => h e.1)]
theorem M_bin24 {d : Int32} {s : xS} {X : xMem} {k v : Nat} (hW : XW X) (hk : k < 4) : ∀ e i n, i + e = 40 → e < n → fM_bin_24 n (mM d s (pat (fun a x => decide (a = (79, 0, 0) ∧ 40 * k ≤ x ∧ x < 40 * k + i)) (fun _ _ => -9) X)) (some (44, 0, 0)) (nI k) (nI v) (nI i) = some (1, mM d s (mBin k v X)) := by
  intro e
  induction e with
  | zero =>
    intro i n hie hn
    obtain ⟨n, rfl⟩ : ∃ m, n = m + 1 := ⟨n - 1, by omega⟩
    have h5 : i = 40 := by omega
    subst h5
    have hW1 : XW (pat (fun a x => decide (a = (79, 0, 0) ∧ 40 * k ≤ x ∧ x < 40 * k + 40)) (fun _ _ => -9) X) := hW
    have h6 : (40 : Int32) ≤ nI 40 := by rw [kl_40, nI_leI (by decide) (by decide)]; exact Nat.le_refl _
    unfold fM_bin_24
    rw [if_pos h6, gR_53 hW1, Option.bind_some, uI_80 hW1 hk, Option.bind_some]
    rfl
  | succ e ih =>
    intro i n hie hn
    obtain ⟨n, rfl⟩ : ∃ m, n = m + 1 := ⟨n - 1, by omega⟩
    have h5 : ¬ 40 ≤ i := by omega
    have hW1 : XW (pat (fun a x => decide (a = (79, 0, 0) ∧ 40 * k ≤ x ∧ x < 40 * k + i)) (fun _ _ => -9) X) := hW
    have h6 : ¬ (40 : Int32) ≤ nI i := by rw [kl_40, nI_leI (by decide) (by omega)]; exact h5
    have e3 : (40 : Int32) * nI k + nI i = nI (40 * k + i) := by rw [kl_40, pk_mul, nI_add]
    unfold fM_bin_24
    rw [if_neg h6, gR_52 hW1, Option.bind_some, e3, uI_79 hW1 (by omega), Option.bind_some, kl_1, nI_add]
    rw [show xsi (pat (fun a x => decide (a = (79, 0, 0) ∧ 40 * k ≤ x ∧ x < 40 * k + i)) (fun _ _ => -9) X) (79, 0, 0) (40 * k + i) (-9) = pat (fun a x => decide (a = (79, 0, 0) ∧ 40 * k ≤ x ∧ x < 40 * k + (i + 1))) (fun _ _ => -9) X from ?_]
    · exact ih (i + 1) n (by omega) (by omega)
    · refine Prod.ext ?_ rfl
      funext a x
      rw [xsi_1, pat_1, pat_1]
      by_cases h1 : a = (79, 0, 0)
      · by_cases h2 : x = 40 * k + i
        · rw [if_pos ⟨h1, h2⟩, if_pos (decide_eq_true ⟨h1, by omega⟩)]
        · rw [if_neg (fun e => h2 e.2)]
          by_cases h3 : 40 * k ≤ x ∧ x < 40 * k + i
          · rw [if_pos (decide_eq_true ⟨h1, h3⟩), if_pos (decide_eq_true ⟨h1, by omega⟩)]
          · rw [if_neg (by rw [decide_eq_false (fun e => h3 e.2)]; decide), if_neg (by rw [decide_eq_false (fun e => by omega)]; decide)]
      · rw [if_neg (fun e => h1 e.1), if_neg (by rw [decide_eq_false (fun e => h1 e.1)]; decide), if_neg (by rw [decide_eq_false (fun e => h1 e.1)]; decide)]
theorem M_bin {d : Int32} {s : xS} {X : xMem} {a0 a1 : Int32} (hW : XW X) : fM_bin (mM d s X) (44, 0, 0) a0 a1 = some (rBin a0 a1, mM d s (if cN 4 a0 < 4 ∧ cN 41 a1 < 41 then mBin (cN 4 a0) (cN 41 a1) X else X)) := by
  unfold fM_bin rBin
  rw [M_isBin, Option.bind_some]
  dsimp only
  by_cases h : cN 4 a0 < 4
  · rw [decide_eq_true h, if_neg (show ¬ bI true = 0 by decide), if_pos h]
    rcases rg_cases 40 a1 (by decide) with ⟨h1, h2⟩ | ⟨v, hv, rfl, e⟩
    · rw [if_neg (show ¬ (cN 4 a0 < 4 ∧ cN 41 a1 < 41) from fun e => h1 e.2)]
      by_cases h4 : a1 ≤ 40
      · by_cases h5 : (0 : Int32) ≤ a1
        · exfalso
          rcases h2 with h2 | ⟨h2, h3⟩
          · rw [nI_0] at h2
            rw [Int32.le_iff_toInt_le] at h5
            rw [Int32.lt_iff_toInt_lt] at h2
            omega
          · exact h3 h4
        · rw [if_pos h4, if_neg h5, if_pos h4, if_neg h5]
      · rw [if_neg h4, if_neg h4]
    · have h4 : nI v ≤ (40 : Int32) := by rw [kl_40, nI_leI (by omega) (by decide)]; exact hv
      have h5 : (0 : Int32) ≤ nI v := by rw [kl_0, nI_leI (by decide) (by omega)]; omega
      rw [if_pos h4, if_pos h5, if_pos h4, if_pos h5, if_pos (show cN 4 a0 < 4 ∧ cN 41 (nI v) < 41 from ⟨h, by rw [e]; omega⟩), e]
      rcases ge_cases 4 a0 (by decide) with ⟨h', -⟩ | ⟨k, hk, rfl, e2⟩
      · exact absurd h h'
      · have h24 := M_bin24 (d := d) (s := s) (v := v) hW hk 40 0 xF (by omega) (by unfold xF; omega)
        have h0 : pat (fun a x => decide (a = (79, 0, 0) ∧ 40 * k ≤ x ∧ x < 40 * k + 0)) (fun _ _ => -9) X = X := by
          refine Prod.ext ?_ rfl
          funext a x
          rw [pat_1, if_neg (by rw [decide_eq_false (fun e => by omega)]; decide)]
        rw [h0] at h24
        rw [e2, kl_0]
        exact h24
  · rw [decide_eq_false h, if_pos (show bI false = 0 by decide), if_neg h, if_neg (show ¬ (cN 4 a0 < 4 ∧ cN 41 a1 < 41) from fun e => h e.1)]
