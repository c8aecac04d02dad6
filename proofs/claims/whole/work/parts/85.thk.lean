/-! what the calls in thought ask of their arguments -/
def okI (lo hi : Nat) (x : Int32) : Bool := if x < nI lo then false else if nI hi < x then false else true
theorem M_isInG {M : xMem} {lo hi : Nat} {x : Int32} : fM_isIn M x (nI lo) (nI hi) = some (bI (okI lo hi x), M) := by
  unfold fM_isIn okI
  by_cases h1 : x < nI lo
  · rw [if_pos h1, if_pos h1]; rfl
  · rw [if_neg h1, if_neg h1]
    by_cases h2 : nI hi < x
    · rw [if_pos h2, if_pos h2]; rfl
    · rw [if_neg h2, if_neg h2]; rfl
theorem okI_v {lo hi : Nat} {x : Int32} (hl : lo < 2 ^ 31) (hh : hi + 1 < 2 ^ 31) (h : okI lo hi x = true) : ∃ v, x = nI v ∧ lo ≤ v ∧ v ≤ hi := by
  have h1 : ¬ x < nI lo := fun e => by unfold okI at h; rw [if_pos e] at h; cases h
  have h2 : ¬ nI hi < x := fun e => by unfold okI at h; rw [if_neg h1, if_pos e] at h; cases h
  clear h
  rcases rg_cases hi x hh with ⟨h3, h4⟩ | ⟨v, hv, rfl, e⟩
  · exfalso
    rcases h4 with h4 | ⟨-, h4⟩
    · rw [Int32.lt_iff_toInt_lt] at h1 h4
      have e1 := nI_toInt (show (0 : Nat) < 2 ^ 31 by decide)
      have e2 := nI_toInt hl
      omega
    · rw [Int32.lt_iff_toInt_lt] at h2
      rw [Int32.le_iff_toInt_le] at h4
      omega
  · refine ⟨v, rfl, ?_, hv⟩
    rw [nI_ltI (by omega) hl] at h1
    omega
def okTk (t : xS) (a0 a1 a2 : Int32) : Bool := decide (cN (t.1 19 0) a0 < t.1 19 0) && (decide (cN 4 a1 < 4) && okI 1 40 a2)
theorem C_isForTakes {t : xS} {Y : xMem} {a0 a1 a2 : Int32} (hW : XW Y) (hI : INV t) : fX_isForTakes (cM 0 t Y) (0, 0, 0) a0 a1 a2 = some (bI (okTk t a0 a1 a2), cM 0 t Y) := by
  have hn := hI.R.n
  unfold fX_isForTakes okTk okI
  rw [cX_0 hW, Option.bind_some, cO_1 hW (by decide), Option.bind_some, D_cacheAt hW (by decide) hn, Option.bind_some]
  dsimp only
  by_cases h : cN (t.1 19 0) a0 < t.1 19 0
  · rw [if_pos h, if_neg (by simp), decide_eq_true h, Bool.true_and, isP_v, Option.bind_some]
    dsimp only
    by_cases h1 : cN 4 a1 < 4
    · rw [decide_eq_true h1, if_neg (show ¬ bI true = 0 by decide), Bool.true_and, kl_1, kl_40]
      by_cases h2 : a2 < nI 1
      · rw [if_pos h2, if_pos h2]; rfl
      · rw [if_neg h2, if_neg h2]
        by_cases h3 : nI 40 < a2
        · rw [if_pos h3, if_pos h3]; rfl
        · rw [if_neg h3, if_neg h3]; rfl
    · rw [decide_eq_false h1, if_pos (show bI false = 0 by decide), Bool.false_and]; rfl
  · rw [if_neg h, if_pos rfl, decide_eq_false h, Bool.false_and]; rfl
theorem okTk_ok {s t : xS} (h : EQs s t) {a0 a1 a2 : Int32} : okTk t a0 a1 a2 = okTk s a0 a1 a2 := by
  unfold okTk
  rw [h.n (j := 0) (by decide)]
