/-! names, feed, why, count: what lies outside the depot -/
theorem cO_r {t : xS} {Y : xMem} {κ b' i k : Nat} (h : κ = 0 ∨ κ = 10 ∨ 22 < κ) : (cM 0 t Y).1 (κ, b', i) k = Y.1 (κ, b', i) k := by
  refine cM_o ?_
  by_cases hb : b' = 0
  · refine Or.inr ?_
    have hT : cT κ i k = none := by
      rcases h with rfl | rfl | h
      · rfl
      · rfl
      · unfold cT
        split <;> first | rfl | omega
    rw [cI_D hT]
    rcases h with rfl | rfl | h
    · rfl
    · rfl
    · unfold cD
      split <;> first | rfl | omega
  · exact Or.inl hb
theorem cXg {t : xS} {Y : xMem} {j : Nat} (hW : XW Y) : xgI (cM 0 t Y) (some (0, 0, 0)) 7 j = some (Y.1 (0, 0, 0) j) := (xgI_w (M := cM 0 t Y) hW sh_0).trans (congrArg some (cO_r (Or.inl rfl)))
theorem cXp {t : xS} {Y : xMem} {j : Nat} {v : Int32} (hW : XW Y) : xpI (cM 0 t Y) (some (0, 0, 0)) 7 j v = some (cM 0 t (xsi Y (0, 0, 0) j v)) := (xpI_w (M := cM 0 t Y) hW sh_0).trans (congrArg some (cM_out' (Or.inr (Or.inl rfl))))
/-- the named ones: 32768 is none -/
def RN (nm : Nat → Nat) (Y X : xMem) : Prop := ∀ k, k < 26 → Y.1 (38, 0, 0) k = en 32768 m1 (nm k) ∧ X.1 (71, 0, 0) k = en 32768 (-9) (nm k)
def rNames (nm : Nat → Nat) (a0 : Int32) : Int32 := if cN 26 a0 < 26 then (if nm (cN 26 a0) < 32768 then nI (nm (cN 26 a0)) else m2) else m1
theorem rNames_no {nm : Nat → Nat} {a0 : Int32} (h : ¬ cN 26 a0 < 26) : rNames nm a0 = m1 := if_neg h
theorem rNames_yes {nm : Nat → Nat} {k : Nat} (h : k < 26) : rNames nm (nI k) = if nm k < 32768 then nI (nm k) else m2 := by
  unfold rNames
  rw [cN_nI h (by decide), if_pos h]
theorem kl_26' : (26 : Int32) = nI 26 := of_decide_eq_true rfl
theorem C_names {t : xS} {Y X : xMem} {nm : Nat → Nat} {a0 : Int32} (hW : XW Y) (hR : RN nm Y X) : fX_names (cM 0 t Y) (0, 0, 0) a0 = some (rNames nm a0, cM 0 t Y) := by
  unfold fX_names
  rcases ge_cases 26 a0 (by decide) with ⟨h, h2⟩ | ⟨k, hk, rfl, e⟩
  · rw [rNames_no h]
    rcases h2 with h2 | ⟨h2, h3⟩
    · rw [nI_0] at h2; rw [if_pos h2]; rfl
    · rw [nI_0] at h2
      have h4 : ¬ a0 < (26 : Int32) := by
        rw [kl_26', Int32.lt_iff_toInt_lt]
        rw [Int32.le_iff_toInt_le] at h3
        omega
      rw [if_neg h2, if_neg h4]; rfl
  · have hk0 : ¬ nI k < (0 : Int32) := nI_pos (show k < 2 ^ 31 by omega)
    have hk6 : nI k < (26 : Int32) := by rw [kl_26', nI_ltI (by omega) (by decide)]; exact hk
    have hr : xaI (cM 0 t Y) (some (38, 0, 0)) (nI k) = some (en 32768 m1 (nm k)) := by
      rw [xaI_w (M := cM 0 t Y) hW sh_38 hk (by decide), cO_r (by decide), (hR k hk).1]
    rw [if_neg hk0, if_pos hk6, rNames_yes hk, cX_11 hW, Option.bind_some, hr, Option.bind_some]
    by_cases h1 : nm k < 32768
    · rw [if_pos h1, en_lt h1]
      rw [if_neg (show ¬ nI (nm k) = (-1 : Int32) from by rw [km1, nI_m1 (by omega)]; exact not_false), Option.bind_some, hr, Option.bind_some, en_lt h1]
    · rw [if_neg h1, en_ge h1, if_pos (show m1 = (-1 : Int32) from rfl)]; rfl
theorem M_names {d : Int32} {s : xS} {X : xMem} {Y : xMem} {nm : Nat → Nat} {a0 : Int32} (hW : XW X) (hR : RN nm Y X) : fM_names (mM d s X) (44, 0, 0) a0 = some (rNames nm a0, mM d s X) := by
  unfold fM_names
  rw [show fM_isIn (mM d s X) a0 0 25 = _ from M_isIn (k := 0) (hi := 25) (by decide), Option.bind_some]
  dsimp only
  by_cases h : cN 26 a0 < 26
  · rw [decide_eq_true (show cN (25 + 1) a0 < 25 + 1 from h), if_neg (show ¬ bI true = 0 by decide)]
    rcases ge_cases 26 a0 (by decide) with ⟨h', -⟩ | ⟨k, hk, rfl, e⟩
    · exact absurd h h'
    · rw [rNames_yes hk, gR_29 hW, Option.bind_some, aI_71 hW hk, Option.bind_some, (hR k hk).2]
      by_cases h1 : nm k < 32768
      · have h2 : (0 : Int32) ≤ en 32768 (-9) (nm k) := by rw [kl_0, en_0le (by decide) (by decide)]; exact h1
        rw [if_pos h2, if_pos h1, Option.bind_some, aI_71 hW hk, Option.bind_some, (hR k hk).2, en_lt h1]
      · have h2 : ¬ (0 : Int32) ≤ en 32768 (-9) (nm k) := by rw [kl_0, en_0le (by decide) (by decide)]; exact h1
        rw [if_neg h2, if_neg h1]; rfl
  · rw [decide_eq_false (show ¬ cN (25 + 1) a0 < 25 + 1 from h), if_pos (show bI false = 0 by decide), rNames_no h]; rfl
/-- the tape -/
def RT (ta : Nat) (Y X : xMem) : Prop := Y.1 (0, 0, 0) 6 = nI ta ∧ X.1 (44, 0, 0) 42 = nI ta ∧ ta ≤ 100 ∧ ∀ k, k < 100 → Y.1 (25, 0, 0) k = X.1 (75, 0, 0) k
def okF (a0 : Int32) : Bool := decide (cN 256 a0 < 256)
def rFeed (ta : Nat) (a0 : Int32) : Int32 := if cN 256 a0 < 256 then (if ta < 100 then nI (ta + 1) else m3) else m1
def yF (ta : Nat) (a0 : Int32) (κ : xId) (κ' : xId) (j : Nat) (Y : xMem) : xMem := if cN 256 a0 < 256 ∧ ta < 100 then xsi (xsi Y κ ta a0) κ' j (nI (ta + 1)) else Y
theorem C_feed {t : xS} {Y X : xMem} {ta : Nat} {a0 : Int32} (hW : XW Y) (hR : RT ta Y X) : fX_feed (cM 0 t Y) (0, 0, 0) a0 = some (rFeed ta a0, cM 0 t (yF ta a0 (25, 0, 0) (0, 0, 0) 6 Y)) := by
  unfold fX_feed
  have h100 := hR.2.2.1
  rcases rg_cases 255 a0 (by decide) with ⟨h, h2⟩ | ⟨k, hk, rfl, e⟩
  · rw [show rFeed ta a0 = m1 from if_neg h, show yF ta a0 (25, 0, 0) (0, 0, 0) 6 Y = Y from if_neg (fun e => h e.1)]
    rcases h2 with h2 | ⟨h2, h3⟩
    · rw [nI_0] at h2; rw [if_pos h2]; rfl
    · rw [nI_0] at h2; rw [if_neg h2, kl_255, if_neg h3]; rfl
  · have hk0 : ¬ nI k < (0 : Int32) := nI_pos (show k < 2 ^ 31 by omega)
    have hk6 : nI k ≤ (255 : Int32) := by rw [kl_255, nI_leI (by omega) (by decide)]; exact hk
    have hc : cN 256 (nI k) < 256 := by rw [e]; omega
    rw [if_neg hk0, if_pos hk6, cXg hW, Option.bind_some, hR.1]
    by_cases h1 : ta < 100
    · have h2 : nI ta < (100 : Int32) := by rw [kl_100, nI_ltI (by omega) (by decide)]; exact h1
      have hW1 : XW (xsi Y (25, 0, 0) ta (nI k)) := hW
      have hW2 : XW (xsi (xsi Y (25, 0, 0) ta (nI k)) (0, 0, 0) 6 (nI (ta + 1))) := hW
      have e6 : (xsi Y (25, 0, 0) ta (nI k)).1 (0, 0, 0) 6 = nI ta := by rw [xsi_1, if_neg (by simp)]; exact hR.1
      have e7 : (xsi (xsi Y (25, 0, 0) ta (nI k)) (0, 0, 0) 6 (nI (ta + 1))).1 (0, 0, 0) 6 = nI (ta + 1) := by rw [xsi_1, if_pos ⟨rfl, rfl⟩]
      have hu : xuI (cM 0 t Y) (some (25, 0, 0)) (nI ta) (nI k) = some (cM 0 t (xsi Y (25, 0, 0) ta (nI k))) := (xuI_w (M := cM 0 t Y) hW sh_25 h1 (by decide)).trans (congrArg some (cM_out' (by decide)))
      rw [show rFeed ta (nI k) = nI (ta + 1) from (if_pos hc).trans (if_pos h1), show yF ta (nI k) (25, 0, 0) (0, 0, 0) 6 Y = _ from if_pos ⟨hc, h1⟩]
      rw [if_pos h2, cX_5 hW, Option.bind_some, Option.bind_some, hu, Option.bind_some, cXg hW1, Option.bind_some, e6, show nI ta + (1 : Int32) = nI (ta + 1) by rw [kl_1, nI_add], cXp hW1, Option.bind_some, cXg hW2, Option.bind_some, e7]
    · have h2 : ¬ nI ta < (100 : Int32) := by rw [kl_100, nI_ltI (by omega) (by decide)]; exact h1
      rw [show rFeed ta (nI k) = m3 from (if_pos hc).trans (if_neg h1), show yF ta (nI k) (25, 0, 0) (0, 0, 0) 6 Y = Y from if_neg (fun e => h1 e.2), if_neg h2]
      rfl
theorem M_feed {d : Int32} {s : xS} {X : xMem} {Y : xMem} {ta : Nat} {a0 : Int32} (hW : XW X) (hR : RT ta Y X) : fM_feed (mM d s X) (44, 0, 0) a0 = some (rFeed ta a0, mM d s (yF ta a0 (75, 0, 0) (44, 0, 0) 42 X)) := by
  have h100 := hR.2.2.1
  unfold fM_feed
  rw [show fM_isIn (mM d s X) a0 0 255 = _ from M_isIn (k := 0) (hi := 255) (by decide), Option.bind_some]
  dsimp only
  by_cases h : cN 256 a0 < 256
  · rw [decide_eq_true (show cN (255 + 1) a0 < 255 + 1 from h), if_neg (show ¬ bI true = 0 by decide), gI_42 hW, Option.bind_some, hR.2.1]
    by_cases h1 : ta < 100
    · have h2 : ¬ nI ta = (100 : Int32) := by rw [kl_100]; exact fun e => by have := (nI_eq (show ta < 2 ^ 31 by omega) (by decide)).mp e; omega
      have hW1 : XW (xsi X (75, 0, 0) ta a0) := hW
      have hW2 : XW (xsi (xsi X (75, 0, 0) ta a0) (44, 0, 0) 42 (nI (ta + 1))) := hW
      have e6 : (xsi X (75, 0, 0) ta a0).1 (44, 0, 0) 42 = nI ta := by rw [xsi_1, if_neg (by simp)]; exact hR.2.1
      have e7 : (xsi (xsi X (75, 0, 0) ta a0) (44, 0, 0) 42 (nI (ta + 1))).1 (44, 0, 0) 42 = nI (ta + 1) := by rw [xsi_1, if_pos ⟨rfl, rfl⟩]
      rw [show rFeed ta a0 = nI (ta + 1) from (if_pos h).trans (if_pos h1), show yF ta a0 (75, 0, 0) (44, 0, 0) 42 X = _ from if_pos ⟨h, h1⟩]
      rw [if_neg h2, gR_38 hW, Option.bind_some, Option.bind_some, uI_75 hW h1, Option.bind_some, gI_42 hW1, Option.bind_some, e6, show nI ta + (1 : Int32) = nI (ta + 1) by rw [kl_1, nI_add], pI_42 hW1, Option.bind_some, gI_42 hW2, Option.bind_some, e7]
    · have h2 : nI ta = (100 : Int32) := by rw [kl_100, show ta = 100 by omega]
      rw [show rFeed ta a0 = m3 from (if_pos h).trans (if_neg h1), show yF ta a0 (75, 0, 0) (44, 0, 0) 42 X = X from if_neg (fun e => h1 e.2), if_pos h2]
      rfl
  · rw [decide_eq_false (show ¬ cN (255 + 1) a0 < 255 + 1 from h), if_pos (show bI false = 0 by decide), show rFeed ta a0 = m1 from if_neg h, show yF ta a0 (75, 0, 0) (44, 0, 0) 42 X = X from if_neg (fun e => h e.1)]; rfl
theorem C_why {t : xS} {Y : xMem} (hW : XW Y) : fX_why (cM 0 t Y) (0, 0, 0) = some (Y.1 (0, 0, 0) 13, cM 0 t Y) := by
  unfold fX_why
  rw [cXg hW, Option.bind_some]
theorem M_why {d : Int32} {s : xS} {X : xMem} (hW : XW X) : fM_why (mM d s X) (44, 0, 0) = some (X.1 (44, 0, 0) 49, mM d s X) := by
  unfold fM_why
  rw [gI_49 hW, Option.bind_some]
