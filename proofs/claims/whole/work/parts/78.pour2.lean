/-! pour: the model's loop; all of it -/
theorem M_one' {d : Int32} {s : xS} {X : xMem} {bs bp : Nat → Nat} {k p : Nat} {pl : Int32} (hW : XW X) (hI : INV s) (hR : RBm bs bp X) (hk : k < 4) (hp : p < 4) : fM_poursOne (mM d s X) (44, 0, 0) (nI k) pl (nI p) = some (if xP s bs bp k pl < 1984 ∧ qFit s (xP s bs bp k pl) = true then (1, mM d (sGives s (xP s bs bp k pl) p) (xsi X (79, 0, 0) (40 * k + cN (bZ bs k) pl) (-9))) else (0, mM d s X)) := by
  by_cases hbs : bs k < 41
  · exact M_one hW hI hR hbs hk hp
  · have hz : bZ bs k = 0 := if_neg hbs
    have hno : ¬ (xP s bs bp k pl < 1984 ∧ qFit s (xP s bs bp k pl) = true) := fun e => by have := (xP_place e.1).1; omega
    unfold fM_poursOne fM_isIn
    rw [gR_53 hW, Option.bind_some, aI_80 hW hk, Option.bind_some, hR.1 k hk, en_ge hbs, if_neg hno]
    by_cases h1 : pl < 0
    · rw [if_pos h1, Option.bind_some]; rfl
    · have h2 : (-9 : Int32) - 1 < pl := by
        rw [Int32.lt_iff_toInt_lt] at h1 ⊢
        have e0 : (0 : Int32).toInt = 0 := by decide
        have e1 : ((-9 : Int32) - 1).toInt = -10 := by decide
        omega
      rw [if_neg h1, if_pos h2, Option.bind_some]; rfl
theorem M_pour30 {e : Int32} {bs : Nat → Nat} {k p m : Nat} {a1 : Int32} (hk : k < 4) (hp : p < 4) (hm : m ≤ 40) : ∀ d i n s X bp, XW X → INV s → RBm bs bp X → i + d = m → d < n →
    ∃ X' : xMem, X'.2 = X.2 ∧ (∀ a x, a ≠ (79, 0, 0) → X'.1 a x = X.1 a x) ∧ RBm bs (sPour bs k p a1 d i s bp).2.2 X' ∧ fM_pour_30 n (mM e s X) (some (44, 0, 0)) (nI k) a1 (nI m) (nI p) (nI i) = some (nI (sPour bs k p a1 d i s bp).1, mM e (sPour bs k p a1 d i s bp).2.1 X') := by
  intro d
  induction d with
  | zero =>
    intro i n s X bp hW hI hR hie hn
    obtain ⟨n, rfl⟩ : ∃ m, n = m + 1 := ⟨n - 1, by omega⟩
    refine ⟨X, rfl, fun _ _ _ => rfl, hR, ?_⟩
    have h5 : nI m ≤ nI i := by rw [nI_leI (by omega) (by omega)]; omega
    unfold fM_pour_30
    rw [if_pos h5]
    rfl
  | succ d ih =>
    intro i n s X bp hW hI hR hie hn
    obtain ⟨n, rfl⟩ : ∃ m, n = m + 1 := ⟨n - 1, by omega⟩
    have h5 : ¬ nI m ≤ nI i := by rw [nI_leI (by omega) (by omega)]; omega
    unfold fM_pour_30 sPour
    rw [if_neg h5, xob_44 hW, Option.bind_some, M_one' hW hI hR hk hp, Option.bind_some]
    by_cases h : xP s bs bp k (a1 + nI i) < 1984 ∧ qFit s (xP s bs bp k (a1 + nI i)) = true
    · obtain ⟨hpl, -, -⟩ := xP_place h.1
      have e17 : s.1 17 (xP s bs bp k (a1 + nI i)) = 1 := (live_ok (s := s) (a := en 32768 m1 (aP bs bp k (a1 + nI i))) h.1).2
      rw [if_pos h, if_pos h]
      dsimp only
      rw [if_neg (show ¬ (1 : Int32) = 0 by decide), kl_1, nI_add]
      generalize xP s bs bp k (a1 + nI i) = x at h e17 ⊢
      have hW3 : XW (xsi X (79, 0, 0) (40 * k + cN (bZ bs k) (a1 + nI i)) (-9)) := hW
      obtain ⟨X', y1, y2, y3, y4⟩ := ih (i + 1) n (sGives s x p) (xsi X (79, 0, 0) (40 * k + cN (bZ bs k) (a1 + nI i)) (-9)) (bpLay bp k (cN (bZ bs k) (a1 + nI i)) 32768) hW3 (hI.gives h.1 e17 hp) (hR.lay (by rw [en_ge (by decide)])) (by omega) (by omega)
      refine ⟨X', y1, fun a x ha => ?_, y3, y4⟩
      rw [y2 a x ha, xsi_1, if_neg (fun e => ha e.1)]
    · rw [if_neg h, if_neg h]
      exact ⟨X, rfl, fun _ _ _ => rfl, hR, rfl⟩
def gPour (a0 a2 a3 : Int32) : Bool := decide (cN 4 a0 < 4 ∧ cN 41 a2 < 41 ∧ cN 4 a3 < 4)
def rPour (s : xS) (bs bp : Nat → Nat) (a0 a1 a2 a3 : Int32) : Int32 × xS × (Nat → Nat) := if gPour a0 a2 a3 = true then (nI (sPour bs (cN 4 a0) (cN 4 a3) a1 (cN 41 a2) 0 s bp).1, (sPour bs (cN 4 a0) (cN 4 a3) a1 (cN 41 a2) 0 s bp).2) else (-1, s, bp)
theorem rPour_no {s : xS} {bs bp : Nat → Nat} {a0 a1 a2 a3 : Int32} (h : ¬ (cN 4 a0 < 4 ∧ cN 41 a2 < 41 ∧ cN 4 a3 < 4)) : rPour s bs bp a0 a1 a2 a3 = (-1, s, bp) := by
  unfold rPour gPour
  rw [decide_eq_false h, if_neg (by decide)]
theorem rPour_yes {s : xS} {bs bp : Nat → Nat} {k p m : Nat} {a1 : Int32} (hk : k < 4) (hp : p < 4) (hm : m < 41) : rPour s bs bp (nI k) a1 (nI m) (nI p) = (nI (sPour bs k p a1 m 0 s bp).1, (sPour bs k p a1 m 0 s bp).2) := by
  unfold rPour gPour
  rw [cN_nI hk (by decide), cN_nI hp (by decide), cN_nI hm (by decide), decide_eq_true ⟨hk, hm, hp⟩, if_pos rfl]
theorem C_pour {t : xS} {Y : xMem} {bs bp : Nat → Nat} {a0 a1 a2 a3 : Int32} (hW : XW Y) (hI : INV t) (hR : RBc bs bp Y) :
    ∃ Y' : xMem, Y'.2 = Y.2 ∧ (∀ a x, a.1 ≠ 42 → Y'.1 a x = Y.1 a x) ∧ RBc bs (rPour t bs bp a0 a1 a2 a3).2.2 Y' ∧ fX_pour (cM 0 t Y) (0, 0, 0) a0 a1 a2 a3 = some ((rPour t bs bp a0 a1 a2 a3).1, cM 0 (rPour t bs bp a0 a1 a2 a3).2.1 Y') := by
  have hWM : XW (cM 0 t Y) := hW
  unfold fX_pour
  rw [bR_14 hWM, Option.bind_some, bO_40 hWM, Option.bind_some, D_isNumber, Option.bind_some]
  dsimp only
  by_cases h : cN 4 a0 < 4
  · rw [decide_eq_true h, if_neg (show ¬ bI true = 0 by decide)]
    rcases rg_cases 40 a2 (by decide) with ⟨h1, h2⟩ | ⟨m, hm, rfl, e⟩
    · rw [rPour_no (fun e => h1 e.2.1)]
      refine ⟨Y, rfl, fun _ _ _ => rfl, hR, ?_⟩
      rcases h2 with h2 | ⟨h2, h3⟩
      · rw [nI_0] at h2; rw [if_pos h2]
      · rw [nI_0] at h2
        have h4 : (40 : Int32) < a2 := by
          rw [kl_40]
          rw [Int32.le_iff_toInt_le] at h3
          rw [Int32.lt_iff_toInt_lt]; omega
        rw [if_neg h2, if_pos h4]
    · have h3 : ¬ nI m < (0 : Int32) := nI_pos (show m < 2 ^ 31 by omega)
      have h4 : ¬ (40 : Int32) < nI m := by rw [kl_40, nI_ltI (by decide) (by omega)]; omega
      rw [if_neg h3, if_neg h4, isP_v, Option.bind_some]
      dsimp only
      rcases pr_cases a3 with h5 | ⟨p, hp, rfl, e2⟩
      · rw [decide_eq_false h5, if_pos (show bI false = 0 by decide), rPour_no (fun e => h5 e.2.2)]
        exact ⟨Y, rfl, fun _ _ _ => rfl, hR, rfl⟩
      · rw [e2, decide_eq_true hp, if_neg (show ¬ bI true = 0 by decide)]
        rcases ge_cases 4 a0 (by decide) with ⟨h', -⟩ | ⟨k, hk, rfl, e3⟩
        · exact absurd h h'
        · rw [rPour_yes hk hp (by omega), kl_0]
          exact C_pour34 hk hp hm m 0 xF t Y bp hW hI hR (by omega) (by unfold xF; omega)
  · rw [decide_eq_false h, if_pos (show bI false = 0 by decide), rPour_no (fun e => h e.1)]
    exact ⟨Y, rfl, fun _ _ _ => rfl, hR, rfl⟩
theorem M_pour {d : Int32} {s : xS} {X : xMem} {bs bp : Nat → Nat} {a0 a1 a2 a3 : Int32} (hW : XW X) (hI : INV s) (hR : RBm bs bp X) :
    ∃ X' : xMem, X'.2 = X.2 ∧ (∀ a x, a ≠ (79, 0, 0) → X'.1 a x = X.1 a x) ∧ RBm bs (rPour s bs bp a0 a1 a2 a3).2.2 X' ∧ fM_pour (mM d s X) (44, 0, 0) a0 a1 a2 a3 = some ((rPour s bs bp a0 a1 a2 a3).1, mM d (rPour s bs bp a0 a1 a2 a3).2.1 X') := by
  unfold fM_pour
  rw [M_isBin, Option.bind_some]
  dsimp only
  by_cases h : cN 4 a0 < 4
  · rw [decide_eq_true h, if_neg (show ¬ bI true = 0 by decide), show fM_isIn (mM d s X) a2 0 40 = _ from M_isIn (k := 0) (hi := 40) (by decide), Option.bind_some]
    dsimp only
    rcases rg_cases 40 a2 (by decide) with ⟨h1, h2⟩ | ⟨m, hm, rfl, e⟩
    · rw [rPour_no (fun e => h1 e.2.1), decide_eq_false (show ¬ cN (40 + 1) a2 < 40 + 1 from h1), if_pos (show bI false = 0 by decide)]
      exact ⟨X, rfl, fun _ _ _ => rfl, hR, rfl⟩
    · rw [e, decide_eq_true (show m < 40 + 1 by omega), if_neg (show ¬ bI true = 0 by decide), M_isProc, Option.bind_some]
      dsimp only
      rcases pr_cases a3 with h5 | ⟨p, hp, rfl, e2⟩
      · rw [decide_eq_false h5, if_pos (show bI false = 0 by decide), rPour_no (fun e => h5 e.2.2)]
        exact ⟨X, rfl, fun _ _ _ => rfl, hR, rfl⟩
      · rw [e2, decide_eq_true hp, if_neg (show ¬ bI true = 0 by decide)]
        rcases ge_cases 4 a0 (by decide) with ⟨h', -⟩ | ⟨k, hk, rfl, e3⟩
        · exact absurd h h'
        · rw [rPour_yes hk hp (by omega), kl_0]
          exact M_pour30 hk hp hm m 0 xF s X bp hW hI hR (by omega) (by unfold xF; omega)
  · rw [decide_eq_false h, if_pos (show bI false = 0 by decide), rPour_no (fun e => h e.1)]
    exact ⟨X, rfl, fun _ _ _ => rfl, hR, rfl⟩
