/-! pour -/
def aP (bs bp : Nat → Nat) (k : Nat) (pl : Int32) : Nat := if cN (bZ bs k) pl < bZ bs k then bp (40 * k + cN (bZ bs k) pl) else 32768
def xP (s : xS) (bs bp : Nat → Nat) (k : Nat) (pl : Int32) : Nat := qLive s (en 32768 m1 (aP bs bp k pl))
def sPour (bs : Nat → Nat) (k p : Nat) (a1 : Int32) : Nat → Nat → xS → (Nat → Nat) → Nat × xS × (Nat → Nat)
  | 0, i, s, bp => (i, s, bp)
  | d + 1, i, s, bp => if xP s bs bp k (a1 + nI i) < 1984 ∧ qFit s (xP s bs bp k (a1 + nI i)) = true then sPour bs k p a1 d (i + 1) (sGives s (xP s bs bp k (a1 + nI i)) p) (bpLay bp k (cN (bZ bs k) (a1 + nI i)) 32768) else (i, s, bp)
theorem live_m1 {s : xS} : qLive s m1 = 1984 := by
  have h : qBeI s m1 = 1984 := by unfold qBeI; rw [if_neg (by decide)]
  unfold qLive
  rw [h, if_neg (fun e => absurd e.1 (by decide))]
theorem xP_place {s : xS} {bs bp : Nat → Nat} {k : Nat} {pl : Int32} (h : xP s bs bp k pl < 1984) : cN (bZ bs k) pl < bZ bs k ∧ bp (40 * k + cN (bZ bs k) pl) < 32768 ∧ aP bs bp k pl = bp (40 * k + cN (bZ bs k) pl) := by
  unfold xP at h
  by_cases h1 : aP bs bp k pl < 32768
  · unfold aP at h1 ⊢
    by_cases h2 : cN (bZ bs k) pl < bZ bs k
    · rw [if_pos h2] at h1 ⊢; exact ⟨h2, h1, rfl⟩
    · rw [if_neg h2] at h1; omega
  · rw [en_ge h1, live_m1] at h; omega
theorem C_pour34 {bs : Nat → Nat} {k p m : Nat} {a1 : Int32} (hk : k < 4) (hp : p < 4) (hm : m ≤ 40) : ∀ d i n t Y bp, XW Y → INV t → RBc bs bp Y → i + d = m → d < n →
    ∃ Y' : xMem, Y'.2 = Y.2 ∧ (∀ a x, a.1 ≠ 42 → Y'.1 a x = Y.1 a x) ∧ RBc bs (sPour bs k p a1 d i t bp).2.2 Y' ∧ fX_pour_34 n (cM 0 t Y) (some (0, 0, 0)) (nI k) a1 (nI m) (nI p) (nI i) = some (nI (sPour bs k p a1 d i t bp).1, cM 0 (sPour bs k p a1 d i t bp).2.1 Y') := by
  have hb : 0 < 3 := by decide
  intro d
  induction d with
  | zero =>
    intro i n t Y bp hW hI hR hie hn
    obtain ⟨n, rfl⟩ : ∃ m, n = m + 1 := ⟨n - 1, by omega⟩
    refine ⟨Y, rfl, fun _ _ _ => rfl, hR, ?_⟩
    have h5 : nI m ≤ nI i := by rw [nI_leI (by omega) (by omega)]; omega
    unfold fX_pour_34
    rw [if_pos h5, show m = i by omega]
    rfl
  | succ d ih =>
    intro i n t Y bp hW hI hR hie hn
    obtain ⟨n, rfl⟩ : ∃ m, n = m + 1 := ⟨n - 1, by omega⟩
    have h5 : ¬ nI m ≤ nI i := by rw [nI_leI (by omega) (by omega)]; omega
    have hWM : XW (cM 0 t Y) := hW
    have hRM : RBc bs bp (cM 0 t Y) := by rw [RBc_cM]; exact hR
    have hg : fB_get (cM 0 t Y) (40, 0, 0) (nI k) (a1 + nI i) = some (en 32768 m1 (aP bs bp k (a1 + nI i)), cM 0 t Y) := by
      rw [D_get hWM hRM, cN_nI hk (by decide)]
      unfold aP
      by_cases h1 : cN (bZ bs k) (a1 + nI i) < bZ bs k
      · rw [if_pos ⟨hk, h1⟩, if_pos h1]
      · rw [if_neg (fun e => h1 e.2), if_neg h1]; rfl
    have hs := D_slotOf (b := 0) (t := t) (Y := Y) (a := en 32768 m1 (aP bs bp k (a1 + nI i))) hW hb hI.R
    have hl := D_live (b := 0) (t := t) (Y := Y) (a := en 32768 m1 (aP bs bp k (a1 + nI i))) hW hb hI
    unfold fX_pour_34 sPour
    rw [if_neg h5, cX_0 hW, Option.bind_some, cR_1_0 hW hb, Option.bind_some, bR_14 hWM, Option.bind_some, bO_40 hWM, Option.bind_some, hg, Option.bind_some]
    dsimp only
    rw [cO_2 hW hb, Option.bind_some, hs, Option.bind_some]
    dsimp only
    rw [cX_0 hW, Option.bind_some, cR_1_0 hW hb, Option.bind_some, cO_2 hW hb, Option.bind_some, hl, Option.bind_some]
    dsimp only
    rw [show qLive t (en 32768 m1 (aP bs bp k (a1 + nI i))) = xP t bs bp k (a1 + nI i) from rfl]
    by_cases h : xP t bs bp k (a1 + nI i) < 1984
    · obtain ⟨hpl, -, -⟩ := xP_place h
      obtain ⟨e1, e17⟩ := live_ok (s := t) (a := en 32768 m1 (aP bs bp k (a1 + nI i))) h
      have hV := hI.V h (by have e := e17; unfold xP; omega)
      have h13 := hV.1
      rw [decide_eq_true h, if_neg (show ¬ bI true = 0 by decide), cX_0 hW, Option.bind_some, cO_1 hW hb, Option.bind_some]
      have hx : qBeI t (en 32768 m1 (aP bs bp k (a1 + nI i))) = xP t bs bp k (a1 + nI i) := e1.symm
      rw [hx, en_lt h]
      have e17' : t.1 17 (xP t bs bp k (a1 + nI i)) = 1 := e17
      generalize xP t bs bp k (a1 + nI i) = x at h h13 hV e17' ⊢
      rw [D_isFit (b := 0) (Y := Y) (t := t) hW hb hI.R h h13, Option.bind_some]
      dsimp only
      by_cases h3 : qFit t x = true
      · rw [h3, if_neg (show ¬ bI true = 0 by decide), if_pos ⟨h, rfl⟩, cX_0 hW, Option.bind_some, cO_1 hW hb, Option.bind_some, D_giveBy (b := 0) (Y := Y) (t := t) hW hb hI h e17' hp, Option.bind_some]
        have hI2 := hI.gives h e17' hp
        have hWM2 : XW (cM 0 (sGives t x p) Y) := hW
        have hRM2 : RBc bs bp (cM 0 (sGives t x p) Y) := by rw [RBc_cM]; exact hR
        have hz := bZ_40 (bs := bs) (k := k)
        rw [bR_14 hWM2, Option.bind_some, bO_40 hWM2, Option.bind_some, D_set hWM2 hRM2, Option.bind_some, cN_nI hk (by decide), if_pos ⟨hk, hpl⟩, cM_out' (by decide), km1, kl_1, nI_add]
        have hW3 : XW (xsi Y (42, 0, k) (cN (bZ bs k) (a1 + nI i)) m1) := hW
        obtain ⟨Y', y1, y2, y3, y4⟩ := ih (i + 1) n (sGives t x p) (xsi Y (42, 0, k) (cN (bZ bs k) (a1 + nI i)) m1) (bpLay bp k (cN (bZ bs k) (a1 + nI i)) 32768) hW3 hI2 (hR.lay (by omega) (by rw [en_ge (by decide)])) (by omega) (by omega)
        refine ⟨Y', y1, fun a x ha => ?_, y3, y4⟩
        rw [y2 a x ha, xsi_1, if_neg (fun e => ha (by rw [e.1]))]
      · have h3f : qFit t x = false := by simpa using h3
        rw [h3f, if_pos (show bI false = 0 by decide), if_neg (fun e => Bool.noConfusion e.2)]
        exact ⟨Y, rfl, fun _ _ _ => rfl, hR, rfl⟩
    · rw [decide_eq_false h, if_pos (show bI false = 0 by decide), if_neg (fun e => h e.1)]
      exact ⟨Y, rfl, fun _ _ _ => rfl, hR, rfl⟩
theorem M_one {d : Int32} {s : xS} {X : xMem} {bs bp : Nat → Nat} {k p : Nat} {pl : Int32} (hW : XW X) (hI : INV s) (hR : RBm bs bp X) (hbs : bs k < 41) (hk : k < 4) (hp : p < 4) : fM_poursOne (mM d s X) (44, 0, 0) (nI k) pl (nI p) = some (if xP s bs bp k pl < 1984 ∧ qFit s (xP s bs bp k pl) = true then (1, mM d (sGives s (xP s bs bp k pl) p) (xsi X (79, 0, 0) (40 * k + cN (bZ bs k) pl) (-9))) else (0, mM d s X)) := by
  have hz : bZ bs k = bs k := if_pos hbs
  unfold fM_poursOne
  rw [gR_53 hW, Option.bind_some, aI_80 hW hk, Option.bind_some, hR.1 k hk, en_lt hbs, M_isInS (by omega), Option.bind_some]
  dsimp only
  rcases ge_cases (bs k) pl (by omega) with ⟨h2, -⟩ | ⟨j, hj, rfl, e2⟩
  · rw [decide_eq_false h2, if_pos (show bI false = 0 by decide), if_neg (fun e => h2 (by have := (xP_place e.1).1; rw [hz] at this; exact this))]
  · have hx : 40 * k + j < 160 := by omega
    have e3 : (40 : Int32) * nI k + nI j = nI (40 * k + j) := by rw [kl_40, pk_mul, nI_add]
    rw [e2, decide_eq_true hj, if_neg (show ¬ bI true = 0 by decide), gR_52 hW, Option.bind_some, e3, aI_79 hW hx, Option.bind_some, hR.2 _ hx, hz, e2]
    have ea : aP bs bp k (nI j) = bp (40 * k + j) := by unfold aP; rw [hz, e2, if_pos hj]
    by_cases h5 : bp (40 * k + j) < 32768
    · have h6 : (0 : Int32) ≤ en 32768 (-9) (bp (40 * k + j)) := by rw [kl_0, en_0le (by decide) (by decide)]; exact h5
      have exP : xP s bs bp k (nI j) = qLive s (nI (bp (40 * k + j))) := by unfold xP; rw [ea, en_lt h5]
      rw [if_pos h6, xob_44 hW, Option.bind_some, en_lt h5, M_liveAt hW hI.R hI.S', Option.bind_some, ← exP]
      dsimp only
      unfold fM_poursOne_47
      by_cases h : xP s bs bp k (nI j) < 1984
      · have e17 : s.1 17 (xP s bs bp k (nI j)) = 1 := by rw [exP] at h ⊢; exact (live_ok h).2
        rw [en_lt h, if_neg (show ¬ nI (xP s bs bp k (nI j)) < (0 : Int32) from nI_pos (by omega)), xob_44 hW, Option.bind_some]
        generalize xP s bs bp k (nI j) = x at h e17 ⊢
        have h13 := (hI.V h (by omega)).1
        have hpg := hI.R.pg (p := x / 62) (by omega) h13
        have hk6 := hpg.2.2.2.2
        rw [M_isFit (d := d) (X := X) hW h h13 (by omega), Option.bind_some]
        dsimp only
        by_cases h3 : qFit s x = true
        · rw [h3, if_neg (show ¬ bI true = 0 by decide), if_pos ⟨h, rfl⟩, xob_44 hW, Option.bind_some, M_gives hW hI.R h h13 hp (hI.preG hpg.1 hp), Option.bind_some, gR_52 hW, Option.bind_some, e3, uI_79 hW hx, Option.bind_some]
        · have h3f : qFit s x = false := by simpa using h3
          rw [h3f, if_pos (show bI false = 0 by decide), if_neg (fun e => Bool.noConfusion e.2)]
      · rw [en_ge h, if_pos (show (-9 : Int32) < 0 by decide), if_neg (fun e => h e.1)]
    · have h6 : ¬ (0 : Int32) ≤ en 32768 (-9) (bp (40 * k + j)) := by rw [kl_0, en_0le (by decide) (by decide)]; exact h5
      unfold fM_poursOne_47
      rw [if_neg h6, if_pos (show (-9 : Int32) < 0 by decide), if_neg (fun e => h5 (by have := (xP_place e.1).2.1; rw [hz, e2] at this; exact this))]
