/-! numbers, and what the model does at brackets -/
/-- a number's letters, from x to y -/
def NumD (τ : Nat → Int32) : Nat → Nat → Nat → Nat → Prop
  | 0, x, n, a => x = x ∧ a = n
  | e + 1, x, n, a => ∃ k, k < 10 ∧ τ x = nI (48 + k) ∧ NumD τ e (x + 1) n (10 * a + k)
def isDg (v : Int32) : Bool := okI 48 57 v
theorem isDg_n {k : Nat} (h : k < 10) : isDg (nI (48 + k)) = true := by
  unfold isDg okI
  rw [if_neg (by rw [nI_ltI (by omega) (by decide)]; omega), if_neg (by rw [nI_ltI (by decide) (by omega)]; omega)]
theorem isIn_dg {M : xMem} {x : Int32} : fM_isIn M x (48 : Int32) (57 : Int32) = some (bI (isDg x), M) := M_isInG
/-- the number that stands at x, e letters long; behind it no digit, or the end -/
theorem S_numL {d : Int32} {s : xS} {L : Nat} (hL : L ≤ 100) {n : Nat} : ∀ e x a f (X : xMem), XW X → X.1 (44, 0, 0) 44 = nI x → X.1 (44, 0, 0) 43 = nI L → NumD (X.1 (76, 0, 0)) (e + 1) x n a → x + (e + 1) ≤ L → (x + (e + 1) < L → isDg (X.1 (76, 0, 0) (x + (e + 1))) = false) → e + 1 < f → fM_numberAt_2 f (mM d s X) (some (44, 0, 0)) (nI a) = some (nI n, mM d s (xsi X (44, 0, 0) 44 (nI (x + (e + 1))))) := by
  intro e
  induction e with
  | zero =>
    intro x a f X hW h44 h43 hN hx hnx hf
    obtain ⟨f, rfl⟩ : ∃ m, f = m + 1 := ⟨f - 1, by omega⟩
    obtain ⟨k, hk, ht, -, hn⟩ := hN
    have hW1 : XW (xsi X (44, 0, 0) 44 (nI (x + 1))) := hW
    have h44' : (xsi X (44, 0, 0) 44 (nI (x + 1))).1 (44, 0, 0) 44 = nI (x + 1) := by rw [xsi_1, if_pos ⟨rfl, rfl⟩]
    have h43' : (xsi X (44, 0, 0) 44 (nI (x + 1))).1 (44, 0, 0) 43 = nI L := by rw [xsi_1, if_neg (by decide)]; exact h43
    unfold fM_numberAt_2
    rw [nR_39 hW, Option.bind_some, ngI hW (by decide), Option.bind_some, h44, nA_76 hW (by omega) ht, Option.bind_some, isIn_dg, Option.bind_some]
    dsimp only
    rw [if_neg (by rw [isDg_n hk]; decide), nR_39 hW, Option.bind_some, ngI hW (by decide), Option.bind_some, h44, nA_76 hW (by omega) ht, Option.bind_some, Option.bind_some, nI_k1, npI hW (by decide), Option.bind_some, ngI hW1 (by decide), Option.bind_some, ngI hW1 (by decide), Option.bind_some, h44', h43']
    have ea : (10 : Int32) * nI a + nI (48 + k) - (48 : Int32) = nI n := by
      rw [kl_10, pk_mul, nI_add, show 10 * a + (48 + k) = 48 + (10 * a + k) from by omega, m48, hn]
    rw [ea]
    by_cases h1 : x + 1 = L
    · rw [if_pos (by rw [h1])]
    · rw [if_neg (by rw [nI_eq (by omega) (by omega)]; exact h1)]
      have ht' : (xsi X (44, 0, 0) 44 (nI (x + 1))).1 (76, 0, 0) (x + 1) = X.1 (76, 0, 0) (x + 1) := by rw [xsi_1, if_neg (fun e => absurd e.1 (by decide))]
      obtain ⟨f, rfl⟩ : ∃ m, f = m + 1 := ⟨f - 1, by omega⟩
      unfold fM_numberAt_2
      rw [nR_39 hW1, Option.bind_some, ngI hW1 (by decide), Option.bind_some, h44', nA_76 hW1 (by omega) ht', Option.bind_some, isIn_dg, Option.bind_some]
      dsimp only
      rw [hnx (by omega), if_pos (by decide)]
  | succ e ih =>
    intro x a f X hW h44 h43 hN hx hnx hf
    obtain ⟨f, rfl⟩ : ∃ m, f = m + 1 := ⟨f - 1, by omega⟩
    obtain ⟨k, hk, ht, hN⟩ := hN
    have hW1 : XW (xsi X (44, 0, 0) 44 (nI (x + 1))) := hW
    have et : (xsi X (44, 0, 0) 44 (nI (x + 1))).1 (76, 0, 0) = X.1 (76, 0, 0) := by funext y; rw [xsi_1, if_neg (fun e => absurd e.1 (by decide))]
    have h44' : (xsi X (44, 0, 0) 44 (nI (x + 1))).1 (44, 0, 0) 44 = nI (x + 1) := by rw [xsi_1, if_pos ⟨rfl, rfl⟩]
    have h43' : (xsi X (44, 0, 0) 44 (nI (x + 1))).1 (44, 0, 0) 43 = nI L := by rw [xsi_1, if_neg (by decide)]; exact h43
    have hi := ih (x + 1) (10 * a + k) f (xsi X (44, 0, 0) 44 (nI (x + 1))) hW1 h44' h43' (by rw [et]; exact hN) (by omega) (by rw [et, show x + 1 + (e + 1) = x + (e + 1 + 1) from by omega]; exact hnx) (by omega)
    unfold fM_numberAt_2
    rw [nR_39 hW, Option.bind_some, ngI hW (by decide), Option.bind_some, h44, nA_76 hW (by omega) ht, Option.bind_some, isIn_dg, Option.bind_some]
    dsimp only
    rw [if_neg (by rw [isDg_n hk]; decide), nR_39 hW, Option.bind_some, ngI hW (by decide), Option.bind_some, h44, nA_76 hW (by omega) ht, Option.bind_some, Option.bind_some, nI_k1, npI hW (by decide), Option.bind_some, ngI hW1 (by decide), Option.bind_some, ngI hW1 (by decide), Option.bind_some, h44', h43']
    have ea : (10 : Int32) * nI a + nI (48 + k) - (48 : Int32) = nI (10 * a + k) := by
      rw [kl_10, pk_mul, nI_add, show 10 * a + (48 + k) = 48 + (10 * a + k) from by omega, m48]
    rw [ea, if_neg (by rw [nI_eq (by omega) (by omega)]; omega), hi]
    congr 3
    refine Prod.ext ?_ rfl
    funext a' y
    rw [xsi_1, xsi_1, xsi_1]
    by_cases h1 : a' = (44, 0, 0) ∧ y = 44
    · rw [if_pos h1, if_pos h1, show x + 1 + (e + 1) = x + (e + 1 + 1) from by omega]
    · rw [if_neg h1, if_neg h1, if_neg h1]
theorem xsi_xsi {X : xMem} {a : xId} {k : Nat} {v w : Int32} : xsi (xsi X a k v) a k w = xsi X a k w := by
  refine Prod.ext ?_ rfl
  funext a' y
  rw [xsi_1, xsi_1, xsi_1]
  by_cases h1 : a' = a ∧ y = k
  · rw [if_pos h1, if_pos h1]
  · rw [if_neg h1, if_neg h1, if_neg h1]
theorem S_num {d : Int32} {s : xS} {L e x n : Nat} {X : xMem} (hW : XW X) (hL : L ≤ 100) (h44 : X.1 (44, 0, 0) 44 = nI x) (h43 : X.1 (44, 0, 0) 43 = nI L) (hN : NumD (X.1 (76, 0, 0)) (e + 1) x n 0) (hx : x + (e + 1) ≤ L) (hnx : x + (e + 1) < L → isDg (X.1 (76, 0, 0) (x + (e + 1))) = false) : fM_numberAt (mM d s X) (44, 0, 0) = some (nI n, mM d s (xsi X (44, 0, 0) 44 (nI (x + (e + 1))))) := by
  unfold fM_numberAt
  rw [kl_0]
  exact S_numL hL e x 0 xF X hW h44 h43 hN hx hnx (by unfold xF; omega)
def mSt (d : Int32) (n nv y : Nat) (s : xS) (X : xMem) : xMem :=
  if nv < 32768 then (if qLive s (nI nv) < 1984 then mM d (sW s (qLive s (nI nv)) (nI n)) (xsi X (44, 0, 0) 44 (nI y)) else mM d s (xsi (xsi X (44, 0, 0) 44 (nI y)) (44, 0, 0) 48 (-1))) else mM d s (xsi (xsi X (44, 0, 0) 44 (nI y)) (44, 0, 0) 48 (-11))
theorem S_set {d : Int32} {v n nv x e L : Nat} {s : xS} {X : xMem} (hW : XW X) (hI : INV s) (hL : L ≤ 100) (hv : v < 26) (h44 : X.1 (44, 0, 0) 44 = nI x) (h43 : X.1 (44, 0, 0) 43 = nI L) (hN : NumD (X.1 (76, 0, 0)) (e + 1) (x + 2) n 0) (hx : x + 2 + (e + 1) ≤ L) (hnx : x + 2 + (e + 1) < L → isDg (X.1 (76, 0, 0) (x + 2 + (e + 1))) = false) (en1 : X.1 (71, 0, 0) v = en 32768 (-9) nv) : fM_runsWrite (mM d s X) (44, 0, 0) (nI v) = some (mSt d n nv (x + 2 + (e + 1)) s X) := by
  have hW1 : XW (xsi X (44, 0, 0) 44 (nI (x + 2))) := hW
  have hW2 : XW (xsi X (44, 0, 0) 44 (nI (x + 2 + (e + 1)))) := hW
  have et : (xsi X (44, 0, 0) 44 (nI (x + 2))).1 (76, 0, 0) = X.1 (76, 0, 0) := by funext y; rw [xsi_1, if_neg (fun e => absurd e.1 (by decide))]
  have h44' : (xsi X (44, 0, 0) 44 (nI (x + 2))).1 (44, 0, 0) 44 = nI (x + 2) := by rw [xsi_1, if_pos ⟨rfl, rfl⟩]
  have h43' : (xsi X (44, 0, 0) 44 (nI (x + 2))).1 (44, 0, 0) 43 = nI L := by rw [xsi_1, if_neg (by decide)]; exact h43
  have en2 : (xsi X (44, 0, 0) 44 (nI (x + 2 + (e + 1)))).1 (71, 0, 0) v = en 32768 (-9) nv := by rw [xsi_1, if_neg (fun e => absurd e.1 (by decide))]; exact en1
  unfold fM_runsWrite mSt fM_runsWrite_39 fM_runsWrite_60
  rw [ngI hW (by decide), Option.bind_some, h44, show nI x + (2 : Int32) = nI (x + 2) from nk x 2, npI hW (by decide), Option.bind_some, nob hW1, Option.bind_some, S_num hW1 hL h44' h43' (by rw [et]; exact hN) hx (by rw [et]; exact hnx), Option.bind_some]
  dsimp only
  rw [xsi_xsi, nR_29 hW2, Option.bind_some, nA_71 hW2 hv, Option.bind_some, en2]
  by_cases h1 : nv < 32768
  · have h0 : (0 : Int32) ≤ nI nv := nI_pos' (by omega)
    rw [en_lt h1, if_pos h0, if_pos h1, Option.bind_some, nA_71 hW2 hv, Option.bind_some, en2, en_lt h1, nob hW2, Option.bind_some, M_liveAt hW2 hI.R (fun b hb => hI.S hb), Option.bind_some]
    dsimp only
    by_cases h2 : qLive s (nI nv) < 1984
    · rw [en_lt h2, if_pos (show (0 : Int32) ≤ nI (qLive s (nI nv)) from nI_pos' (by omega)), if_pos h2, show xgR (mM d s (xsi X (44, 0, 0) 44 (nI (x + 2 + (e + 1))))) (some (44, 0, 0)) 8 19 = some (some (61, 0, 0)) from gR_19 hW2, Option.bind_some, xuI_w (M := mM d s (xsi X (44, 0, 0) 44 (nI (x + 2 + (e + 1))))) hW2 sh_61 h2 (by decide), Option.bind_some, mM_wW h2]
    · rw [en_ge h2, if_neg (show ¬ (0 : Int32) ≤ -9 by decide), if_neg h2, nR_29 hW2, Option.bind_some, nA_71 hW2 hv, Option.bind_some, en2, en_lt h1, if_pos h0, npI hW2 (by decide), Option.bind_some]
  · rw [en_ge h1, if_neg (show ¬ (0 : Int32) ≤ -9 by decide), if_neg (show ¬ (0 : Int32) ≤ -9 by decide), if_neg h1, Option.bind_some, nA_71 hW2 hv, Option.bind_some, en2, en_ge h1, if_neg (show ¬ (0 : Int32) ≤ -9 by decide), npI hW2 (by decide), Option.bind_some]
