/-! rows that open -/
theorem NumD_v {τ : Nat → Int32} {n : Nat} : ∀ {e x a : Nat}, NumD τ e x n a → a * 10 ^ e ≤ n ∧ n < (a + 1) * 10 ^ e := by
  intro e
  induction e with
  | zero =>
    intro x a h
    have : a = n := h.2
    rw [Nat.pow_zero]; omega
  | succ e ih =>
    intro x a h
    obtain ⟨k, hk, -, hN⟩ := h
    have h1 := ih hN
    have e1 : (10 * a + k + 1) * 10 ^ e ≤ (a + 1) * 10 ^ (e + 1) := by
      rw [Nat.pow_succ, Nat.mul_comm (10 ^ e) 10, ← Nat.mul_assoc]
      exact Nat.mul_le_mul_right _ (by omega)
    have e2 : a * 10 ^ (e + 1) ≤ (10 * a + k) * 10 ^ e := by
      rw [Nat.pow_succ, Nat.mul_comm (10 ^ e) 10, ← Nat.mul_assoc]
      exact Nat.mul_le_mul_right _ (by omega)
    omega
theorem NumD_lt {τ : Nat → Int32} {n e x : Nat} (h : NumD τ (e + 1) x n 0) (he : e < 3) : n < 1000 := by
  have h1 := (NumD_v h).2
  rcases (show e = 0 ∨ e = 1 ∨ e = 2 by omega) with rfl | rfl | rfl <;> simp at h1 <;> omega
/-- opened, with n passes -/
def mOp (k n : Nat) (y : Nat) (X : xMem) : xMem := xsi (xsi (xsi X (77, 0, 0) k (nI y)) (78, 0, 0) k (nI n)) (44, 0, 0) 45 (nI (k + 1))
theorem S_opn {d : Int32} {s : xS} {X : xMem} {k n y : Nat} (hW : XW X) (hk : k < 5) (hn0 : 0 < n) (hn : n < 1000) (h44 : X.1 (44, 0, 0) 44 = nI y) (h45 : X.1 (44, 0, 0) 45 = nI k) : fM_opensFor (mM d s X) (44, 0, 0) (nI n) = some (mM d s (mOp k n y X)) := by
  have hW1 : XW (xsi X (77, 0, 0) k (nI y)) := hW
  have hW2 : XW (xsi (xsi X (77, 0, 0) k (nI y)) (78, 0, 0) k (nI n)) := hW
  have a1 : (xsi X (77, 0, 0) k (nI y)).1 (44, 0, 0) 45 = nI k := by rw [xsi_1, if_neg (fun e => absurd e.1 (by decide))]; exact h45
  have a2 : (xsi (xsi X (77, 0, 0) k (nI y)) (78, 0, 0) k (nI n)).1 (44, 0, 0) 45 = nI k := by rw [xsi_1, if_neg (fun e => absurd e.1 (by decide))]; exact a1
  unfold fM_opensFor mOp
  rw [if_neg (show ¬ nI n = (0 : Int32) from by rw [kl_0, nI_eq (by omega) (by decide)]; omega), nR_40 hW, Option.bind_some, ngI hW (by decide), Option.bind_some, ngI hW (by decide), Option.bind_some, h44, h45, nU_77 hW hk, Option.bind_some, nR_41 hW1, Option.bind_some, ngI hW1 (by decide), Option.bind_some, a1, nU_78 hW1 hk, Option.bind_some, ngI hW2 (by decide), Option.bind_some, a2, nI_k1, npI hW2 (by decide), Option.bind_some]
theorem S_opn0 {d : Int32} {s : xS} {X : xMem} {z : Nat} (hW : XW X) (h : fM_passesOver_2 xF (mM d s X) (some (44, 0, 0)) (nI (0 + 1)) = some (mM d s (xsi X (44, 0, 0) 44 (nI (z + 1))))) : fM_opensFor (mM d s X) (44, 0, 0) (nI 0) = some (mM d s (xsi X (44, 0, 0) 44 (nI (z + 1)))) := by
  unfold fM_opensFor fM_passesOver
  rw [if_pos (show nI 0 = (0 : Int32) from rfl), nob hW, Option.bind_some, kl_1]
  rw [show (0 + 1 : Nat) = 1 from rfl] at h
  rw [h, Option.bind_some]
theorem S_many {d : Int32} {s : xS} {X : xMem} {x e n L : Nat} (hW : XW X) (hL : L ≤ 100) (h44 : X.1 (44, 0, 0) 44 = nI x) (h43 : X.1 (44, 0, 0) 43 = nI L) (hN : NumD (X.1 (76, 0, 0)) (e + 1) x n 0) (hx : x + (e + 1) < L) (t0 : X.1 (76, 0, 0) (x + (e + 1)) = nI 40) : fM_runsStatement (mM d s X) (44, 0, 0) = (fM_opensFor (mM d s (xsi X (44, 0, 0) 44 (nI (x + (e + 1) + 1)))) (44, 0, 0) (nI n)).bind fun q6 => if nI n ≤ (0 : Int32) then some q6 else (xob q6 (some (44, 0, 0)) 8).bind fun u7 => (fM_goesStep q6 u7).bind fun q8 => some q8.2 := by
  have hN0 := hN
  obtain ⟨k, hk, tk, -⟩ := hN0
  have hW1 : XW (xsi X (44, 0, 0) 44 (nI (x + (e + 1)))) := hW
  have hW2 : XW (xsi X (44, 0, 0) 44 (nI (x + (e + 1) + 1))) := hW
  have h44' : (xsi X (44, 0, 0) 44 (nI (x + (e + 1)))).1 (44, 0, 0) 44 = nI (x + (e + 1)) := by rw [xsi_1, if_pos ⟨rfl, rfl⟩]
  have nd : isDg (X.1 (76, 0, 0) (x + (e + 1))) = false := by rw [t0]; decide
  have ne : ∀ a, a < 2 ^ 31 → a < 48 ∨ 57 < a → ¬ nI (48 + k) = nI a := fun a h1 h2 => by rw [nI_eq (by omega) h1]; omega
  unfold fM_runsStatement fM_runsMany
  rw [nR_39 hW, Option.bind_some, ngI hW (by decide), Option.bind_some, h44, nA_76 hW (by omega) tk, Option.bind_some, isIn_az, Option.bind_some]
  dsimp only
  rw [okI_nz (by omega) (by omega), if_pos (by decide), if_neg (show ¬ nI (48 + k) = (126 : Int32) from ne 126 (by decide) (by decide)), if_neg (show ¬ nI (48 + k) = (33 : Int32) from ne 33 (by decide) (by decide)), if_neg (show ¬ nI (48 + k) = (63 : Int32) from ne 63 (by decide) (by decide)), nob hW, Option.bind_some, nob hW, Option.bind_some, S_num hW hL h44 h43 hN (by omega) (fun _ => nd), Option.bind_some]
  dsimp only
  rw [ngI hW1 (by decide), Option.bind_some, h44', nI_k1, npI hW1 (by decide), Option.bind_some, xsi_xsi, nob hW2, Option.bind_some]
  cases h : fM_opensFor (mM d s (xsi X (44, 0, 0) 44 (nI (x + (e + 1) + 1)))) (44, 0, 0) (nI n) with
  | none => rfl
  | some q =>
    rw [Option.bind_some]
    by_cases hz : nI n ≤ (0 : Int32)
    · rw [if_pos hz]
      rfl
    · rw [if_neg hz]
      cases xob q (some (44, 0, 0)) 8 with
      | none => rfl
      | some a =>
        show ((fM_goesStep q a).bind fun q8 => some q8.2).bind _ = (fM_goesStep q a).bind fun q8 => some q8.2
        cases fM_goesStep q a with
        | none => rfl
        | some q2 => rfl
theorem S_if {d : Int32} {s : xS} {X : xMem} {x c : Nat} (hW : XW X) (hI : INV s) (hx : x + 3 ≤ 100) (hc : c < 4) (h44 : X.1 (44, 0, 0) 44 = nI x) (t0 : X.1 (76, 0, 0) x = nI 63) (t1 : X.1 (76, 0, 0) (x + 1) = nI (48 + c)) : fM_runsStatement (mM d s X) (44, 0, 0) = (if c < s.1 19 0 then fM_opensFor (mM d s (xsi X (44, 0, 0) 44 (nI (x + 3)))) (44, 0, 0) (nI (if s.1 22 c = 0 then 0 else 1)) else some (mM d s (xsi (xsi X (44, 0, 0) 44 (nI (x + 3))) (44, 0, 0) 48 (-1)))) := by
  have hn := hI.R.n
  have hW1 : XW (xsi X (44, 0, 0) 44 (nI (x + 3))) := hW
  unfold fM_runsStatement fM_runsIf fM_runsIf_56
  rw [nR_39 hW, Option.bind_some, ngI hW (by decide), Option.bind_some, h44, nA_76 hW (by omega) t0, Option.bind_some, isIn_az, Option.bind_some]
  dsimp only
  rw [okI_nz (by omega) (by decide), if_pos (by decide), if_neg (show ¬ nI 63 = (126 : Int32) by decide), if_neg (show ¬ nI 63 = (33 : Int32) by decide), if_pos (show nI 63 = (63 : Int32) from rfl), nob hW, Option.bind_some, nR_39 hW, Option.bind_some, ngI hW (by decide), Option.bind_some, h44, nI_k1, nA_76 hW (by omega) t1, Option.bind_some, Option.bind_some, show nI x + (3 : Int32) = nI (x + 3) from nk x 3, npI hW (by decide), Option.bind_some, nob hW1, Option.bind_some, m48, isC_n hW1 hn hc, Option.bind_some]
  dsimp only
  by_cases h1 : c < s.1 19 0
  · have h24 := (hI.R.c h1).2.2.2.2.2.2.2.1
    have hr : xgR (mM d s (xsi X (44, 0, 0) 44 (nI (x + 3)))) (some (44, 0, 0)) 8 26 = some (some (68, 0, 0)) := (xgR_w (M := mM d s (xsi X (44, 0, 0) 44 (nI (x + 3)))) hW1 sh_44 (by decide) (by decide) rfl).trans rfl
    have e68 : (mM d s (xsi X (44, 0, 0) 44 (nI (x + 3)))).1 (68, 0, 0) c = nI (s.1 22 c) := mM_rd (κ := 68) (q := 22) (B := 4) (t := 0) rfl hc
    rw [decide_eq_true h1, if_neg (by decide), if_pos h1, hr, Option.bind_some, xaI_w (M := mM d s (xsi X (44, 0, 0) 44 (nI (x + 3)))) hW1 sh_68 hc (by decide), Option.bind_some, e68]
    by_cases h2 : s.1 22 c = 0
    · rw [if_pos (by rw [h2]; decide), if_pos h2, nob hW1, Option.bind_some, show (0 : Int32) = nI 0 from rfl]
      cases fM_opensFor (mM d s (xsi X (44, 0, 0) 44 (nI (x + 3)))) (44, 0, 0) (nI 0) with
      | none => rfl
      | some q => rfl
    · rw [if_neg (show ¬ nI (s.1 22 c) ≤ (0 : Int32) from by rw [kl_0, nI_leI (by omega) (by decide)]; omega), if_neg h2, nob hW1, Option.bind_some, show (1 : Int32) = nI 1 from rfl]
      cases fM_opensFor (mM d s (xsi X (44, 0, 0) 44 (nI (x + 3)))) (44, 0, 0) (nI 1) with
      | none => rfl
      | some q => rfl
  · rw [decide_eq_false h1, if_pos (by decide), if_neg h1, npI hW1 (by decide), Option.bind_some, Option.bind_some]
