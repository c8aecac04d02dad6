/-! drawn, the model's -/
theorem M_drawnL {G : Int32 → Int32} (hG : ∀ g, (g * (1103515245 : Int32)) + (12345 : Int32) = G g) {a : Nat} {a2 d : Int32} {s : xS} {X0 : xMem} (hW : XW X0) (ha : a ≤ 400) : ∀ e i f g u F L k, AgX X0 F → KPm 1 (mM d s X0) F → INV u → LV u L → DM L k F → i + e = a → L.length ≤ i → k ≤ i → e < f → ∃ d' R, fM_drawn_48 f (mM d u F) (some (44, 0, 0)) (nI a) a2 g (nI (s.1 19 2) + d) (nI i) = some (drA a2 (dR G e g u L k) s, mM d' s R) ∧ AgX X0 R ∧ ∀ x, x < 26 → R.1 (71, 0, 0) x = X0.1 (71, 0, 0) x := by
  intro e
  induction e with
  | zero =>
    intro i f g u F L k hA hK hI hL hD hi hl hk hf
    obtain ⟨f, rfl⟩ : ∃ m, f = m + 1 := ⟨f - 1, by omega⟩
    have hi : i = a := by omega
    subst hi
    have hWF : XW F := hA.W hW
    have hW' : XW (mM d u F) := hWF
    obtain ⟨R, hf1, hf2, hf3, hf4⟩ := M_forgets (d2 := d) (s2 := u) hW hA hK
    have hWR : XW (mM (nI (u.1 19 2) + d - nI (s.1 19 2)) s R) := hf2.W hW
    refine ⟨nI (u.1 19 2) + d - nI (s.1 19 2), R, ?_, hf2, hf3⟩
    unfold fM_drawn_48 drA
    rw [if_pos (nI_le (Nat.le_refl _) (by omega)), xob_w hW' sh_44, Option.bind_some, M_manyMade hWF, Option.bind_some, xob_w hW' sh_44, Option.bind_some, M_liveNow hWF hI, Option.bind_some, xob_w hW' sh_44, Option.bind_some, hf1, Option.bind_some]
    dsimp only
    by_cases h1 : a2 = 0
    · rw [if_pos h1, if_pos h1, xgI_w hWR sh_44, Option.bind_some, mM_15, sub_add_i, i_sub_sub]
      rfl
    · rw [if_neg h1, if_neg h1]
      by_cases h2 : a2 = 1
      · rw [if_pos h2, if_pos h2]; rfl
      · rw [if_neg h2, if_neg h2]
        by_cases h3 : a2 = 2
        · rw [if_pos h3, if_pos h3, xgI_w hWR sh_44, Option.bind_some, mM_oF (by decide), hf4 37 (by decide) (by decide) (by decide), hD.2.2]
          rfl
        · rw [if_neg h3, if_neg h3]; rfl
  | succ e ih =>
    intro i f g u F L k hA hK hI hL hD hi hl hk hf
    obtain ⟨f, rfl⟩ : ∃ m, f = m + 1 := ⟨f - 1, by omega⟩
    have hWF : XW F := hA.W hW
    have hW' : XW (mM d u F) := hWF
    have hd := dS_ok (r := G g) (k := k) (EQs.rfl' (s := u)) hI hL
    obtain ⟨F1, c1, c2, c3⟩ := M_draw1 (r := G g) (d := d) hWF hI hL hD (by omega)
    obtain ⟨d', R, g1, g2⟩ := ih (i + 1) f (G g) (dS (G g) u L k).1 F1 (dS (G g) u L k).2.1 (dS (G g) u L k).2.2 (c3.ag hA) (c3.kp hK) hd.2.2.1 hd.2.2.2.1 c2 (by omega) (by have := hd.2.2.2.2.1; omega) (by have := hd.2.2.2.2.2; omega) (by omega)
    refine ⟨d', R, ?_, g2⟩
    unfold fM_drawn_48
    rw [if_neg (by rw [nI_leI (by omega) (by omega)]; omega), xob_w hW' sh_44, Option.bind_some, hG, c1, Option.bind_some, nI_k1, g1]
    rfl
theorem isIn_1400 {M : xMem} {x : Int32} : fM_isIn M x (1 : Int32) (400 : Int32) = some (bI (okI 1 400 x), M) := M_isInG
theorem isIn_03 {M : xMem} {x : Int32} : fM_isIn M x (0 : Int32) (3 : Int32) = some (bI (okI 0 3 x), M) := M_isInG
theorem M_drawn {d : Int32} {s : xS} {M : xMem} {a0 a1 a2 : Int32} (hW : XW M) (hI : INV s) (hM : mM d s M = M) : ∃ d' R, fM_drawn M (44, 0, 0) a0 a1 a2 = some (rDrawn s a0 a1 a2, mM d' s R) ∧ AgX M R ∧ ∀ x, x < 26 → R.1 (71, 0, 0) x = M.1 (71, 0, 0) x := by
  have no : ∃ d' R, (some ((-1 : Int32), M) : Option (Int32 × xMem)) = some (m1, mM d' s R) ∧ AgX M R ∧ ∀ x, x < 26 → R.1 (71, 0, 0) x = M.1 (71, 0, 0) x := ⟨d, M, by rw [hM]; rfl, AgX.rfl', fun _ _ => rfl⟩
  unfold fM_drawn rDrawn
  rw [isIn_1400, Option.bind_some]
  dsimp only
  by_cases k1 : okI 1 400 a1 = true
  · rw [if_neg (by rw [k1]; decide), if_pos k1, isIn_03, Option.bind_some]
    dsimp only
    by_cases k2 : okI 0 3 a2 = true
    · obtain ⟨a, rfl, ha1, ha⟩ := okI_v (by decide) (by decide) k1
      obtain ⟨F, hF1, hF2, hF3, hF4⟩ := M_thinks (d := d) (s := s) (X := M) hW
      rw [hM] at hF1
      have hWF : XW F := hF2.W hW
      have hW' : XW (mM d s F) := hWF
      have hW2 : XW (xsi (mM d s F) (44, 0, 0) 36 0) := hWF
      have hFr : FrD F (xsi (xsi F (44, 0, 0) 36 0) (44, 0, 0) 37 0) := ⟨fun a x a1 a2 => by rw [xsi_1, if_neg (fun e => a2 ⟨by rw [e.1], Or.inr e.2⟩), xsi_1, if_neg (fun e => a2 ⟨by rw [e.1], Or.inl e.2⟩)], rfl⟩
      have hD : DM [] 0 (xsi (xsi F (44, 0, 0) 36 0) (44, 0, 0) 37 0) := ⟨trivial, by rw [xsi_1, if_neg (by decide), xsi_1, if_pos ⟨rfl, rfl⟩]; rfl, by rw [xsi_1, if_pos ⟨rfl, rfl⟩]; rfl⟩
      rw [if_neg (by rw [k2]; decide), if_pos k2, cN_nI (show a < 401 by omega) (by decide), xob_w hW sh_44, Option.bind_some, hF1, Option.bind_some, xgI_w hW' sh_44, Option.bind_some, mM_15, xpI_w hW' sh_44, Option.bind_some, xpI_w hW2 sh_44, Option.bind_some, mM_oF' (by decide), mM_oF' (by decide)]
      generalize xsi (xsi F (44, 0, 0) 36 0) (44, 0, 0) 37 0 = F2 at hFr hD ⊢
      obtain ⟨d', R, g1, g2⟩ := M_drawnL dG_e (a := a) (a2 := a2) (d := d) (s := s) hW ha a 0 xF a0 s F2 [] 0 (hFr.ag hF2) (hFr.kp hF3) hI LV_nil hD (by omega) (by rw [List.length_nil]; omega) (Nat.le_refl _) (by unfold xF; omega)
      refine ⟨d', R, ?_, g2⟩
      rw [kl_0, g1]
    · rw [if_pos (by rw [bfal k2]; rfl), if_neg k2]; exact no
  · rw [if_pos (by rw [bfal k1]; rfl), if_neg k1]; exact no
