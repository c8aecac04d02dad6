/-! drawn, image, back -/
def dG (g : Int32) : Int32 := (g * (1103515245 : Int32)) + (12345 : Int32)
theorem dG_e (g : Int32) : (g * (1103515245 : Int32)) + (12345 : Int32) = dG g := rfl
def dR (G : Int32 → Int32) : Nat → Int32 → xS → List Nat → Nat → xS × List Nat × Nat
  | 0, _, u, L, k => (u, L, k)
  | n + 1, g, u, L, k => dR G n (G g) (dS (G g) u L k).1 (dS (G g) u L k).2.1 (dS (G g) u L k).2.2
theorem dR_ok {G : Int32 → Int32} : ∀ {n : Nat} {g : Int32} {s t : xS} {L : List Nat} {k : Nat}, EQs s t → INV s → LV s L → (dR G n g t L k).2 = (dR G n g s L k).2 ∧ EQs (dR G n g s L k).1 (dR G n g t L k).1 ∧ INV (dR G n g s L k).1 := by
  intro n
  induction n with
  | zero => intro g s t L k h hI _; exact ⟨rfl, h, hI⟩
  | succ n ih =>
    intro g s t L k h hI hL
    have h1 := dS_ok (r := G g) (k := k) h hI hL
    unfold dR
    rw [h1.1]
    exact ih h1.2.1 h1.2.2.1 h1.2.2.2.1
def drA (a2 : Int32) (z : xS × List Nat × Nat) (t : xS) : Int32 := if a2 = 0 then nI (z.1.1 19 2) - nI (t.1 19 2) else if a2 = 1 then nI (qMade z.1) else if a2 = 2 then nI z.2.2 else nI (qHow z.1 (fun _ => true) 1)
def rDrawn (s : xS) (a0 a1 a2 : Int32) : Int32 := if okI 1 400 a1 = true then (if okI 0 3 a2 = true then drA a2 (dR dG (cN 401 a1) a0 s [] 0) s else m1) else m1
theorem rDrawn_ok {s t : xS} (h : EQs s t) (hI : INV s) {a0 a1 a2 : Int32} : rDrawn t a0 a1 a2 = rDrawn s a0 a1 a2 := by
  have hd := dR_ok (G := dG) (n := cN 401 a1) (g := a0) (k := 0) h hI LV_nil
  unfold rDrawn drA
  rw [hd.2.1.n (j := 2) (by decide), h.n (j := 2) (by decide), hd.2.1.made18, hd.1, hd.2.1.how hd.2.2.R]
theorem C_drawnL {G : Int32 → Int32} (hG : ∀ g, (g * (1103515245 : Int32)) + (12345 : Int32) = G g) {a : Nat} {a2 : Int32} {t : xS} (ha : a ≤ 400) : ∀ e i f g u N L k, XW N → HB 0 t N → INV u → LV u L → PL L N → i + e = a → L.length ≤ i → k ≤ i → e < f → ∃ N', fX_drawn_50 f (cM 1 u N) (some (0, 0, 0)) (nI a) a2 (nI k) g (nI i) = some (drA a2 (dR G e g u L k) t, cM 1 (dR G e g u L k).1 N') ∧ FrN N N' := by
  intro e
  induction e with
  | zero =>
    intro i f g u N L k hW h0 hI hL hP hi hl hk hf
    obtain ⟨f, rfl⟩ : ∃ m, f = m + 1 := ⟨f - 1, by omega⟩
    have hi : i = a := by omega
    subst hi
    have hW' : XW (cM 1 u N) := hW
    have g7 : (cM 1 u N).1 (1, 1, 0) 7 = nI (u.1 19 2) := cM_rT (e := 0) rfl
    have g5 : (cM 1 u N).1 (1, 1, 0) 5 = nI (qMade u) := cM_rD rfl rfl
    have k7 : (cM 1 u N).1 (1, 0, 0) 7 = nI (t.1 19 2) := (cM_o (Or.inl (by decide))).trans (h0.1 1 0 7 _ (cI_T (e := 0) rfl))
    refine ⟨N, ?_, FrN.rfl'⟩
    unfold fX_drawn_50 drA
    rw [if_pos (nI_le (Nat.le_refl _) (by omega))]
    by_cases h1 : a2 = 0
    · rw [if_pos h1, if_pos h1, tR_1 hW', Option.bind_some, xgI_w hW' (sh_1 (by decide)), Option.bind_some, g7, tR_0 hW', Option.bind_some, xgI_w hW' (sh_1 (by decide)), Option.bind_some, k7]
      rfl
    · rw [if_neg h1, if_neg h1]
      by_cases h2 : a2 = 1
      · rw [if_pos h2, if_pos h2, tR_1 hW', Option.bind_some, xgI_w hW' (sh_1 (by decide)), Option.bind_some, g5]
        rfl
      · rw [if_neg h2, if_neg h2]
        by_cases h3 : a2 = 2
        · rw [if_pos h3, if_pos h3]; rfl
        · have hh := D_howMany (b := 1) (t := u) (Y := N) (v := 1) (w := (-1 : Int32)) (S := fun _ => true) hW (by decide) hI (by decide) (fun x _ => propext ⟨fun _ => rfl, fun _ => Or.inl rfl⟩)
          rw [if_neg h3, if_neg h3, tR_1 hW', Option.bind_some, tR_p hW' (by decide), Option.bind_some, xob_w hW' (sh_2 (by decide)), Option.bind_some, show fA_howMany (cM 1 u N) (2, 1, 0) (-1 : Int32) (1 : Int32) = _ from hh, Option.bind_some]
          rfl
  | succ e ih =>
    intro i f g u N L k hW h0 hI hL hP hi hl hk hf
    obtain ⟨f, rfl⟩ : ∃ m, f = m + 1 := ⟨f - 1, by omega⟩
    have hW' : XW (cM 1 u N) := hW
    have hd := dS_ok (r := G g) (k := k) (EQs.rfl' (s := u)) hI hL
    obtain ⟨N1, v, c1, c2, c3, c4⟩ := C_draw1 (r := G g) (k := k) hW hI hL hP (by omega)
    obtain ⟨N', g1, g2⟩ := ih (i + 1) f (G g) (dS (G g) u L k).1 N1 (dS (G g) u L k).2.1 (dS (G g) u L k).2.2 (c4.W hW) (c4.HB h0) hd.2.2.1 hd.2.2.2.1 c3 (by omega) (by have := hd.2.2.2.2.1; omega) (by have := hd.2.2.2.2.2; omega) (by omega)
    refine ⟨N', ?_, c4.tr g2⟩
    unfold fX_drawn_50
    rw [if_neg (by rw [nI_leI (by omega) (by omega)]; omega), xob_w hW' sh_0, Option.bind_some, hG, c1, Option.bind_some]
    dsimp only
    rw [c2, nI_k1, g1]
    rfl
