/-! a run's statements: the class's, on -/
def rGv (b κn v p nv : Nat) (u : xS) (N : xMem) : xMem :=
  if nv < 32768 then (if qLive u (nI nv) < 1984 then (if qFit u (qLive u (nI nv)) = true then cM b (sGives u (qLive u (nI nv)) p) (xsi N (κn, 0, 0) v (-1)) else cM b u (xsi N (36, 0, 0) 1 (-5))) else cM b u (xsi N (36, 0, 0) 1 (-1))) else cM b u (xsi N (36, 0, 0) 1 (-11))
theorem R_give {j b κn r v p nv : Nat} {u : xS} {N : xMem} (h : CS j b κn N) (hI : INV u) (hr : r < 100) (hv : v < 26) (hp : p < 4) (e1 : N.1 (28, 0, j) r = nI v) (e3 : N.1 (30, 0, j) r = nI p) (en1 : N.1 (κn, 0, 0) v = en 32768 m1 nv) : fR_giveNamed (cM b u N) (36, 0, 0) (nI r) = some (rGv b κn v p nv u N) := by
  have hb := h.2.2.2.2.2.1
  unfold fR_giveNamed rGv
  rw [h.r3, Option.bind_some, h.tr (k := 1) (by decide), Option.bind_some, h.ra (k := 1) (by decide) hr e1, Option.bind_some, h.o5, Option.bind_some, R_live h hI hv en1, Option.bind_some]
  by_cases h1 : nv < 32768
  · rw [if_pos h1, if_pos h1]
    by_cases h2 : qLive u (nI nv) < 1984
    · rw [if_pos h2, if_pos h2]
      dsimp only
      have hq := (live_ok h2).2
      rw [if_neg (show ¬ nI (qLive u (nI nv)) = (-1 : Int32) from fun e => nI_pos (show qLive u (nI nv) < 2 ^ 31 by omega) (e ▸ (by decide))), h.r4, Option.bind_some, h.o1, Option.bind_some, D_isFit h.1 hb hI.R h2 (hI.V h2 (by rw [hq]; decide)).1, Option.bind_some]
      dsimp only
      by_cases h3 : qFit u (qLive u (nI nv)) = true
      · rw [if_neg (by rw [h3]; decide), if_pos h3, h.r4, Option.bind_some, h.r3, Option.bind_some, h.tr (k := 3) (by decide), Option.bind_some, h.ra (k := 3) (by decide) hr e3, Option.bind_some, h.o1, Option.bind_some, D_giveBy h.1 hb hI h2 hq hp, Option.bind_some, h.r5, Option.bind_some, h.nw hv, Option.bind_some]
      · rw [if_pos (by rw [bfal h3]; rfl), if_neg h3, h.pI, Option.bind_some]
    · rw [if_neg h2, if_neg h2]; rfl
  · rw [if_neg h1, if_neg h1]; rfl
def rSt (b v : Nat) (n : Nat) (nv : Nat) (u : xS) (N : xMem) : xMem :=
  if nv < 32768 then (if qLive u (nI nv) < 1984 then cM b (sW u (qLive u (nI nv)) (nI n)) N else cM b u (xsi N (36, 0, 0) 1 (-1))) else cM b u (xsi N (36, 0, 0) 1 (-11))
theorem R_set {j b κn r v n nv : Nat} {u : xS} {N : xMem} (h : CS j b κn N) (hI : INV u) (hr : r < 100) (hv : v < 26) (e1 : N.1 (28, 0, j) r = nI v) (e3 : N.1 (31, 0, j) r = nI n) (en1 : N.1 (κn, 0, 0) v = en 32768 m1 nv) : fR_setNamed (cM b u N) (36, 0, 0) (nI r) = some (rSt b v n nv u N) := by
  have hb := h.2.2.2.2.2.1
  unfold fR_setNamed rSt
  rw [h.r3, Option.bind_some, h.tr (k := 1) (by decide), Option.bind_some, h.ra (k := 1) (by decide) hr e1, Option.bind_some, h.o5, Option.bind_some, R_live h hI hv en1, Option.bind_some]
  by_cases h1 : nv < 32768
  · rw [if_pos h1, if_pos h1]
    by_cases h2 : qLive u (nI nv) < 1984
    · rw [if_pos h2, if_pos h2]
      dsimp only
      rw [if_neg (show ¬ nI (qLive u (nI nv)) = (-1 : Int32) from fun e => nI_pos (show qLive u (nI nv) < 2 ^ 31 by omega) (e ▸ (by decide))), h.r4, Option.bind_some, h.dR, Option.bind_some, h.r3, Option.bind_some, h.tr (k := 4) (by decide), Option.bind_some, h.ra (k := 4) (by decide) hr e3, Option.bind_some, h.o2, Option.bind_some, D_setWord h.1 hb h2, Option.bind_some]
    · rw [if_neg h2, if_neg h2]; rfl
  · rw [if_neg h1, if_neg h1]; rfl
/-- one step more, or none -/
theorem R_step {j b κn σ : Nat} {u : xS} {N : xMem} (h : CS j b κn N) (hσ : σ ≤ 400) (e0 : N.1 (36, 0, 0) 0 = nI σ) : fR_step (cM b u N) (36, 0, 0) = some (if σ < 400 then (1, cM b u (xsi N (36, 0, 0) 0 (nI (σ + 1)))) else (0, cM b u (xsi N (36, 0, 0) 1 (-6)))) := by
  unfold fR_step
  rw [h.gI, Option.bind_some, e0]
  by_cases h1 : σ < 400
  · rw [kl_400, if_pos (show nI σ < nI 400 from by rw [nI_ltI (by omega) (by decide)]; exact h1), if_pos h1, Option.bind_some, nI_k1, h.pI, Option.bind_some]
  · rw [kl_400, if_neg (show ¬ nI σ < nI 400 from by rw [nI_ltI (by omega) (by decide)]; exact h1), if_neg h1, h.pI, Option.bind_some]
/-- the passes left of a row -/
theorem CS.pl {j b κn b' r : Nat} {v : Int32} {u : xS} {N : xMem} (h : CS j b κn N) (hr : r < 100) (hv : N.1 (37, 0, 0) r = v) : xaI (cM b' u N) (some (37, 0, 0)) (nI r) = some v := by
  rw [xaI_w (M := cM b' u N) h.1 sh_37 hr (by decide), cM_out (Or.inr (Or.inr (by decide))), hv]
theorem CS.pw {j b κn b' r : Nat} {v : Int32} {u : xS} {N : xMem} (h : CS j b κn N) (hr : r < 100) : xuI (cM b' u N) (some (37, 0, 0)) (nI r) v = some (cM b' u (xsi N (37, 0, 0) r v)) := by
  rw [xuI_w (M := cM b' u N) h.1 sh_37 hr (by decide), cM_out' (Or.inr (Or.inr (Or.inr (by decide))))]
/-- a closing row: its opener at o, with l passes left -/
theorem R_close {j b κn r o l σ : Nat} {u : xS} {N : xMem} (h : CS j b κn N) (hσ : σ ≤ 400) (e0 : N.1 (36, 0, 0) 0 = nI σ) (hr : r < 100) (ho : o < 100) (hl : l < 2 ^ 31) (e1 : N.1 (32, 0, j) r = nI o) (e2 : N.1 (37, 0, 0) o = nI l) : fR_close (cM b u N) (36, 0, 0) (nI r) = some (if 0 < l then (if σ < 400 then (nI (o + 1), cM b u (xsi (xsi N (36, 0, 0) 0 (nI (σ + 1))) (37, 0, 0) o (nI (l - 1)))) else (nI r, cM b u (xsi N (36, 0, 0) 1 (-6)))) else (nI (r + 1), cM b u N)) := by
  unfold fR_close fR_close_32
  rw [h.r3, Option.bind_some, h.tr (k := 5) (by decide), Option.bind_some, h.ra (k := 5) (by decide) hr e1, Option.bind_some, if_neg (show ¬ nI o < (0 : Int32) from nI_pos (by omega)), h.r2, Option.bind_some, xal_w (M := cM b u N) h.1 sh_37 (by decide) (by decide), Option.bind_some, if_neg (show ¬ nI 100 ≤ nI o from by rw [nI_leI (by decide) (by omega)]; omega), Option.bind_some, h.pl ho e2, Option.bind_some]
  by_cases h1 : 0 < l
  · rw [if_pos (show (0 : Int32) < nI l from by rw [kl_0, nI_ltI (by decide) hl]; exact h1), if_pos h1, h.o5, Option.bind_some, R_step h hσ e0, Option.bind_some]
    by_cases h2 : σ < 400
    · rw [if_pos h2, if_pos h2]
      dsimp only
      have h' : CS j b κn (xsi N (36, 0, 0) 0 (nI (σ + 1))) := h
      rw [if_neg (by decide), h'.r2, Option.bind_some, h'.pl ho (show (xsi N (36, 0, 0) 0 (nI (σ + 1))).1 (37, 0, 0) o = nI l from by rw [xsi_1, if_neg (fun e => absurd e.1 (by decide))]; exact e2), Option.bind_some, h'.pw ho, Option.bind_some, kl_1, pk_sub (by omega), nI_add]
    · rw [if_neg h2, if_neg h2]; rfl
  · rw [if_neg (show ¬ (0 : Int32) < nI l from by rw [kl_0, nI_ltI (by decide) hl]; exact h1), if_neg h1, nI_k1]
/-- the question -/
theorem R_ask {j b κn r c z : Nat} {u : xS} {N : xMem} (h : CS j b κn N) (hI : INV u) (hr : r < 100) (hc : c < 4) (e1 : N.1 (29, 0, j) r = nI c) (e2 : N.1 (32, 0, j) r = nI z) : fR_ask (cM b u N) (36, 0, 0) (nI r) = some (if c < u.1 19 0 then (if u.1 22 c = 0 then (nI (z + 1), cM b u (xsi N (37, 0, 0) r 0)) else (nI (r + 1), cM b u (xsi N (37, 0, 0) r 0))) else (nI r, cM b u (xsi (xsi N (37, 0, 0) r 0) (36, 0, 0) 1 (-1)))) := by
  have hb := h.2.2.2.2.2.1
  have h' : CS j b κn (xsi N (37, 0, 0) r 0) := h
  have e1' : (xsi N (37, 0, 0) r 0).1 (29, 0, j) r = nI c := by rw [xsi_1, if_neg (fun e => absurd (Prod.mk.inj e.1).1 (by decide))]; exact e1
  have e2' : (xsi N (37, 0, 0) r 0).1 (32, 0, j) r = nI z := by rw [xsi_1, if_neg (fun e => absurd (Prod.mk.inj e.1).1 (by decide))]; exact e2
  unfold fR_ask
  rw [h.r2, Option.bind_some, h.pw hr, Option.bind_some, h'.r4, Option.bind_some, h'.r3, Option.bind_some, h'.tr (k := 2) (by decide), Option.bind_some, h'.ra (k := 2) (by decide) hr e1', Option.bind_some, h'.o1, Option.bind_some, D_cacheS h'.1 hb hI.R.n hc, Option.bind_some]
  dsimp only
  by_cases h1 : c < u.1 19 0
  · have h22 : (cM b u (xsi N (37, 0, 0) r 0)).1 (17, b, c) 1 = nI (u.1 22 c) := cM_rT (e := 0) (if_pos ⟨hc, rfl⟩)
    have h24 := (hI.R.c h1).2.2.2.2.2.2.2.1
    rw [if_pos h1, if_pos h1, if_neg (by simp), show xgR (cM b u (xsi N (37, 0, 0) r 0)) (some (14, b, c)) 2 16 = some (some (17, b, c)) from (xgR_w (M := cM b u (xsi N (37, 0, 0) r 0)) h'.1 (sh_14 hb hc) (by decide) (by decide) rfl).trans rfl, Option.bind_some, xgI_w (M := cM b u (xsi N (37, 0, 0) r 0)) h'.1 (sh_17 hb hc), Option.bind_some, h22]
    by_cases h2 : u.1 22 c = 0
    · rw [if_pos (show nI (u.1 22 c) ≤ 0 from by rw [h2]; decide), if_pos h2, h'.r3, Option.bind_some, h'.tr (k := 5) (by decide), Option.bind_some, h'.ra (k := 5) (by decide) hr e2', Option.bind_some, nI_k1]
    · rw [if_neg (show ¬ nI (u.1 22 c) ≤ 0 from by rw [kl_0, nI_leI (by omega) (by decide)]; omega), if_neg h2, nI_k1]
  · rw [if_neg h1, if_neg h1, if_pos rfl, h'.pI, Option.bind_some]
