/-! moves over rows that open and close nothing -/
theorem isIn_az {M : xMem} {x : Int32} : fM_isIn M x (97 : Int32) (122 : Int32) = some (bI (okI 97 122 x), M) := M_isInG
theorem okI_az {v : Nat} (h : v < 26) : okI 97 122 (nI (97 + v)) = true := by
  unfold okI
  rw [if_neg (by rw [nI_ltI (by omega) (by decide)]; omega), if_neg (by rw [nI_ltI (by decide) (by omega)]; omega)]
theorem okI_nz {a : Nat} (h : a < 97 ∨ 122 < a) (h2 : a < 2 ^ 31) : okI 97 122 (nI a) = false := by
  unfold okI
  by_cases h1 : a < 97
  · rw [if_pos (by rw [nI_ltI h2 (by decide)]; exact h1)]
  · rw [if_neg (by rw [nI_ltI h2 (by decide)]; exact h1), if_pos (by rw [nI_ltI (by decide) h2]; omega)]
/-- the beginning of a move, where a step is left -/
theorem R_mv {j b κn r a σ : Nat} {u : xS} {N : xMem} (h : CS j b κn N) (hr : r < 100) (ha : N.1 (27, 0, j) r = nI a) (ha6 : a < 6) (hσ : σ < 400) (e0 : N.1 (36, 0, 0) 0 = nI σ) : fR_move (cM b u N) (36, 0, 0) (nI r) = (if nI a = (0 : Int32) then (fR_takeNamed (cM b u (xsi N (36, 0, 0) 0 (nI (σ + 1)))) (36, 0, 0) (nI r)).bind fun q9 => some (nI (r + 1), q9)
    else if nI a = (1 : Int32) then (fR_giveNamed (cM b u (xsi N (36, 0, 0) 0 (nI (σ + 1)))) (36, 0, 0) (nI r)).bind fun q9 => some (nI (r + 1), q9)
    else if nI a = (2 : Int32) then (fR_setNamed (cM b u (xsi N (36, 0, 0) 0 (nI (σ + 1)))) (36, 0, 0) (nI r)).bind fun q9 => some (nI (r + 1), q9)
    else if nI a = (3 : Int32) then (fD_endInterval (cM b u (xsi N (36, 0, 0) 0 (nI (σ + 1)))) (1, b, 0)).bind fun q9 => some (nI (r + 1), q9.2)
    else if nI a = (4 : Int32) then (xaI (cM b u (xsi N (36, 0, 0) 0 (nI (σ + 1)))) (some (31, 0, j)) (nI r)).bind fun v20 => (xuI (cM b u (xsi N (36, 0, 0) 0 (nI (σ + 1)))) (some (37, 0, 0)) (nI r) v20).bind fun M21 => (xgR M21 (some (36, 0, 0)) 5 3).bind fun v22 => (xgR M21 v22 6 5).bind fun v23 => (xaI M21 v23 (nI r)).bind fun v24 => some (v24, M21)
    else (fR_ask (cM b u (xsi N (36, 0, 0) 0 (nI (σ + 1)))) (36, 0, 0) (nI r)).bind fun q26 => some (q26.1, q26.2)) := by
  have h1 : CS j b κn (xsi N (36, 0, 0) 0 (nI (σ + 1))) := h
  unfold fR_move fR_move_134
  rw [h.r3, Option.bind_some, h.tr (k := 0) (by decide), Option.bind_some, h.ra (k := 0) (by decide) hr ha, Option.bind_some, if_neg (show ¬ nI a = (6 : Int32) from fun e => by
    have e2 : nI a = nI 6 := e
    rw [nI_eq (by omega) (by decide)] at e2
    omega), h.o5, Option.bind_some, R_step h (by omega) e0, Option.bind_some, if_pos hσ]
  dsimp only
  rw [if_neg (by decide), nI_k1, h1.o5, Option.bind_some, Option.bind_some, Option.bind_some, h1.r4, Option.bind_some, h1.o1, Option.bind_some, h1.r2, Option.bind_some, h1.r3, Option.bind_some, h1.tr (k := 4) (by decide), Option.bind_some, Option.bind_some]
theorem MV_simple {j b κn r x y L σ : Nat} {d : Int32} {N0 X0 N X : xMem} {s u : xS} {nm : Nat → Nat} (h : BS κn N0 X0 s u N X nm σ 0) (h0 : CS j b κn N0) (hWX : XW X0) (hL : L ≤ 100) (h43 : X0.1 (44, 0, 0) 43 = nI L) (h44 : X.1 (44, 0, 0) 44 = nI x) (hr : r < 100) (hRW : RW j N0 (X0.1 (76, 0, 0)) r x y) (hy : y ≤ L) (hno : opB j N0 r = false) (hnc : clB j N0 r = false) (hdg : y < L → isDg (X0.1 (76, 0, 0) y) = false) (hσ : σ < 400) :
    ∃ s' u' N' X' nm' w, fR_move (cM b u N) (36, 0, 0) (nI r) = some (nI (r + 1), cM b u' N') ∧ fM_runsStatement (mM d s (xsi X (44, 0, 0) 47 (nI (σ + 1)))) (44, 0, 0) = some (mM d s' X') ∧ BS κn N0 X0 s' u' N' X' nm' (σ + 1) w ∧ AT X X' y w ∧ N'.1 (37, 0, 0) = N.1 (37, 0, 0) := by
  have hκ := h0.2.2.2.2.2.2
  have hC := h.C h0
  have hI := h.2.2.2.1
  have hE := h.2.2.1
  have hIu := hE.inv hI
  have e0 := h.2.2.2.2.2.2.1
  have h1 := h.step hκ hσ
  have hC1 := h1.C h0
  have hW1 := h1.W hWX
  have htx := h1.txt
  have h43' := h1.t43.trans h43
  have h44' : (xsi X (44, 0, 0) 47 (nI (σ + 1))).1 (44, 0, 0) 44 = nI x := by rw [xsi_1, if_neg (by decide)]; exact h44
  have f45 : (xsi X (44, 0, 0) 47 (nI (σ + 1))).1 (44, 0, 0) 45 = X.1 (44, 0, 0) 45 := by rw [xsi_1, if_neg (by decide)]
  have f77 : (xsi X (44, 0, 0) 47 (nI (σ + 1))).1 (77, 0, 0) = X.1 (77, 0, 0) := by funext q; rw [xsi_1, if_neg (fun e => absurd e.1 (by decide))]
  have f78 : (xsi X (44, 0, 0) 47 (nI (σ + 1))).1 (78, 0, 0) = X.1 (78, 0, 0) := by funext q; rw [xsi_1, if_neg (fun e => absurd e.1 (by decide))]
  have n37' : (xsi N (36, 0, 0) 0 (nI (σ + 1))).1 (37, 0, 0) = N.1 (37, 0, 0) := n37 (show (36 : Nat) ≠ 37 by decide)
  have aTo : ∀ {X' : xMem} {w : Int32}, AT (xsi X (44, 0, 0) 47 (nI (σ + 1))) X' y w → AT X X' y w := fun {X'} {w} ha => ⟨ha.1, ha.2.1.trans f45, ha.2.2.1.trans f77, ha.2.2.2.trans f78⟩
  have hmv := fun a (ha : N0.1 (27, 0, j) r = nI a) (h6 : a < 6) => R_mv (u := u) hC hr (h.row h0 (by decide) ha) h6 hσ e0
  generalize xsi N (36, 0, 0) 0 (nI (σ + 1)) = N1 at h1 hC1 n37' hmv
  generalize xsi X (44, 0, 0) 47 (nI (σ + 1)) = X1 at h1 hW1 htx h43' h44' aTo ⊢
  have hnm := h1.2.2.2.2.2.1
  rcases hRW with ⟨v, c, p, hv, hc, hp, ha, r1, r2, r3, t0, t1, t2, t3, t4, rfl⟩ | ⟨v, p, hv, hp, ha, r1, r3, t0, t1, t2, t3, rfl⟩ | ⟨v, n, e, hv, he, ha, r1, r4, t0, t1, hN, rfl⟩ | ⟨ha, t0, rfl⟩ | ⟨n, e, he, ha, -⟩ | ⟨c, hc, ha, -⟩ | ⟨ha, -⟩
  · obtain ⟨s', u', N', X', nm', w, g1, g2, g3, g4, g5⟩ := B_take (v := v) (c := c) (p := p) (x := x) (d := d) h1 h0 hp
    refine ⟨s', u', N', X', nm', w, ?_, ?_, g3, aTo g4, g5.trans n37'⟩
    · rw [hmv 0 ha (by decide), if_pos (by decide), R_take hC1 hIu hr hv hc hp (h1.row h0 (by decide) r1) (h1.row h0 (by decide) r2) (h1.row h0 (by decide) r3), Option.bind_some, g1]
    · rw [← htx] at t0 t1 t2 t4
      unfold fM_runsStatement
      rw [nR_39 hW1, Option.bind_some, ngI hW1 (by decide), Option.bind_some, h44', nA_76 hW1 (by omega) t0, Option.bind_some, isIn_az, Option.bind_some]
      dsimp only
      rw [okI_az hv, if_neg (by decide), nR_39 hW1, Option.bind_some, ngI hW1 (by decide), Option.bind_some, h44', nI_k1, nA_76 hW1 (by omega) t1, Option.bind_some, if_pos (show nI 61 = (61 : Int32) from rfl), nob hW1, Option.bind_some, m97, S_take hW1 hI (by omega) hv hc hp h44' t2 t4, Option.bind_some, g2]
  · obtain ⟨s', u', N', X', nm', w, g1, g2, g3, g4, g5⟩ := B_give (v := v) (p := p) (x := x) (d := d) h1 h0 hp
    refine ⟨s', u', N', X', nm', w, ?_, ?_, g3, aTo g4, g5.trans n37'⟩
    · rw [hmv 1 ha (by decide), if_neg (by decide), if_pos (by decide), R_give hC1 hIu hr hv hp (h1.row h0 (by decide) r1) (h1.row h0 (by decide) r3) (hnm v hv).1, Option.bind_some, g1]
    · rw [← htx] at t0 t1 t3
      unfold fM_runsStatement
      rw [nR_39 hW1, Option.bind_some, ngI hW1 (by decide), Option.bind_some, h44', nA_76 hW1 (by omega) t0, Option.bind_some, isIn_az, Option.bind_some]
      dsimp only
      rw [okI_nz (by omega) (by decide), if_pos (by decide), if_pos (show nI 126 = (126 : Int32) from rfl), nR_39 hW1, Option.bind_some, ngI hW1 (by decide), Option.bind_some, h44', nI_k1, nA_76 hW1 (by omega) t1, Option.bind_some, nob hW1, Option.bind_some, m97, S_give hW1 hI (by omega) hv hp h44' t3 (hnm v hv).2, Option.bind_some, g2]
  · obtain ⟨s', u', N', X', nm', w, g1, g2, g3, g4, g5⟩ := B_set (v := v) (n := n) (y := x + 2 + (e + 1)) (d := d) h1 h0
    refine ⟨s', u', N', X', nm', w, ?_, ?_, g3, aTo g4, g5.trans n37'⟩
    · rw [hmv 2 ha (by decide), if_neg (by decide), if_neg (by decide), if_pos (by decide), R_set hC1 hIu hr hv (h1.row h0 (by decide) r1) (h1.row h0 (by decide) r4) (hnm v hv).1, Option.bind_some, g1]
    · rw [← htx] at t0 t1 hN hdg
      unfold fM_runsStatement
      rw [nR_39 hW1, Option.bind_some, ngI hW1 (by decide), Option.bind_some, h44', nA_76 hW1 (by omega) t0, Option.bind_some, isIn_az, Option.bind_some]
      dsimp only
      rw [okI_az hv, if_neg (by decide), nR_39 hW1, Option.bind_some, ngI hW1 (by decide), Option.bind_some, h44', nI_k1, nA_76 hW1 (by omega) t1, Option.bind_some, if_neg (show ¬ nI 58 = (61 : Int32) by decide), nob hW1, Option.bind_some, m97, S_set hW1 hI hL hv h44' h43' hN hy hdg (hnm v hv).2, Option.bind_some, g2]
  · have hU := h1.2.2.2.2.1
    have hW2 : XW (xsi X1 (44, 0, 0) 44 (nI (x + 1))) := hW1
    refine ⟨sTick s, sTick u, N1, xsi X1 (44, 0, 0) 44 (nI (x + 1)), nm, 0, ?_, ?_, (h1.at (Or.inl ⟨rfl, by omega⟩)).sts (hE.tick hI) hI.tick (hU.k (UF.tick UF.rfl' (Nat.le_refl _))), aTo AT.o, n37'⟩
    · rw [hmv 3 ha (by decide), if_neg (by decide), if_neg (by decide), if_neg (by decide), if_pos (by decide), D_endInterval hC1.1 h0.2.2.2.2.2.1 hIu, Option.bind_some]
    · rw [← htx] at t0
      unfold fM_runsStatement
      rw [nR_39 hW1, Option.bind_some, ngI hW1 (by decide), Option.bind_some, h44', nA_76 hW1 (by omega) t0, Option.bind_some, isIn_az, Option.bind_some]
      dsimp only
      rw [okI_nz (by omega) (by decide), if_pos (by decide), if_neg (show ¬ nI 33 = (126 : Int32) by decide), if_pos (show nI 33 = (33 : Int32) from rfl), ngI hW1 (by decide), Option.bind_some, h44', nI_k1, npI hW1 (by decide), Option.bind_some, nob hW2, Option.bind_some, M_endsInterval hW2 hI.R hI.preI, Option.bind_some]
      rfl
  · rw [opB_y ha (by omega)] at hno; cases hno
  · rw [opB_y ha (by omega)] at hno; cases hno
  · rw [clB_y ha] at hnc; cases hnc
