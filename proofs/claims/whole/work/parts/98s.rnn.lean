/-! a run: from every row -/
theorem RUN {j b κn L R : Nat} {d : Int32} {N0 X0 : xMem} {tp : Nat → Nat} (h0 : CS j b κn N0) (hWX : XW X0) (hP : PG j N0 (X0.1 (76, 0, 0)) L R tp) (h6 : N0.1 (26, 0, j) 6 = nI R) (h43 : X0.1 (44, 0, 0) 43 = nI L) : ∀ m ρ σ s u N X nm, SP j κn N0 X0 tp s u N X nm σ ρ (tp ρ) → ρ < R → clB j N0 ρ = false → σ + m = 400 → RUNS j b κn d N0 X0 s u N X ρ m := by
  have hκ := h0.2.2.2.2.2.2
  have hR := hP.1
  have hL := hP.2.1
  intro m
  induction m using Nat.strongRecOn with
  | ind m ih =>
    intro ρ σ s u N X nm hS hρ hc hσm
    obtain ⟨hB, h44, h45, hST⟩ := hS
    have hC := hB.C h0
    have hW := hB.W hWX
    have htx := hB.txt
    have hI := hB.2.2.2.1
    have hE := hB.2.2.1
    have hU := hB.2.2.2.2.1
    have hIu := hE.inv hI
    have e0 := hB.2.2.2.2.2.2.1
    have e47 := hB.2.2.2.2.2.2.2.1
    have hσ := hB.2.2.2.2.2.2.2.2.1
    obtain ⟨y, hy, hRW, hnext⟩ := hP.row hρ
    obtain ⟨a, ha6, haN⟩ := RW_act hRW hc
    have haN' : N.1 (27, 0, j) ρ = nI a := hB.row h0 (by decide) haN
    by_cases hσ4 : σ < 400
    · -- a step is left
      have hB1 := hB.step hκ hσ4
      have hC1 := hB1.C h0
      have hW1 := hB1.W hWX
      have hrun : ∀ g M', fM_runsStatement (mM d s (xsi X (44, 0, 0) 47 (nI (σ + 1)))) (44, 0, 0) = some M' → XW M' → fM_runs_22 (g + 1) (mM d s X) (some (44, 0, 0)) 1 = (if M'.1 (44, 0, 0) 48 = 0 then mCn g M' else fM_runs_22 g M' (some (44, 0, 0)) 0) := fun g M' hM hWM => by
        rw [RN_1 hW hσ e47, if_pos hσ4, hM, Option.bind_some, xgI_w hWM sh_44, Option.bind_some]
        by_cases hz : M'.1 (44, 0, 0) 48 = 0
        · rw [if_pos hz, if_pos hz, xob_w hWM sh_44, Option.bind_some]
          rfl
        · rw [if_neg hz, if_neg hz]
      have g48 : ∀ {s' u' : xS} {N' X' : xMem} {nm' : Nat → Nat} {σ' : Nat} {w' : Int32}, BS κn N0 X0 s' u' N' X' nm' σ' w' → (mM d s' X').1 (44, 0, 0) 48 = w' ∧ XW (mM d s' X') := fun hb => ⟨(mM_oF (by decide)).trans hb.2.2.2.2.2.2.2.2.2.2, hb.W hWX⟩
      -- a statement after which the run ends
      have fin : ∀ {s' u' : xS} {N' X' : xMem} {nm' : Nat → Nat} {σ' ρ' : Nat} {w' : Int32}, BS κn N0 X0 s' u' N' X' nm' σ' w' → w' ≠ 0 → fM_runsStatement (mM d s (xsi X (44, 0, 0) 47 (nI (σ + 1)))) (44, 0, 0) = some (mM d s' X') → (∀ f c, 20 * m + 20 < f → c + 20 * m + 20 < 1000000 → ∃ f' ρ' c', fR_goThrough_31 f (cM b u N) (some (36, 0, 0)) (some (26, 0, j)) (nI ρ) (nI c) = fR_goThrough_31 (f' + 1) (cM b u' N') (some (36, 0, 0)) (some (26, 0, j)) ρ' c') → RUNS j b κn d N0 X0 s u N X ρ m := fun {s' u' N' X' nm' σ' ρ' w'} hb hw hst hcl => by
        refine ⟨s', u', N', X', nm', σ', w', hb, fun f c hf hc' => ?_, fun g hg => ?_⟩
        · obtain ⟨f', ρ', c', e⟩ := hcl f c hf hc'
          rw [e]; exact GT_why hb h0 hw
        · obtain ⟨g, rfl⟩ : ∃ q, g = q + 2 := ⟨g - 2, by omega⟩
          rw [hrun (g + 1) _ hst (g48 hb).2, (g48 hb).1, if_neg hw, RN_0]
      -- a statement behind which the run goes on
      have cont : ∀ {s' u' : xS} {N' X' : xMem} {nm' : Nat → Nat} {σ' ρ' x' : Nat}, SP j κn N0 X0 tp s' u' N' X' nm' σ' ρ' x' → AFT j N0 (X0.1 (76, 0, 0)) L R tp ρ' x' → ρ' ≤ R → σ < σ' → fM_runsStatement (mM d s (xsi X (44, 0, 0) 47 (nI (σ + 1)))) (44, 0, 0) = some (mM d s' X') → (∀ f c, 20 * m + 20 < f → c + 20 * m + 20 < 1000000 → ∃ q, 1 ≤ q ∧ q ≤ 3 ∧ fR_goThrough_31 f (cM b u N) (some (36, 0, 0)) (some (26, 0, j)) (nI ρ) (nI c) = fR_goThrough_31 (f - q) (cM b u' N') (some (36, 0, 0)) (some (26, 0, j)) (nI ρ') (nI (c + q))) → RUNS j b κn d N0 X0 s u N X ρ m := fun {s' u' N' X' nm' σ' ρ' x'} hS' hA' hρ' hσ' hst hcl => by
        obtain ⟨s2, u2, N2, X2, nm2, σ2, w2, c1, c2, c3⟩ := CONT (m := m) (d := d) h0 hWX hP h6 h43 ih hS' hA' hρ' (by omega)
        refine ⟨s2, u2, N2, X2, nm2, σ2, w2, c1, fun f c hf hc' => ?_, fun g hg => ?_⟩
        · obtain ⟨q, q1, q2, e⟩ := hcl f c hf hc'
          rw [e]; exact c2 (f - q) (c + q) (by omega) (by omega)
        · obtain ⟨g, rfl⟩ : ∃ q, g = q + 1 := ⟨g - 1, by omega⟩
          rw [hrun g _ hst (g48 hS'.1).2, (g48 hS'.1).1, if_pos rfl]
          exact c3 g (by omega)
      by_cases ho : opB j N0 ρ = true
      · -- a row that opens
        have hnx := hnext
        rw [if_pos ho] at hnx
        obtain ⟨hρ1, htp, hc1⟩ := hnx
        have hs1 : stk (opB j N0) (clB j N0) (ρ + 1) = [] ++ ρ :: stk (opB j N0) (clB j N0) ρ := by
          show (if opB j N0 ρ = true then _ else _) = _
          rw [if_pos ho]; rfl
        have hk5 : (stk (opB j N0) (clB j N0) ρ).length < 5 := by
          have := hP.2.2.2.2.2.2.2 (ρ + 1) (by omega)
          rw [hs1, List.nil_append, List.length_cons] at this
          omega
        have hov := fun (X' : xMem) (w1 : XW X') (w2 : X'.1 (76, 0, 0) = X0.1 (76, 0, 0)) (w3 : X'.1 (44, 0, 0) 44 = nI y) => S_over (d := d) (s := s) hP (R - (ρ + 1)) (ρ + 1) xF [] X' (by omega) hs1 w1 w2 (by rw [htp]; exact w3) (by unfold xF; omega)
        have htx1 := hB1.txt
        have h44' : (xsi X (44, 0, 0) 47 (nI (σ + 1))).1 (44, 0, 0) 44 = nI (tp ρ) := by rw [xsi_1, if_neg (by decide)]; exact h44
        have h45' : (xsi X (44, 0, 0) 47 (nI (σ + 1))).1 (44, 0, 0) 45 = nI (stk (opB j N0) (clB j N0) ρ).length := by rw [xsi_1, if_neg (by decide)]; exact h45
        have h43' := hB1.t43.trans h43
        have hST1 : STr tp (xsi N (36, 0, 0) 0 (nI (σ + 1))) (xsi X (44, 0, 0) 47 (nI (σ + 1))) (stk (opB j N0) (clB j N0) ρ) := hST.to (fun o _ => by rw [xsi_1, if_neg (fun e => absurd e.1 (by decide))]) (fun i _ => ⟨by rw [xsi_1, if_neg (fun e => absurd e.1 (by decide))], by rw [xsi_1, if_neg (fun e => absurd e.1 (by decide))]⟩)
        have hmv := R_mv (u := u) hC (by omega) haN' ha6 hσ4 e0
        generalize xsi N (36, 0, 0) 0 (nI (σ + 1)) = N1 at hB1 hC1 hST1 hmv
        generalize xsi X (44, 0, 0) 47 (nI (σ + 1)) = X1 at hB1 hW1 htx1 h44' h45' h43' hST1 hrun fin cont
        have hWy : XW (xsi X1 (44, 0, 0) 44 (nI y)) := hW1
        obtain ⟨z, z1, z2, z3, z4, z5⟩ := hov (xsi X1 (44, 0, 0) 44 (nI y)) hWy (by rw [← htx1]; funext q; rw [xsi_1, if_neg (fun e => absurd e.1 (by decide))]) (by rw [xsi_1, if_pos ⟨rfl, rfl⟩])
        rw [xsi_xsi] at z5
        obtain ⟨o, rest, hso, q1, q2⟩ := hP.2.2.2.2.2.1 z z2 z3
        rw [z4] at hso
        obtain ⟨rfl, hrest⟩ := List.cons.inj hso
        have q1' : ∀ {N' X' : xMem} {s' u' nm' σ' w'}, BS κn N0 X0 s' u' N' X' nm' σ' w' → N'.1 (32, 0, j) z = nI ρ := fun hb => hb.row h0 (by decide) q1
        have q2' : ∀ {N' X' : xMem} {s' u' nm' σ' w'}, BS κn N0 X0 s' u' N' X' nm' σ' w' → N'.1 (32, 0, j) ρ = nI z := fun hb => hb.row h0 (by decide) q2
        obtain ⟨yz, hyz, hRWz, hnextz⟩ := hP.row z2
        obtain ⟨haz, -, rfl⟩ := RW_close hRWz z3
        have hsz : stk (opB j N0) (clB j N0) (z + 1) = stk (opB j N0) (clB j N0) ρ := by
          show (if opB j N0 z = true then _ else if clB j N0 z = true then (stk (opB j N0) (clB j N0) z).tail else _) = _
          rw [opB_cl z3, if_neg (by decide), if_pos z3, z4]
          rfl
        -- at the end of the body, passed over
        have spz : ∀ {v : Int32}, SP j κn N0 X0 tp s u (xsi N1 (37, 0, 0) ρ v) (xsi X1 (44, 0, 0) 44 (nI (tp z + 1))) nm (σ + 1) (z + 1) (tp z + 1) := fun {v} => by
          refine ⟨(hB1.pass hκ).at (Or.inl ⟨rfl, by omega⟩), by rw [xsi_1, if_pos ⟨rfl, rfl⟩], by rw [hsz, xsi_1, if_neg (by decide)]; exact h45', ?_⟩
          rw [hsz]
          exact hST1.to (fun o' ho' => by
            have := stk_lt ho'
            rw [xsi_1, if_neg (fun e => by omega)]) (fun i _ => ⟨by rw [xsi_1, if_neg (fun e => absurd e.1 (by decide))], by rw [xsi_1, if_neg (fun e => absurd e.1 (by decide))]⟩)
        -- the body, opened
        have spo : ∀ {l n : Nat} {N' X' : xMem} {σ' : Nat}, l < 1000 → n = l + 1 → BS κn N0 X0 s u N' X' nm σ' 0 → N'.1 (37, 0, 0) ρ = nI l → (∀ o, o ≠ ρ → N'.1 (37, 0, 0) o = N1.1 (37, 0, 0) o) → X'.1 (44, 0, 0) 44 = nI y → X'.1 (44, 0, 0) 45 = nI ((stk (opB j N0) (clB j N0) ρ).length + 1) → X'.1 (77, 0, 0) (stk (opB j N0) (clB j N0) ρ).length = nI y → X'.1 (78, 0, 0) (stk (opB j N0) (clB j N0) ρ).length = nI n → (∀ i, i < (stk (opB j N0) (clB j N0) ρ).length → X'.1 (77, 0, 0) i = X1.1 (77, 0, 0) i ∧ X'.1 (78, 0, 0) i = X1.1 (78, 0, 0) i) → SP j κn N0 X0 tp s u N' X' nm σ' (ρ + 1) y := fun {l n N' X' σ'} hl hn hb a1 a2 a3 a4 a5 a6 a7 => by
          refine ⟨hb, a3, by rw [hs1]; exact a4, ?_⟩
          rw [hs1]
          refine ⟨⟨l, hl, a1, by rw [htp]; exact a5, by rw [← hn]; exact a6⟩, hST1.to (fun o' ho' => a2 o' (by have := stk_lt ho'; omega)) a7⟩
        have mop : ∀ n : Nat, BS κn N0 X0 s u N1 (mOp (stk (opB j N0) (clB j N0) ρ).length n y (xsi X1 (44, 0, 0) 44 (nI y))) nm (σ + 1) 0 := fun n => (((hB1.at (Or.inl ⟨rfl, by omega⟩)).at (Or.inr (Or.inl rfl))).at (Or.inr (Or.inr rfl))).at (Or.inl ⟨rfl, by omega⟩)
        have mo44 : ∀ n : Nat, (mOp (stk (opB j N0) (clB j N0) ρ).length n y (xsi X1 (44, 0, 0) 44 (nI y))).1 (44, 0, 0) 44 = nI y := fun n => by
          unfold mOp; rw [xsi_1, if_neg (by decide), xsi_1, if_neg (fun e => absurd e.1 (by decide)), xsi_1, if_neg (fun e => absurd e.1 (by decide)), xsi_1, if_pos ⟨rfl, rfl⟩]
        have mo45 : ∀ n : Nat, (mOp (stk (opB j N0) (clB j N0) ρ).length n y (xsi X1 (44, 0, 0) 44 (nI y))).1 (44, 0, 0) 45 = nI ((stk (opB j N0) (clB j N0) ρ).length + 1) := fun n => by
          unfold mOp; rw [xsi_1, if_pos ⟨rfl, rfl⟩]
        have mo77 : ∀ n i, (mOp (stk (opB j N0) (clB j N0) ρ).length n y (xsi X1 (44, 0, 0) 44 (nI y))).1 (77, 0, 0) i = if i = (stk (opB j N0) (clB j N0) ρ).length then nI y else X1.1 (77, 0, 0) i := fun n i => by
          unfold mOp
          rw [xsi_1, if_neg (fun e => absurd e.1 (by decide)), xsi_1, if_neg (fun e => absurd e.1 (by decide)), xsi_1]
          by_cases hi : i = (stk (opB j N0) (clB j N0) ρ).length
          · rw [if_pos ⟨rfl, hi⟩, if_pos hi]
          · rw [if_neg (fun e => hi e.2), if_neg hi, xsi_1, if_neg (fun e => absurd e.1 (by decide))]
        have mo78 : ∀ n i, (mOp (stk (opB j N0) (clB j N0) ρ).length n y (xsi X1 (44, 0, 0) 44 (nI y))).1 (78, 0, 0) i = if i = (stk (opB j N0) (clB j N0) ρ).length then nI n else X1.1 (78, 0, 0) i := fun n i => by
          unfold mOp
          rw [xsi_1, if_neg (fun e => absurd e.1 (by decide)), xsi_1]
          by_cases hi : i = (stk (opB j N0) (clB j N0) ρ).length
          · rw [if_pos ⟨rfl, hi⟩, if_pos hi]
          · rw [if_neg (fun e => hi e.2), if_neg hi, xsi_1, if_neg (fun e => absurd e.1 (by decide)), xsi_1, if_neg (fun e => absurd e.1 (by decide))]
        have hA1 : AFT j N0 (X0.1 (76, 0, 0)) L R tp (ρ + 1) y := PG.next hρ hnext
        have hAz : AFT j N0 (X0.1 (76, 0, 0)) L R tp (z + 1) (tp z + 1) := PG.next z2 hnextz
        have hyo : XW (xsi X1 (44, 0, 0) 44 (nI y)) := hW1
        have ho44 : (xsi X1 (44, 0, 0) 44 (nI y)).1 (44, 0, 0) 44 = nI y := by rw [xsi_1, if_pos ⟨rfl, rfl⟩]
        have ho45 : (xsi X1 (44, 0, 0) 44 (nI y)).1 (44, 0, 0) 45 = nI (stk (opB j N0) (clB j N0) ρ).length := by rw [xsi_1, if_neg (by decide)]; exact h45'
        have z5' : fM_opensFor (mM d s (xsi X1 (44, 0, 0) 44 (nI y))) (44, 0, 0) (nI 0) = some (mM d s (xsi X1 (44, 0, 0) 44 (nI (tp z + 1)))) := by
          have := S_opn0 (d := d) (s := s) (z := tp z) hyo (by rw [xsi_xsi]; exact z5)
          rw [xsi_xsi] at this
          exact this
        clear hov
        rcases hRW with ⟨v, c, p, hv, hc', hp, ha, -⟩ | ⟨v, p, hv, hp, ha, -⟩ | ⟨v, n, e, hv, he, ha, -⟩ | ⟨ha, -⟩ | ⟨n, e, he, ha, r4, hN, t0, hye⟩ | ⟨c, hc', ha, r2, t0, t1, t2, hye⟩ | ⟨ha, -⟩
        · rw [opB_n ha (by omega)] at ho; cases ho
        · rw [opB_n ha (by omega)] at ho; cases ho
        · rw [opB_n ha (by omega)] at ho; cases ho
        · rw [opB_n ha (by omega)] at ho; cases ho
        · -- a repeat
          have hn1000 := NumD_lt hN he
          have ea : a = 4 := by rw [haN, nI_eq (by omega) (by decide)] at ha; exact ha
          subst ea
          have hC1' : CS j b κn (xsi N1 (37, 0, 0) ρ (nI n)) := hC1
          have hBp := hB1.pass (k := ρ) (v := nI n) hκ
          have e37 : (xsi N1 (37, 0, 0) ρ (nI n)).1 (37, 0, 0) ρ = nI n := by rw [xsi_1, if_pos ⟨rfl, rfl⟩]
          have hmv1 : fR_move (cM b u N) (36, 0, 0) (nI ρ) = some (nI z, cM b u (xsi N1 (37, 0, 0) ρ (nI n))) := by
            rw [hmv, if_neg (by decide), if_neg (by decide), if_neg (by decide), if_neg (by decide), if_pos (by decide), hC1.ra (k := 4) (by decide) (by omega) (hB1.row h0 (by decide) r4), Option.bind_some, hC1.pw (by omega), Option.bind_some, hC1'.r3, Option.bind_some, hC1'.tr (k := 5) (by decide), Option.bind_some, hC1'.ra (k := 5) (by decide) (by omega) (q2' hBp), Option.bind_some]
          have hmv2 : fR_move (cM b u (xsi N1 (37, 0, 0) ρ (nI n))) (36, 0, 0) (nI z) = some (if 0 < n then (if σ + 1 < 400 then (nI (ρ + 1), cM b u (xsi (xsi (xsi N1 (37, 0, 0) ρ (nI n)) (36, 0, 0) 0 (nI (σ + 1 + 1))) (37, 0, 0) ρ (nI (n - 1)))) else (nI z, cM b u (xsi (xsi N1 (37, 0, 0) ρ (nI n)) (36, 0, 0) 1 (-6)))) else (nI (z + 1), cM b u (xsi N1 (37, 0, 0) ρ (nI n)))) := by
            unfold fR_move
            rw [hC1'.r3, Option.bind_some, hC1'.tr (k := 0) (by decide), Option.bind_some, hC1'.ra (k := 0) (by decide) (by omega) (hBp.row h0 (by decide) haz), Option.bind_some, if_pos (by decide), hC1'.o5, Option.bind_some, R_close hC1' (by omega) hBp.2.2.2.2.2.2.1 (by omega) (by omega) (by omega) (q1' hBp) e37, Option.bind_some]
          rw [← htx1] at hN t0
          have hsm := S_many (d := d) (s := s) hW1 hL h44' h43' hN (by omega) t0
          rw [← hye] at hsm
          by_cases hn0 : n = 0
          · subst hn0
            rw [if_neg (Nat.lt_irrefl 0)] at hmv2
            rw [z5', Option.bind_some, if_pos (by decide)] at hsm
            refine cont (spz (v := nI 0)) hAz (by omega) (by omega) hsm (fun f c' hf hc2 => ⟨2, by omega, by omega, ?_⟩)
            obtain ⟨f, rfl⟩ : ∃ q, f = q + 2 := ⟨f - 2, by omega⟩
            rw [GT_step hB h0 h6 hR hρ (by omega), hmv1, Option.bind_some]
            dsimp only
            rw [GT_step hBp h0 h6 hR z2 (by omega), hmv2, Option.bind_some]
            rfl
          · have hn0' : 0 < n := by omega
            rw [if_pos hn0'] at hmv2
            have hWo : XW (mOp (stk (opB j N0) (clB j N0) ρ).length n y (xsi X1 (44, 0, 0) 44 (nI y))) := hW1
            have hBo := mop n
            rw [S_opn hyo hk5 hn0' hn1000 ho44 ho45, Option.bind_some, if_neg (show ¬ nI n ≤ (0 : Int32) from by rw [kl_0, nI_leI (by omega) (by decide)]; omega), nob hWo, Option.bind_some, S_step hWo (show σ + 1 ≤ 400 by omega) hBo.2.2.2.2.2.2.2.1, Option.bind_some] at hsm
            by_cases hσ5 : σ + 1 < 400
            · rw [if_pos hσ5] at hmv2 hsm
              have hBs := hBo.step hκ hσ5
              have hB5 := (hBp.step hκ hσ5).pass (k := ρ) (v := nI (n - 1)) hκ
              have hBx : BS κn N0 X0 s u (xsi (xsi (xsi N1 (37, 0, 0) ρ (nI n)) (36, 0, 0) 0 (nI (σ + 1 + 1))) (37, 0, 0) ρ (nI (n - 1))) (xsi (mOp (stk (opB j N0) (clB j N0) ρ).length n y (xsi X1 (44, 0, 0) 44 (nI y))) (44, 0, 0) 47 (nI (σ + 1 + 1))) nm (σ + 1 + 1) 0 := ((hBo.pass (k := ρ) (v := nI n) hκ).step hκ hσ5).pass hκ
              refine cont (spo (l := n - 1) (n := n) (by omega) (by omega) hBx ?_ (fun o' ho' => ?_) ?_ ?_ ?_ ?_ (fun i hi => ⟨?_, ?_⟩)) hA1 (by omega) (by omega) hsm (fun f c' hf hc2 => ⟨2, by omega, by omega, ?_⟩)
              · rw [xsi_1, if_pos ⟨rfl, rfl⟩]
              · rw [xsi_1, if_neg (fun e => ho' e.2), xsi_1, if_neg (fun e => absurd e.1 (by decide)), xsi_1, if_neg (fun e => ho' e.2)]
              · rw [xsi_1, if_neg (by decide)]; exact mo44 n
              · rw [xsi_1, if_neg (by decide)]; exact mo45 n
              · rw [xsi_1, if_neg (fun e => absurd e.1 (by decide)), mo77, if_pos rfl]
              · rw [xsi_1, if_neg (fun e => absurd e.1 (by decide)), mo78, if_pos rfl]
              · rw [xsi_1, if_neg (fun e => absurd e.1 (by decide)), mo77, if_neg (by omega)]
              · rw [xsi_1, if_neg (fun e => absurd e.1 (by decide)), mo78, if_neg (by omega)]
              · obtain ⟨f, rfl⟩ : ∃ q, f = q + 2 := ⟨f - 2, by omega⟩
                rw [GT_step hB h0 h6 hR hρ (by omega), hmv1, Option.bind_some]
                dsimp only
                rw [GT_step hBp h0 h6 hR z2 (by omega), hmv2, Option.bind_some]
                rfl
            · rw [if_neg hσ5] at hmv2 hsm
              have hBx : BS κn N0 X0 s u (xsi (xsi N1 (37, 0, 0) ρ (nI n)) (36, 0, 0) 1 (-6)) (xsi (mOp (stk (opB j N0) (clB j N0) ρ).length n y (xsi X1 (44, 0, 0) 44 (nI y))) (44, 0, 0) 48 (-6)) nm (σ + 1) (-6) := (hBo.pass (k := ρ) (v := nI n) hκ).why hκ hE hI hU
              refine fin (ρ' := 0) hBx (by decide) hsm (fun f c' hf hc2 => ⟨f - 3, nI z, nI (c' + 1 + 1), ?_⟩)
              obtain ⟨f, rfl⟩ : ∃ q, f = q + 3 := ⟨f - 3, by omega⟩
              rw [GT_step hB h0 h6 hR hρ (by omega), hmv1, Option.bind_some]
              dsimp only
              rw [GT_step hBp h0 h6 hR z2 (by omega), hmv2, Option.bind_some]
              rfl
        · -- a question
          have ea : a = 5 := by rw [haN, nI_eq (by omega) (by decide)] at ha; exact ha
          subst ea
          have hBp := hB1.pass (k := ρ) (v := 0) hκ
          have hn := hE.n (j := 0) (by decide)
          rw [← htx1] at t0 t1
          have hsm := S_if (d := d) hW1 hI (by omega) hc' h44' t0 t1
          rw [← hye] at hsm
          have hmv1 := hmv
          rw [if_neg (by decide), if_neg (by decide), if_neg (by decide), if_neg (by decide), if_neg (by decide), R_ask hC1 hIu (by omega) hc' (hB1.row h0 (by decide) r2) (q2' hB1), Option.bind_some, hn] at hmv1
          by_cases k1 : c < s.1 19 0
          · rw [if_pos k1] at hmv1 hsm
            rw [hE.d (q := 22) (Or.inl rfl) k1] at hmv1
            by_cases k2 : s.1 22 c = 0
            · rw [if_pos k2] at hmv1 hsm
              rw [z5'] at hsm
              refine cont (spz (v := 0)) hAz (by omega) (by omega) hsm (fun f c2 hf hc2 => ⟨1, by omega, by omega, ?_⟩)
              obtain ⟨f, rfl⟩ : ∃ q, f = q + 1 := ⟨f - 1, by omega⟩
              rw [GT_step hB h0 h6 hR hρ (by omega), hmv1, Option.bind_some]
              rfl
            · rw [if_neg k2] at hmv1 hsm
              rw [S_opn hyo hk5 (by decide) (by decide) ho44 ho45] at hsm
              refine cont (spo (l := 0) (n := 1) (by omega) (by omega) ((mop 1).pass (k := ρ) (v := 0) hκ) ?_ (fun o' ho' => ?_) (mo44 1) (mo45 1) ?_ ?_ (fun i hi => ⟨?_, ?_⟩)) hA1 (by omega) (by omega) hsm (fun f c2 hf hc2 => ⟨1, by omega, by omega, ?_⟩)
              · rw [xsi_1, if_pos ⟨rfl, rfl⟩]; rfl
              · rw [xsi_1, if_neg (fun e => ho' e.2)]
              · rw [mo77, if_pos rfl]
              · rw [mo78, if_pos rfl]
              · rw [mo77, if_neg (by omega)]
              · rw [mo78, if_neg (by omega)]
              · obtain ⟨f, rfl⟩ : ∃ q, f = q + 1 := ⟨f - 1, by omega⟩
                rw [GT_step hB h0 h6 hR hρ (by omega), hmv1, Option.bind_some]
                rfl
          · rw [if_neg k1] at hmv1 hsm
            have hBx : BS κn N0 X0 s u (xsi (xsi N1 (37, 0, 0) ρ 0) (36, 0, 0) 1 (-1)) (xsi (xsi X1 (44, 0, 0) 44 (nI y)) (44, 0, 0) 48 (-1)) nm (σ + 1) (-1) := (hBp.at (k := 44) (v := nI y) (a := (44, 0, 0)) (Or.inl ⟨rfl, by omega⟩)).why hκ hE hI hU
            refine fin (ρ' := 0) hBx (by decide) hsm (fun f c2 hf hc2 => ⟨f - 2, nI ρ, nI (c2 + 1), ?_⟩)
            obtain ⟨f, rfl⟩ : ∃ q, f = q + 2 := ⟨f - 2, by omega⟩
            rw [GT_step hB h0 h6 hR hρ (by omega), hmv1, Option.bind_some]
            rfl
        · rw [clB_y ha] at hc; cases hc
      · -- a statement
        have hno := bfal ho
        have hdg : y < L → isDg (X0.1 (76, 0, 0) y) = false := fun hyL => by
          have hnx := hnext
          rw [if_neg ho] at hnx
          by_cases hlast : ρ + 1 = R
          · rw [if_pos hlast] at hnx; omega
          · rw [if_neg hlast] at hnx
            by_cases hc1 : clB j N0 (ρ + 1) = true
            · rw [if_pos hc1] at hnx
              obtain ⟨y2, -, hRW2, -⟩ := hP.row (r := ρ + 1) (by omega)
              have := (RW_close hRW2 hc1).2.1
              rw [hnx] at this
              rw [this]; decide
            · rw [if_neg hc1] at hnx
              rw [hnx.1]; decide
        obtain ⟨s', u', N', X', nm', w, g1, g2, g3, g4, g5⟩ := MV_simple (d := d) (σ := σ) hB h0 hWX hL h43 h44 (by omega) hRW hy hno hc hdg hσ4
        by_cases hw : w = 0
        · subst hw
          have hs1 : stk (opB j N0) (clB j N0) (ρ + 1) = stk (opB j N0) (clB j N0) ρ := by
            show (if opB j N0 ρ = true then _ else if clB j N0 ρ = true then _ else stk (opB j N0) (clB j N0) ρ) = _
            rw [if_neg ho, if_neg (by rw [hc]; decide)]
          refine cont (σ' := σ + 1) (ρ' := ρ + 1) (x' := y) ⟨g3, g4.1 rfl, by rw [hs1, g4.2.1]; exact h45, ?_⟩ (PG.next hρ hnext) (by omega) (by omega) g2 (fun f c' hf hc2 => ⟨1, by omega, by omega, ?_⟩)
          · rw [hs1]
            exact hST.to (fun o _ => by rw [g5]) (fun i _ => ⟨by rw [g4.2.2.1], by rw [g4.2.2.2]⟩)
          · obtain ⟨f, rfl⟩ : ∃ q, f = q + 1 := ⟨f - 1, by omega⟩
            rw [GT_step hB h0 h6 hR hρ (by omega), g1, Option.bind_some]
            rfl
        · refine fin (ρ' := 0) g3 hw g2 (fun f c' hf hc2 => ⟨f - 2, nI (ρ + 1), nI (c' + 1), ?_⟩)
          obtain ⟨f, rfl⟩ : ∃ q, f = q + 2 := ⟨f - 2, by omega⟩
          rw [GT_step hB h0 h6 hR hρ (by omega), g1, Option.bind_some]
          rfl
    · -- no step is left
      have hσ0 : σ = 400 := by omega
      subst hσ0
      have hBw := hB.why (w' := -6) hκ hE hI hU
      refine ⟨s, u, _, _, nm, 400, -6, hBw, fun f c hf hc' => ?_, fun g hg => ?_⟩
      · obtain ⟨f, rfl⟩ : ∃ q, f = q + 2 := ⟨f - 2, by omega⟩
        rw [GT_step hB h0 h6 hR hρ (by omega), R_mv0 hC (by omega) haN' ha6 e0, Option.bind_some]
        exact GT_why hBw h0 (by decide)
      · obtain ⟨g, rfl⟩ : ∃ q, g = q + 1 := ⟨g - 1, by omega⟩
        rw [RN_1 hW hσ e47, if_neg hσ4]
