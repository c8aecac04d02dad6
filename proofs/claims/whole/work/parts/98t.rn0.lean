/-! a run begun -/
theorem XW_sr {M : xMem} {a : xId} {k : Nat} {v : Option xId} (h : XW M) (hm : xmut a k = true) : XW (xsr M a k v) := by
  refine ⟨h.1, fun a' q k' h1 h2 h3 h4 => ?_⟩
  have e : (xsr M a k v).2.2.1 a' k' = M.2.2.1 a' k' := by
    show xup _ _ _ _ a' k' = _
    by_cases ha : a' = a
    · subst ha
      rw [xup_at]
      by_cases hk : k' = k
      · subst hk; rw [hm] at h4; cases h4
      · simp [hk]
    · rw [xup_ne ha]
  rw [e]; exact h.2 a' q k' h1 h2 h3 h4
theorem xsr_1 {M : xMem} {a : xId} {k : Nat} {v : Option xId} : (xsr M a k v).1 = M.1 := rfl
theorem xsr_2 {M : xMem} {a : xId} {k : Nat} {v : Option xId} : (xsr M a k v).2.1 = M.2.1 := rfl
theorem xsr_3 {M : xMem} {a b : xId} {k j : Nat} {v : Option xId} : (xsr M a k v).2.2.1 b j = if b = a ∧ j = k then v else M.2.2.1 b j := by
  show xup _ _ _ _ b j = _
  by_cases h : b = a
  · subst h; rw [xup_at]; by_cases hj : j = k <;> simp [hj]
  · rw [xup_ne h]; simp [h]
def n0 (j b κn : Nat) (M : xMem) : xMem := xsi (xsi (xsr (xsr (xsr M (36, 0, 0) 3 (some (26, 0, j))) (36, 0, 0) 4 (some (1, b, 0))) (36, 0, 0) 5 (some (κn, 0, 0))) (36, 0, 0) 0 0) (36, 0, 0) 1 0
def x0 (X : xMem) : xMem := xsi (xsi (xsi (xsi X (44, 0, 0) 44 0) (44, 0, 0) 45 0) (44, 0, 0) 47 0) (44, 0, 0) 48 0
theorem n0_W {j b κn : Nat} {M : xMem} (h : XW M) : XW (n0 j b κn M) := XW_sr (XW_sr (XW_sr h rfl) rfl) rfl
theorem n0_1 {j b κn : Nat} {M : xMem} {a : xId} {x : Nat} (h : a ≠ (36, 0, 0)) : (n0 j b κn M).1 a x = M.1 a x := by
  unfold n0
  rw [xsi_1, if_neg (fun e => h e.1), xsi_1, if_neg (fun e => h e.1)]
  rfl
theorem n0_3 {j b κn : Nat} {M : xMem} {a : xId} {x : Nat} (h : a ≠ (36, 0, 0)) : (n0 j b κn M).2.2.1 a x = M.2.2.1 a x := by
  show (xsr (xsr (xsr M (36, 0, 0) 3 (some (26, 0, j))) (36, 0, 0) 4 (some (1, b, 0))) (36, 0, 0) 5 (some (κn, 0, 0))).2.2.1 a x = _
  rw [xsr_3, if_neg (fun e => h e.1), xsr_3, if_neg (fun e => h e.1), xsr_3, if_neg (fun e => h e.1)]
theorem n0_C {j b κn : Nat} {M : xMem} (hW : XW M) (hj : j < 2) (hb : b < 3) (hκ : κn = 38 ∨ κn = 39) : CS j b κn (n0 j b κn M) := by
  refine ⟨n0_W hW, ?_, ?_, ?_, hj, hb, hκ⟩
  · show (xsr (xsr (xsr M (36, 0, 0) 3 (some (26, 0, j))) (36, 0, 0) 4 (some (1, b, 0))) (36, 0, 0) 5 (some (κn, 0, 0))).2.2.1 _ _ = _
    rw [xsr_3, if_neg (by decide), xsr_3, if_neg (by decide), xsr_3, if_pos ⟨rfl, rfl⟩]
  · show (xsr (xsr (xsr M (36, 0, 0) 3 (some (26, 0, j))) (36, 0, 0) 4 (some (1, b, 0))) (36, 0, 0) 5 (some (κn, 0, 0))).2.2.1 _ _ = _
    rw [xsr_3, if_neg (by decide), xsr_3, if_pos ⟨rfl, rfl⟩]
  · show (xsr (xsr (xsr M (36, 0, 0) 3 (some (26, 0, j))) (36, 0, 0) 4 (some (1, b, 0))) (36, 0, 0) 5 (some (κn, 0, 0))).2.2.1 _ _ = _
    rw [xsr_3, if_pos ⟨rfl, rfl⟩]
theorem x0_1 {X : xMem} {a : xId} {x : Nat} (h : ¬ (a = (44, 0, 0) ∧ (x = 44 ∨ x = 45 ∨ x = 47 ∨ x = 48))) : (x0 X).1 a x = X.1 a x := by
  unfold x0
  rw [xsi_1, if_neg (fun e => h ⟨e.1, by omega⟩), xsi_1, if_neg (fun e => h ⟨e.1, by omega⟩), xsi_1, if_neg (fun e => h ⟨e.1, by omega⟩), xsi_1, if_neg (fun e => h ⟨e.1, by omega⟩)]
theorem cM_xsr {b k : Nat} {t : xS} {M : xMem} {a : xId} {v : Option xId} : xsr (cM b t M) a k v = cM b t (xsr M a k v) := rfl
theorem stk_cong {op cl op' cl' : Nat → Bool} : ∀ {R : Nat}, (∀ r, r < R → op r = op' r ∧ cl r = cl' r) → stk op cl R = stk op' cl' R := by
  intro R
  induction R with
  | zero => intro _; rfl
  | succ R ih =>
    intro h
    have h1 := h R (Nat.lt_succ_self _)
    unfold stk
    rw [ih (fun r hr => h r (by omega)), h1.1, h1.2]
/-- a program is one of the rows of its trace alone -/
theorem PG.to {j L R : Nat} {N N' : xMem} {τ τ' : Nat → Int32} {tp : Nat → Nat} (h : PG j N τ L R tp) (h1 : ∀ k r, 27 ≤ k → k ≤ 32 → N'.1 (k, 0, j) r = N.1 (k, 0, j) r) (h2 : τ' = τ) : PG j N' τ' L R tp := by
  have eo : opB j N' = opB j N := by funext r; unfold opB; rw [h1 27 r (by decide) (by decide)]
  have ec : clB j N' = clB j N := by funext r; unfold clB; rw [h1 27 r (by decide) (by decide)]
  have er : ∀ r x y, RW j N τ r x y → RW j N' τ r x y := fun r x y hr => by
    unfold RW rwTake rwGive rwSet rwTick rwMany rwAsk rwClose at hr ⊢
    rw [h1 27 r (by decide) (by decide), h1 28 r (by decide) (by decide), h1 29 r (by decide) (by decide), h1 30 r (by decide) (by decide), h1 31 r (by decide) (by decide)]
    exact hr
  subst h2
  unfold PG at h ⊢
  rw [eo, ec]
  refine ⟨h.1, h.2.1, h.2.2.1, h.2.2.2.1, fun r hr => ?_, fun z hz hc => ?_, h.2.2.2.2.2.2⟩
  · obtain ⟨y, a1, a2, a3⟩ := h.2.2.2.2.1 r hr
    exact ⟨y, a1, er _ _ _ a2, a3⟩
  · obtain ⟨o, rest, a1, a2, a3⟩ := h.2.2.2.2.2.1 z hz hc
    exact ⟨o, rest, a1, by rw [h1 32 _ (by decide) (by decide)]; exact a2, by rw [h1 32 _ (by decide) (by decide)]; exact a3⟩
theorem RUN0 {j b κn L R : Nat} {d : Int32} {M X : xMem} {tp : Nat → Nat} {s t : xS} {nm : Nat → Nat} (hW : XW M) (hWX : XW X) (hj : j < 2) (hb : b < 3) (hκ : κn = 38 ∨ κn = 39) (hE : EQs s t) (hI : INV s) (hU : UC t) (hN : NMr κn nm M X) (hP : PG j M (X.1 (76, 0, 0)) L R tp) (h6 : M.1 (26, 0, j) 6 = nI R) (h43 : X.1 (44, 0, 0) 43 = nI L) :
    ∃ s' u' N' X' nm' σ' w', fR_goThrough (cM b t M) (36, 0, 0) (some (26, 0, j)) (some (1, b, 0)) (some (κn, 0, 0)) = some (cM b u' N') ∧ fM_runs (mM d s X) (44, 0, 0) = some (mM d s' X') ∧ BS κn (n0 j b κn M) (x0 X) s' u' N' X' nm' σ' w' := by
  have h0 := n0_C (M := M) hW hj hb hκ
  have hWx : XW (x0 X) := hWX
  have hP0 : PG j (n0 j b κn M) ((x0 X).1 (76, 0, 0)) L R tp := hP.to (fun k r h1 h2 => n0_1 (fun e => by have := (Prod.mk.inj e).1; omega)) (by funext q; exact x0_1 (fun e => absurd e.1 (by decide)))
  have h60 : (n0 j b κn M).1 (26, 0, j) 6 = nI R := (n0_1 (fun e => absurd (Prod.mk.inj e).1 (by decide))).trans h6
  have h430 : (x0 X).1 (44, 0, 0) 43 = nI L := (x0_1 (fun e => by omega)).trans h43
  have hB : BS κn (n0 j b κn M) (x0 X) s t (n0 j b κn M) (x0 X) nm 0 0 := by
    refine ⟨⟨fun _ _ _ _ _ => rfl, rfl⟩, ⟨fun _ _ _ _ _ _ => rfl, rfl⟩, hE, hI, hU, fun k hk => ⟨?_, ?_⟩, ?_, ?_, by decide, ?_, ?_⟩
    · rw [n0_1 (fun e => by have := (Prod.mk.inj e).1; omega)]; exact (hN k hk).1
    · rw [x0_1 (fun e => absurd e.1 (by decide))]; exact (hN k hk).2
    · unfold n0; rw [xsi_1, if_neg (by decide), xsi_1, if_pos ⟨rfl, rfl⟩]; rfl
    · unfold x0; rw [xsi_1, if_neg (by decide), xsi_1, if_pos ⟨rfl, rfl⟩]; rfl
    · unfold n0; rw [xsi_1, if_pos ⟨rfl, rfl⟩]
    · unfold x0; rw [xsi_1, if_pos ⟨rfl, rfl⟩]
  have hc0 : clB j (n0 j b κn M) 0 = false := by
    by_cases h : clB j (n0 j b κn M) 0 = true
    · obtain ⟨o, rest, hs, -⟩ := hP0.2.2.2.2.2.1 0 hP0.2.2.1 h
      cases hs
    · exact bfal h
  have hS : SP j κn (n0 j b κn M) (x0 X) tp s t (n0 j b κn M) (x0 X) nm 0 0 (tp 0) := by
    refine ⟨hB, ?_, ?_, trivial⟩
    · rw [hP.2.2.2.1]; unfold x0
      rw [xsi_1, if_neg (by decide), xsi_1, if_neg (by decide), xsi_1, if_neg (by decide), xsi_1, if_pos ⟨rfl, rfl⟩]; rfl
    · unfold x0
      rw [xsi_1, if_neg (by decide), xsi_1, if_neg (by decide), xsi_1, if_pos ⟨rfl, rfl⟩]; rfl
  obtain ⟨s', u', N', X', nm', σ', w', c1, c2, c3⟩ := RUN (d := d) h0 hWx hP0 h60 h430 400 0 0 s t (n0 j b κn M) (x0 X) nm hS hP.2.2.1 hc0 rfl
  refine ⟨s', u', N', X', nm', σ', w', ?_, ?_, c1⟩
  · have w1 : XW (cM b t M) := hW
    have w2 : XW (xsr (cM b t M) (36, 0, 0) 3 (some (26, 0, j))) := XW_sr w1 rfl
    have w3 : XW (xsr (xsr (cM b t M) (36, 0, 0) 3 (some (26, 0, j))) (36, 0, 0) 4 (some (1, b, 0))) := XW_sr w2 rfl
    have w4 : XW (xsr (xsr (xsr (cM b t M) (36, 0, 0) 3 (some (26, 0, j))) (36, 0, 0) 4 (some (1, b, 0))) (36, 0, 0) 5 (some (κn, 0, 0))) := XW_sr w3 rfl
    have w5 : XW (xsi (xsr (xsr (xsr (cM b t M) (36, 0, 0) 3 (some (26, 0, j))) (36, 0, 0) 4 (some (1, b, 0))) (36, 0, 0) 5 (some (κn, 0, 0))) (36, 0, 0) 0 0) := w4
    have e : xsi (xsi (xsr (xsr (xsr (cM b t M) (36, 0, 0) 3 (some (26, 0, j))) (36, 0, 0) 4 (some (1, b, 0))) (36, 0, 0) 5 (some (κn, 0, 0))) (36, 0, 0) 0 0) (36, 0, 0) 1 0 = cM b t (n0 j b κn M) := by
      rw [cM_xsr, cM_xsr, cM_xsr, cM_out' (Or.inr (Or.inr (Or.inr (by decide)))), cM_out' (Or.inr (Or.inr (Or.inr (by decide))))]
      rfl
    unfold fR_goThrough
    rw [xpR_w w1 sh_36, Option.bind_some, xpR_w w2 sh_36, Option.bind_some, xpR_w w3 sh_36, Option.bind_some, xpI_w w4 sh_36, Option.bind_some, xpI_w w5 sh_36, Option.bind_some, e, kl_0]
    exact c2 xF 0 (by unfold xF; decide) (by decide)
  · have w1 : XW (xsi X (44, 0, 0) 44 0) := hWX
    have w2 : XW (xsi (xsi X (44, 0, 0) 44 0) (44, 0, 0) 45 0) := hWX
    have w3 : XW (xsi (xsi (xsi X (44, 0, 0) 44 0) (44, 0, 0) 45 0) (44, 0, 0) 47 0) := hWX
    unfold fM_runs
    rw [npI hWX (by decide), Option.bind_some, npI w1 (by decide), Option.bind_some, npI w2 (by decide), Option.bind_some, npI w3 (by decide), Option.bind_some]
    exact c3 xF (by unfold xF; decide)
