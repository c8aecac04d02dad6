/-! a program grows while it is read -/
theorem RW_to {j r x y : Nat} {N N' : xMem} {τ : Nat → Int32} (h : RW j N τ r x y) (h1 : ∀ k, 27 ≤ k → k ≤ 31 → N'.1 (k, 0, j) r = N.1 (k, 0, j) r) : RW j N' τ r x y := by
  unfold RW rwTake rwGive rwSet rwTick rwMany rwAsk rwClose at h ⊢
  rw [h1 27 (by decide) (by decide), h1 28 (by decide) (by decide), h1 29 (by decide) (by decide), h1 30 (by decide) (by decide), h1 31 (by decide) (by decide)]
  exact h
theorem opB_to {j r : Nat} {N N' : xMem} (h : N'.1 (27, 0, j) r = N.1 (27, 0, j) r) : opB j N' r = opB j N r ∧ clB j N' r = clB j N r := by
  unfold opB clB; rw [h]; exact ⟨rfl, rfl⟩
def NXr (j : Nat) (N : xMem) (τ : Nat → Int32) (tp : Nat → Nat) (r y : Nat) : Prop := if opB j N r = true then tp (r + 1) = y ∧ clB j N (r + 1) = false else if clB j N (r + 1) = true then tp (r + 1) = y else τ y = nI 59 ∧ tp (r + 1) = y + 1
def LSr (j : Nat) (N : xMem) (τ : Nat → Int32) (start : Bool) (p r y : Nat) : Prop := if start = true then (if opB j N r = true then p = y else τ y = nI 59 ∧ p = y + 1) else opB j N r = false ∧ y = p
def PGs (j : Nat) (N : xMem) (τ : Nat → Int32) (L R : Nat) (tp : Nat → Nat) (st : List Nat) (p : Nat) (start : Bool) : Prop :=
  R ≤ p ∧ p ≤ L ∧ (0 < R → tp 0 = 0) ∧ (R = 0 → p = 0 ∧ start = true)
  ∧ (∀ r, r < R → ∃ y, y ≤ L ∧ RW j N τ r (tp r) y ∧ (if r + 1 = R then LSr j N τ start p r y else NXr j N τ tp r y))
  ∧ (∀ z, z < R → clB j N z = true → ∃ o rest, stk (opB j N) (clB j N) z = o :: rest ∧ N.1 (32, 0, j) z = nI o ∧ N.1 (32, 0, j) o = nI z)
  ∧ stk (opB j N) (clB j N) R = st ∧ ∀ r, r ≤ R → (stk (opB j N) (clB j N) r).length ≤ 5
/-- one row more, that opens or stands by itself -/
theorem PGs.add {j L R p q : Nat} {N N' : xMem} {τ : Nat → Int32} {tp : Nat → Nat} {st : List Nat} (h : PGs j N τ L R tp st p true) (hf : FrT j R N N') (hRW : RW j N' τ R p q) (hc : clB j N' R = false) (hq : q ≤ L) (hpq : p < q) (h5 : (if opB j N' R = true then R :: st else st).length ≤ 5) : PGs j N' τ L (R + 1) (fun r => if r = R then p else tp r) (if opB j N' R = true then R :: st else st) q (opB j N' R) := by
  obtain ⟨h1, h2, h3, h4, h5', h6, h7, h8⟩ := h
  have e27 : ∀ r, r < R → opB j N' r = opB j N r ∧ clB j N' r = clB j N r := fun r hr => opB_to (hf.1 27 r (by decide) (by decide) hr)
  have es : ∀ r, r ≤ R → stk (opB j N') (clB j N') r = stk (opB j N) (clB j N) r := fun r hr => stk_cong (fun r' hr' => e27 r' (by omega))
  have eR : stk (opB j N') (clB j N') (R + 1) = if opB j N' R = true then R :: st else st := by
    show (if opB j N' R = true then R :: stk (opB j N') (clB j N') R else if clB j N' R = true then _ else stk (opB j N') (clB j N') R) = _
    rw [es R (Nat.le_refl _), h7, hc, if_neg (show ¬ false = true by decide)]
  refine ⟨by omega, hq, fun _ => ?_, fun e => absurd e (by omega), fun r hr => ?_, fun z hz hcz => ?_, eR, fun r hr => ?_⟩
  · dsimp only
    by_cases hR : R = 0
    · subst hR; rw [if_pos rfl]; exact (h4 rfl).1
    · rw [if_neg (fun e => hR e.symm)]; exact h3 (by omega)
  · dsimp only
    by_cases hr2 : r = R
    · subst hr2
      refine ⟨q, hq, by rw [if_pos rfl]; exact hRW, ?_⟩
      rw [if_pos rfl]
      unfold LSr
      by_cases ho : opB j N' r = true
      · rw [if_pos ho, if_pos ho]
      · rw [if_neg ho]; exact ⟨bfal ho, rfl⟩
    · have hrR : r < R := by omega
      obtain ⟨y, y1, y2, y3⟩ := h5' r hrR
      refine ⟨y, y1, by rw [if_neg hr2]; exact RW_to y2 (fun k a b => hf.1 k r a (by omega) hrR), ?_⟩
      rw [if_neg (by omega)]
      unfold NXr
      dsimp only
      rw [(e27 r hrR).1]
      by_cases hl : r + 1 = R
      · rw [if_pos hl] at y3
        unfold LSr at y3
        rw [if_pos rfl] at y3
        rw [if_pos hl, hl, hc]
        by_cases ho : opB j N r = true
        · rw [if_pos ho] at y3 ⊢
          exact ⟨y3, rfl⟩
        · rw [if_neg ho] at y3 ⊢
          rw [if_neg (by decide)]
          exact y3
      · rw [if_neg hl] at y3
        unfold NXr at y3
        rw [if_neg hl, (e27 (r + 1) (by omega)).2]
        exact y3
  · have hzR : z < R := by
      by_cases e : z = R
      · rw [e, hc] at hcz; cases hcz
      · omega
    rw [(e27 z hzR).2] at hcz
    obtain ⟨o, rest, a1, a2, a3⟩ := h6 z hzR hcz
    have ho : o < z := stk_lt (op := opB j N) (cl := clB j N) (by rw [a1]; exact List.mem_cons_self)
    exact ⟨o, rest, by rw [es z (by omega)]; exact a1, by rw [hf.1 32 z (by decide) (by decide) hzR]; exact a2, by rw [hf.1 32 o (by decide) (by decide) (by omega)]; exact a3⟩
  · by_cases hr2 : r = R + 1
    · rw [hr2, eR]; exact h5
    · rw [es r (by omega)]; exact h8 r (by omega)
/-- what is open at the end was open at all times since -/
theorem stk_mem {op cl : Nat → Bool} {o : Nat} : ∀ {R r : Nat}, o ∈ stk op cl R → o < r → r ≤ R → o ∈ stk op cl r := by
  intro R
  induction R with
  | zero => intro r h; cases h
  | succ R ih =>
    intro r h h1 h2
    by_cases hr : r = R + 1
    · rw [hr]; exact h
    · refine ih ?_ h1 (by omega)
      unfold stk at h
      split at h
      · rcases List.mem_cons.mp h with h | h
        · omega
        · exact h
      · split at h
        · exact List.mem_of_mem_tail h
        · exact h
/-- one row more, that closes the latest -/
theorem PGs.close {j L R p o : Nat} {N N' : xMem} {τ : Nat → Int32} {tp : Nat → Nat} {rest : List Nat} (h : PGs j N τ L R tp (o :: rest) p false) (hf : ∀ k r, 27 ≤ k → k ≤ 32 → r < R → ¬ (k = 32 ∧ r = o) → N'.1 (k, 0, j) r = N.1 (k, 0, j) r) (ha : N'.1 (27, 0, j) R = nI 6) (ht : τ p = nI 41) (hq : p + 1 ≤ L) (h32 : N'.1 (32, 0, j) R = nI o) (h32o : N'.1 (32, 0, j) o = nI R) : PGs j N' τ L (R + 1) (fun r => if r = R then p else tp r) rest (p + 1) false := by
  obtain ⟨h1, h2, h3, h4, h5', h6, h7, h8⟩ := h
  have hR0 : 0 < R := by
    by_cases e : R = 0
    · exact absurd (h4 e).2 (by decide)
    · omega
  have e27 : ∀ r, r < R → opB j N' r = opB j N r ∧ clB j N' r = clB j N r := fun r hr => opB_to (hf 27 r (by decide) (by decide) hr (by omega))
  have es : ∀ r, r ≤ R → stk (opB j N') (clB j N') r = stk (opB j N) (clB j N) r := fun r hr => stk_cong (fun r' hr' => e27 r' (by omega))
  have hc := clB_y ha
  have hno := opB_cl hc
  have eR : stk (opB j N') (clB j N') (R + 1) = rest := by
    show (if opB j N' R = true then _ else if clB j N' R = true then (stk (opB j N') (clB j N') R).tail else _) = _
    rw [hno, if_neg (by decide), if_pos hc, es R (Nat.le_refl _), h7]
    rfl
  have hcut := stk_cut (op := opB j N) (cl := clB j N) (ρ := R) (o := o) (l := []) (rest := rest) h7
  have hoR : o < R := stk_lt (op := opB j N) (cl := clB j N) (by rw [h7]; exact List.mem_cons_self)
  refine ⟨by omega, hq, fun _ => ?_, fun e => absurd e (by omega), fun r hr => ?_, fun z hz hcz => ?_, eR, fun r hr => ?_⟩
  · dsimp only
    rw [if_neg (by omega)]; exact h3 hR0
  · dsimp only
    by_cases hr2 : r = R
    · subst hr2
      refine ⟨p + 1, hq, by rw [if_pos rfl]; exact Or.inr (Or.inr (Or.inr (Or.inr (Or.inr (Or.inr ⟨ha, ht, rfl⟩))))), ?_⟩
      rw [if_pos rfl]
      unfold LSr
      rw [if_neg (by decide)]
      exact ⟨hno, rfl⟩
    · have hrR : r < R := by omega
      obtain ⟨y, y1, y2, y3⟩ := h5' r hrR
      refine ⟨y, y1, by rw [if_neg hr2]; exact RW_to y2 (fun k a b => hf k r a (by omega) hrR (by omega)), ?_⟩
      rw [if_neg (by omega)]
      unfold NXr
      dsimp only
      rw [(e27 r hrR).1]
      by_cases hl : r + 1 = R
      · rw [if_pos hl] at y3
        unfold LSr at y3
        rw [if_neg (by decide)] at y3
        rw [if_pos hl, hl, hc, y3.1, if_neg (by decide), if_pos rfl]
        exact y3.2.symm
      · rw [if_neg hl] at y3
        unfold NXr at y3
        rw [if_neg hl, (e27 (r + 1) (by omega)).2]
        exact y3
  · by_cases e : z = R
    · subst e
      exact ⟨o, rest, by rw [es z (Nat.le_refl _)]; exact h7, h32, h32o⟩
    · have hzR : z < R := by omega
      rw [(e27 z hzR).2] at hcz
      obtain ⟨o2, rest2, a1, a2, a3⟩ := h6 z hzR hcz
      have ho2 : o2 < z := stk_lt (op := opB j N) (cl := clB j N) (by rw [a1]; exact List.mem_cons_self)
      have hcut2 := stk_cut (op := opB j N) (cl := clB j N) (ρ := z) (o := o2) (l := []) (rest := rest2) a1
      have hz1 : stk (opB j N) (clB j N) (z + 1) = stk (opB j N) (clB j N) o2 := by
        show (if opB j N z = true then _ else if clB j N z = true then (stk (opB j N) (clB j N) z).tail else _) = _
        rw [opB_cl hcz, if_neg (by decide), if_pos hcz, a1]
        exact hcut2.1
      have n1 : o2 ≠ o := fun e2 => by
        have hm := stk_mem (op := opB j N) (cl := clB j N) (o := o2) (R := R) (r := z + 1) (by rw [h7, e2]; exact List.mem_cons_self) (by omega) (by omega)
        rw [hz1] at hm
        exact Nat.lt_irrefl _ (stk_lt hm)
      have n2 : z ≠ o := fun e2 => by
        have := hcut.2
        rw [← e2, opB_cl hcz] at this; cases this
      exact ⟨o2, rest2, by rw [es z (by omega)]; exact a1, by rw [hf 32 z (by decide) (by decide) hzR (by omega)]; exact a2, by rw [hf 32 o2 (by decide) (by decide) (by omega) (by omega)]; exact a3⟩
  · by_cases hr2 : r = R + 1
    · rw [hr2, eR]
      have := h8 R (Nat.le_refl _)
      rw [h7, List.length_cons] at this
      omega
    · rw [es r (by omega)]; exact h8 r (by omega)
/-- a semicolon -/
theorem PGs.semi {j L R p : Nat} {N : xMem} {τ : Nat → Int32} {tp : Nat → Nat} {st : List Nat} (h : PGs j N τ L R tp st p false) (ht : τ p = nI 59) (hp : p + 1 ≤ L) : PGs j N τ L R tp st (p + 1) true := by
  obtain ⟨h1, h2, h3, h4, h5, h6⟩ := h
  refine ⟨by omega, hp, h3, fun e => absurd (h4 e).2 (by decide), fun r hr => ?_, h6⟩
  obtain ⟨y, y1, y2, y3⟩ := h5 r hr
  refine ⟨y, y1, y2, ?_⟩
  by_cases hl : r + 1 = R
  · rw [if_pos hl] at y3 ⊢
    unfold LSr at y3 ⊢
    rw [if_neg (by decide)] at y3
    rw [if_pos rfl, y3.1, if_neg (by decide), y3.2]
    exact ⟨ht, rfl⟩
  · rw [if_neg hl] at y3 ⊢; exact y3
theorem PGs.fr {j L R p : Nat} {N N' : xMem} {τ : Nat → Int32} {tp : Nat → Nat} {st : List Nat} {b : Bool} (h : PGs j N τ L R tp st p b) (hf : ∀ k r, 27 ≤ k → k ≤ 32 → N'.1 (k, 0, j) r = N.1 (k, 0, j) r) : PGs j N' τ L R tp st p b := by
  have eo : opB j N' = opB j N := by funext r; unfold opB; rw [hf 27 r (by decide) (by decide)]
  have ec : clB j N' = clB j N := by funext r; unfold clB; rw [hf 27 r (by decide) (by decide)]
  unfold PGs NXr LSr at h ⊢
  rw [eo, ec]
  obtain ⟨h1, h2, h3, h4, h5, h6, h7⟩ := h
  refine ⟨h1, h2, h3, h4, fun r hr => ?_, fun z hz hc => ?_, h7⟩
  · obtain ⟨y, y1, y2, y3⟩ := h5 r hr
    exact ⟨y, y1, RW_to y2 (fun k a b => hf k r a (by omega)), y3⟩
  · obtain ⟨o, rest, a1, a2, a3⟩ := h6 z hz hc
    exact ⟨o, rest, a1, by rw [hf 32 _ (by decide) (by decide)]; exact a2, by rw [hf 32 _ (by decide) (by decide)]; exact a3⟩
/-- read to its end -/
theorem PGs.done {j L R : Nat} {N : xMem} {τ : Nat → Int32} {tp : Nat → Nat} (h : PGs j N τ L R tp [] L false) (hR : R ≤ 100) (hL : L ≤ 100) : PG j N τ L R tp := by
  obtain ⟨h1, h2, h3, h4, h5, h6, h7, h8⟩ := h
  have hR0 : 0 < R := by
    by_cases e : R = 0
    · exact absurd (h4 e).2 (by decide)
    · omega
  refine ⟨hR, hL, hR0, h3 hR0, fun r hr => ?_, h6, h7, h8⟩
  obtain ⟨y, y1, y2, y3⟩ := h5 r hr
  refine ⟨y, y1, y2, ?_⟩
  by_cases hl : r + 1 = R
  · rw [if_pos hl] at y3
    unfold LSr at y3
    rw [if_neg (by decide)] at y3
    rw [y3.1, if_neg (by decide), if_pos hl]; exact y3.2
  · rw [if_neg hl] at y3
    unfold NXr at y3
    by_cases ho : opB j N r = true
    · rw [if_pos ho] at y3 ⊢
      exact ⟨by omega, y3⟩
    · rw [if_neg ho] at y3 ⊢
      rw [if_neg hl]; exact y3
