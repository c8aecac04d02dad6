/-! what holds is kept: gives -/
theorem IM.vis {s : xS} {m c c' : Nat} (h : IM s m c) : IM (sVis s c') m c := by
  have ev : ∀ q, q ≠ 6 → q ≠ 19 → (sVis s c').1 q = s.1 q := fun q h1 h2 => by unfold sVis; rw [sA_n h2, sA_n h1]
  have er : ref (sVis s c') = ref s := by
    unfold sVis
    rw [ref_19 (by decide)]
    exact ref_c (fun q hq => sA_n (by omega))
  refine ⟨h.1.vis, h.2.1, by rw [ev 18 (by decide) (by decide)]; exact h.2.2.1, by rw [er]; exact h.2.2.2.1, ?_⟩
  rw [ev 20 (by decide) (by decide), ev 13 (by decide) (by decide), ev 21 (by decide) (by decide)]
  exact h.2.2.2.2
theorem sGiv3_sw {s : xS} {b c i m : Nat} : sGiv3 s b c i m = sPut (sSwF (sVis s c) c i m) m b := by
  have h : (sVis s c).1 16 i = s.1 16 i := by unfold sVis; simp [sA_1]
  unfold sGiv3 sSwF
  rw [h]
theorem sSwF_0 {s : xS} {c i m q : Nat} (h1 : q ≠ 15) (h2 : q ≠ 16) (h3 : q ≠ 22) (h4 : q ≠ 23) : (sSwF s c i m).1 q = s.1 q := by
  unfold sSwF sSwap sBriF
  rw [sA_n h1, sA_n h2]
  split
  · rw [sA_n h3, sA_n h4]
  · rfl
theorem INV.giv3 {s : xS} {b c p m : Nat} (h : IM s m c) (h0 : s.1 20 m = 0) (hc : c < s.1 19 0) (hp : p < 4) (hx : s.1 16 (4 * c + p) < 24 → 0 < s.1 20 (s.1 16 (4 * c + p))) (hb : b < 1984) (hl : s.1 17 b = 1) (hcb : s.1 13 (b / 62) = c) : INV (sGiv3 s b c (4 * c + p) m) := by
  have hV := h.vis (c' := c)
  have ev : ∀ q, q ≠ 6 → q ≠ 19 → (sVis s c).1 q = s.1 q := fun q h1 h2 => by unfold sVis; rw [sA_n h2, sA_n h1]
  have ev0 : (sVis s c).1 19 0 = s.1 19 0 := by unfold sVis; simp [sA_1]
  have hS := INV_swF (p := p) hV (by rw [ev0]; exact hc) hp (fun h16 => by
    rw [ev 16 (by decide) (by decide)] at h16 ⊢
    rw [ev 20 (by decide) (by decide)]
    exact ⟨fun _ => hx h16, (fun e => by cases e)⟩)
  rw [sGiv3_sw]
  have e0 : (sSwF (sVis s c) c (4 * c + p) m).1 19 0 = s.1 19 0 := by rw [sSwF_0 (by decide) (by decide) (by decide) (by decide), ev0]
  have e20 : (sSwF (sVis s c) c (4 * c + p) m).1 20 = s.1 20 := by rw [sSwF_0 (by decide) (by decide) (by decide) (by decide), ev 20 (by decide) (by decide)]
  have e17 : (sSwF (sVis s c) c (4 * c + p) m).1 17 = s.1 17 := by rw [sSwF_0 (by decide) (by decide) (by decide) (by decide), ev 17 (by decide) (by decide)]
  have e13 : (sSwF (sVis s c) c (4 * c + p) m).1 13 = s.1 13 := by rw [sSwF_0 (by decide) (by decide) (by decide) (by decide), ev 13 (by decide) (by decide)]
  refine hS.put (c := c) (p := p) h.2.1 (by rw [e20, h0]; decide) ?_ hb (by rw [e17]; exact hl) (by rw [e13]; exact hcb)
  rw [ref_0 (by rw [e0]; exact hc) hp]
  unfold sSwF sSwap; simp [sA_1]
theorem INV.gives {s : xS} (h : INV s) {b p : Nat} (hb : b < 1984) (hl : s.1 17 b = 1) (hp : p < 4) : INV (sGives s b p) := by
  have hV := h.V hb (by omega)
  have hn := h.R.n
  have hc := (h.R.pg (p := b / 62) (by omega) hV.1).1
  have hq := h.R.c hc
  unfold sGives
  generalize hcb : s.1 13 (b / 62) = c at hc hq hV ⊢
  by_cases a1 : qRoom s (s.1 15 (4 * c + p)) c = true
  · have e1 : sGiv1 s c (4 * c + p) = s := if_neg (fun e => by rw [a1] at e; cases e.1)
    rw [e1, if_pos a1]
    obtain ⟨h3, h4⟩ := qRoom_t a1
    exact h.put (c := c) (p := p) h3 (by omega) (ref_0 hc hp) hb hl hcb
  · have a1f : qRoom s (s.1 15 (4 * c + p)) c = false := by simpa using a1
    by_cases a2 : qRoom s (s.1 16 (4 * c + p)) c = true
    · have e1 : sGiv1 s c (4 * c + p) = sExch s (4 * c + p) := if_pos ⟨a1f, a2⟩
      have e : ∀ q, q ≠ 15 → q ≠ 16 → (sExch s (4 * c + p)).1 q = s.1 q := fun q h1 h2 => by unfold sExch; rw [sA_n h2, sA_n h1]
      have e2 : (sExch s (4 * c + p)).1 15 (4 * c + p) = s.1 16 (4 * c + p) := by simp [sExch, sA_1]
      have e4 : qRoom (sExch s (4 * c + p)) ((sExch s (4 * c + p)).1 15 (4 * c + p)) c = true := by
        rw [e2, qRoom_c (fun q j h => by rw [e q (by omega) (by omega)])]; exact a2
      rw [e1, if_pos e4]
      obtain ⟨h3, h4⟩ := qRoom_t e4
      rw [e 4 (by decide) (by decide)] at h4
      exact (h.exch hc hp).put (c := c) (p := p) h3 (by omega) (ref_0 (by rw [e 19 (by decide) (by decide)]; exact hc) hp) hb (by rw [e 17 (by decide) (by decide)]; exact hl) (by rw [e 13 (by decide) (by decide)]; exact hcb)
    · have e1 : sGiv1 s c (4 * c + p) = s := if_neg (fun e => a2 e.2)
      rw [e1, if_neg a1]
      have hx : s.1 16 (4 * c + p) < 24 → 0 < s.1 20 (s.1 16 (4 * c + p)) := fun h16 => by
        rcases Nat.eq_zero_or_pos (s.1 20 (s.1 16 (4 * c + p))) with h0 | h0
        · exact absurd (by unfold qRoom; rw [decide_eq_true h16, h0, decide_eq_true (by omega)]; rfl) a2
        · exact h0
      unfold sGiv2
      by_cases a3 : 0 < s.1 24 c
      · rw [if_pos a3]
        have hM := (IM_fetchE h hc a3).1
        have e : ∀ q, q ≠ 24 → q ≠ 9 → (sFetE s c).1 q = s.1 q := fun q h1 h2 => by unfold sFetE; rw [sA_n h2, sA_n h1]
        refine INV.giv3 hM ?_ ?_ hp ?_ hb ?_ ?_
        · rw [e 20 (by decide) (by decide)]; exact (h.empt hc (by omega)).2.2
        · rw [e 19 (by decide) (by decide)]; exact hc
        · rw [e 16 (by decide) (by decide), e 20 (by decide) (by decide)]; exact hx
        · rw [e 17 (by decide) (by decide)]; exact hl
        · rw [e 13 (by decide) (by decide)]; exact hcb
      · rw [if_neg a3]
        by_cases a4 : qNew s < 24
        · rw [if_pos a4]
          obtain ⟨hM, e, e0, e20⟩ := IM_made h c a4
          refine INV.giv3 hM e0 ?_ hp ?_ hb ?_ ?_
          · rw [e 19 (by decide) (by decide)]; exact hc
          · rw [e 16 (by decide) (by decide)]
            intro h16
            have h18 := h.made16 hc hp h16
            have hne : s.1 16 (4 * c + p) ≠ qNew s := fun e => by
              have h1 := fF_yes (P := fun m => !(s.1 18 m == 1)) (d := 24) (i := 0) (by unfold qNew at a4; omega)
              have h2 : (!(s.1 18 (qNew s) == 1)) = true := h1
              rw [← e, h18] at h2; cases h2
            rw [e20 _ hne]; exact hx h16
          · rw [e 17 (by decide) (by decide)]; exact hl
          · rw [e 13 (by decide) (by decide)]; exact hcb
        · rw [if_neg a4]; exact h.endb (by omega)
/-! unmakings -/
theorem sEmL_17 {m : Nat} : ∀ {d k : Nat} {s : xS} {y : Nat}, ((sEmL s m d k).1 17 y = 0 ∨ (sEmL s m d k).1 17 y = s.1 17 y) ∧ ((∀ j, k ≤ j → j < k + d → s.1 21 (8 * m + j) ≠ y) → (sEmL s m d k).1 17 y = s.1 17 y) := by
  intro d
  induction d with
  | zero => intro k s y; exact ⟨Or.inr rfl, fun _ => rfl⟩
  | succ d ih =>
    intro k s y
    unfold sEmL
    have h1 := @ih (k + 1) (sEnd s (s.1 21 (8 * m + k))) y
    rw [sEnd_17] at h1
    refine ⟨?_, fun hno => ?_⟩
    · rcases h1.1 with h2 | h2
      · exact Or.inl h2
      · rw [h2]; split
        · exact Or.inl rfl
        · exact Or.inr rfl
    · have h3 := h1.2 (fun j hj hj2 => by rw [sEnd_1 (by decide) (by decide)]; exact hno j (by omega) (by omega))
      rw [h3, if_neg (fun e => hno k (Nat.le_refl _) (by omega) e.symm)]
theorem sEmp_17 {s : xS} {m y : Nat} : ((sEmp s m).1 17 y = 0 ∨ (sEmp s m).1 17 y = s.1 17 y) ∧ ((∀ j, j < s.1 20 m → s.1 21 (8 * m + j) ≠ y) → (sEmp s m).1 17 y = s.1 17 y) := by
  unfold sEmp
  split
  · rw [sA_n (by decide), sA_n (by decide)]
    have := @sEmL_17 m (s.1 20 m) 0 s y
    exact ⟨this.1, fun h => this.2 (fun j _ hj => h j (by omega))⟩
  · exact ⟨Or.inr rfl, fun _ => rfl⟩
theorem sEmp_18 {s : xS} {m i : Nat} : (sEmp s m).1 18 i = if i = m ∧ m < 24 then 0 else s.1 18 i := by
  unfold sEmp
  split
  next h =>
    rw [sA_1]
    by_cases h1 : i = m
    · rw [if_pos ⟨rfl, h1⟩, if_pos ⟨h1, h⟩]
    · rw [if_neg (fun e => h1 e.2), if_neg (fun e => h1 e.1), sA_n (by decide), sEmL_1 (by decide) (by decide)]
  next h => rw [if_neg (fun e => h e.2)]
theorem IB.emp {s : xS} (hB : IB s) (m : Nat) : IB (sEmp s m) := by
  by_cases hm : m < 24
  case neg =>
    have : sEmp s m = s := if_neg hm
    rw [this]; exact hB
  have e : ∀ q, q ≠ 17 → q ≠ 12 → q ≠ 20 → q ≠ 18 → (sEmp s m).1 q = s.1 q := fun q h1 h2 h3 h4 => sEmp_1 h1 h2 h3 h4
  have eP := qPer_d (e 1 (by decide) (by decide) (by decide) (by decide))
  have h20 : ∀ i k, k < (sEmp s m).1 20 i → k < s.1 20 i ∧ ¬ (i = m ∧ m < 24) := fun i k hk => by
    rw [sEmp_20] at hk
    split at hk
    · omega
    next h => exact ⟨hk, h⟩
  refine ⟨hB.1.emp m, ?_, ?_, ?_⟩
  · intro y hy
    rw [eP, e 13 (by decide) (by decide) (by decide) (by decide)]
    have h1 := hB.2.1 y hy
    rcases (@sEmp_17 s m y).1 with h2 | h2
    · rw [h2]; exact ⟨by decide, fun e => absurd rfl e⟩
    · rw [h2]; exact h1
  · intro i hi
    have h1 := hB.2.2.1 i hi
    refine ⟨by rw [sEmp_18]; split <;> omega, fun h2 => ?_, fun k hk => ?_⟩
    · rw [sEmp_20]; rw [sEmp_18] at h2
      split
      · rfl
      next h3 => rw [if_neg h3] at h2; exact h1.2.1 h2
    · obtain ⟨h2, h3⟩ := h20 i k hk
      rw [e 21 (by decide) (by decide) (by decide) (by decide), (@sEmp_17 s m _).2]
      · exact h1.2.2 k h2
      · intro j hj h4
        exact h3 ⟨(hB.2.2.2 m i j k hm hi hj h2 h4).1.symm, hm⟩
  · intro i j k l hi hj hk hl h2
    rw [e 21 (by decide) (by decide) (by decide) (by decide)] at h2
    exact hB.2.2.2 i j k l hi hj (h20 i k hk).1 (h20 j l hl).1 h2
theorem ref_emp {s : xS} {m : Nat} : ref (sEmp s m) = ref s := ref_c (fun q hq => sEmp_1 (by omega) (by omega) (by omega) (by omega))
theorem IR.emp {D : Nat × Nat × Nat → Prop} {pl : Nat → Nat × Nat × Nat} {s : xS} (h : IR D pl s) {m : Nat} (hno : ∀ P, ¬ D P → ref s P < 24 → ref s P ≠ m) : IR D pl (sEmp s m) := by
  intro P hD hP
  rw [ref_emp] at hP ⊢
  have hne := hno P hD hP
  exact IP_c (by rw [sEmp_18, if_neg (fun e => hne e.1)]) (by rw [sEmp_20, if_neg (fun e => hne e.1)]) (fun k _ => by rw [sEmp_1 (by decide) (by decide) (by decide) (by decide)]) (sEmp_1 (by decide) (by decide) (by decide) (by decide)) (h P hD hP)
/-- what holds without the least numbers -/
def IQ (s : xS) : Prop := IB s ∧ ∃ pl, IR (fun _ => False) pl s
theorem INV.q {s : xS} (h : INV s) : IQ s := ⟨h.1, h.2.2⟩
theorem IQ.inv {s : xS} (h : IQ s) (hC : IC s) : INV s := ⟨h.1, hC, h.2⟩
theorem IQ.J {s : xS} (h : IQ s) {P Q : Nat × Nat × Nat} (h1 : ref s P < 24) (h2 : ref s P = ref s Q) : P = Q := by
  obtain ⟨pl, hp⟩ := h.2
  rw [← (hp P id h1).1, h2, (hp Q id (h2 ▸ h1)).1]
/-- places are given up -/
theorem IQ_drop {s t : xS} {D : Nat × Nat × Nat → Prop} {pl pl' : Nat → Nat × Nat × Nat} (hB : IB s) (hR : IR D pl s)
    (hq : ∀ q, q = 19 ∨ q = 0 ∨ q = 1 ∨ q = 2 ∨ q = 10 ∨ q = 14 ∨ q = 13 ∨ q = 21 ∨ q = 17 ∨ q = 18 ∨ q = 20 ∨ q = 4 → t.1 q = s.1 q)
    (hf : ∀ c, c < s.1 19 0 → t.1 22 c ≤ 24 ∧ t.1 24 c ≤ 24 ∧ ∀ k, (k < t.1 22 c → t.1 23 (24 * c + k) < 24) ∧ (k < t.1 24 c → t.1 25 (24 * c + k) < 24))
    (hr : ∀ P, ref t P < 24 → ∃ Q, ¬ D Q ∧ ref s Q = ref t P ∧ Q.1 = P.1 ∧ Q.2.1 = P.2.1 ∧ (pl (ref t P) = Q → pl' (ref t P) = P)) : IQ t := by
  refine ⟨IB_c (fun q h => hq q (by omega)) (fun c hc => by rw [hq 4 (by simp)]; exact hB.r4 c hc) hf hB, pl', fun P _ hP => ?_⟩
  obtain ⟨Q, h1, h2, h3, h4, h5⟩ := hr P hP
  have h6 := hR Q h1 (by rw [h2]; exact hP)
  rw [h2] at h6
  unfold IP at h6 ⊢
  rw [hq 18 (by simp), hq 20 (by simp), hq 21 (by simp), hq 13 (by simp), ← h3, ← h4]
  exact ⟨h5 h6.1, h6.2⟩
theorem IQ.dr {s : xS} (h : IQ s) {c p : Nat} (hc : c < s.1 19 0) (hp : p < 4) : IQ (sDr s (4 * c + p)) := by
  obtain ⟨pl, hpl⟩ := h.2
  have r0 := ref_0 hc hp
  have r1 := ref_1 hc hp
  have hD : IR (fun P => P = (0, c, p) ∨ P = (1, c, p)) pl s := fun P _ hP => hpl P id hP
  have h1 := hD.emp (m := s.1 15 (4 * c + p)) (fun P hP hP2 e => hP (Or.inl (h.J hP2 (e.trans r0.symm))))
  have h2 := h1.emp (m := s.1 16 (4 * c + p)) (fun P hP hP2 e => by
    rw [ref_emp] at hP2 e
    exact hP (Or.inr (h.J hP2 (e.trans r1.symm))))
  have hB := (h.1.emp (s.1 15 (4 * c + p))).emp (s.1 16 (4 * c + p))
  have e19 : (sEmp (sEmp s (s.1 15 (4 * c + p))) (s.1 16 (4 * c + p))).1 19 = s.1 19 := by rw [sEmp_1 (by decide) (by decide) (by decide) (by decide), sEmp_1 (by decide) (by decide) (by decide) (by decide)]
  have eq : sDr s (4 * c + p) = sA (sA (sEmp (sEmp s (s.1 15 (4 * c + p))) (s.1 16 (4 * c + p))) 15 (4 * c + p) 24) 16 (4 * c + p) 24 := rfl
  rw [eq]
  generalize sEmp (sEmp s (s.1 15 (4 * c + p))) (s.1 16 (4 * c + p)) = u at h2 hB e19
  have e : ∀ q, q ≠ 15 → q ≠ 16 → (sA (sA u 15 (4 * c + p) 24) 16 (4 * c + p) 24).1 q = u.1 q := fun q a1 a2 => by rw [sA_n a2, sA_n a1]
  refine IQ_drop (pl' := pl) hB h2 (fun q hq => e q (by omega) (by omega)) (fun c' hc' => ?_) (fun P hP => ?_)
  · rw [e 22 (by decide) (by decide), e 23 (by decide) (by decide), e 24 (by decide) (by decide), e 25 (by decide) (by decide)]; exact hB.fe c' hc'
  · obtain ⟨a1, a2⟩ := ref_cases hP
    rw [e 19 (by decide) (by decide)] at a1
    obtain ⟨r, c', p'⟩ := P
    dsimp only at a1 a2 ⊢
    have hn4 : c' < 4 := by have := hB.1.n; omega
    refine ⟨(r, c', p'), ?_, ?_, rfl, rfl, id⟩
    · rintro (e1 | e1)
      · simp only [Prod.mk.injEq] at e1
        obtain ⟨rfl, rfl, rfl⟩ := e1
        rcases a2 with ⟨-, a3, a4⟩ | ⟨a3, -⟩ | ⟨a3, -⟩ | ⟨a3, -⟩
        · rw [a4] at hP; simp [sA_1] at hP
        all_goals cases a3
      · simp only [Prod.mk.injEq] at e1
        obtain ⟨rfl, rfl, rfl⟩ := e1
        rcases a2 with ⟨a3, -⟩ | ⟨-, a3, a4⟩ | ⟨a3, -⟩ | ⟨a3, -⟩
        · cases a3
        · rw [a4] at hP; simp [sA_1] at hP
        all_goals cases a3
    · rcases a2 with ⟨rfl, a3, a4⟩ | ⟨rfl, a3, a4⟩ | ⟨rfl, a3, a4⟩ | ⟨rfl, a3, a4⟩
      · rw [a4] at hP ⊢
        rw [ref_0 a1 a3]
        rw [sA_n (by decide), sA_1] at hP ⊢
        split at hP
        · omega
        next h5 => rw [if_neg h5]
      · rw [a4] at hP ⊢
        rw [ref_1 a1 a3]
        rw [sA_1] at hP ⊢
        split at hP
        · omega
        next h5 => rw [if_neg h5, sA_n (by decide)]
      · rw [e 22 (by decide) (by decide)] at a3
        rw [a4, ref_2 a1 a3, e 23 (by decide) (by decide)]
      · rw [e 24 (by decide) (by decide)] at a3
        rw [a4, ref_3 a1 a3, e 25 (by decide) (by decide)]
theorem IQ.drs {c : Nat} : ∀ {d p : Nat} {s : xS}, IQ s → c < s.1 19 0 → p + d ≤ 4 → IQ (sDrs s c d p) := by
  intro d
  induction d with
  | zero => intro p s h _ _; exact h
  | succ d ih =>
    intro p s h hc hp
    unfold sDrs
    exact ih (h.dr hc (by omega)) (by rw [sDr_1 (by simp) (by simp) (by simp) (by simp) (by simp) (by simp)]; exact hc) (by omega)
theorem ref_unF {c : Nat} {d k : Nat} {s : xS} : ref (sUnF s c d k) = ref s := ref_c (fun q hq => sUnF_1 (by omega) (by omega) (by omega) (by omega))
theorem IBR_unF {D : Nat × Nat × Nat → Prop} {pl : Nat → Nat × Nat × Nat} {c : Nat} : ∀ {d k : Nat} {s : xS}, IB s → IR D pl s → (∀ P, ¬ D P → ref s P < 24 → ∀ j, k ≤ j → j < k + d → ref s P ≠ s.1 23 (24 * c + j)) → IB (sUnF s c d k) ∧ IR D pl (sUnF s c d k) := by
  intro d
  induction d with
  | zero => intro k s hB hR _; exact ⟨hB, hR⟩
  | succ d ih =>
    intro k s hB hR hno
    unfold sUnF
    refine ih (hB.emp _) (hR.emp (fun P hD hP => hno P hD hP k (Nat.le_refl _) (by omega))) (fun P hD hP j hj hj2 => ?_)
    rw [ref_emp] at hP ⊢
    rw [sEmp_1 (by decide) (by decide) (by decide) (by decide)]
    exact hno P hD hP j (by omega) (by omega)
theorem IQ.ufF {s : xS} (h : IQ s) {c n : Nat} (hc : c < s.1 19 0) (hn : n ≤ s.1 22 c) : IQ (sUFF s c n) := by
  obtain ⟨pl, hpl⟩ := h.2
  have hD : IR (fun P => P.1 = 2 ∧ P.2.1 = c ∧ P.2.2 < n) pl s := fun P _ hP => hpl P id hP
  have hfe := h.1.fe
  obtain ⟨hB, hR⟩ := IBR_unF (d := n) (k := 0) (c := c) h.1 hD (fun P hP hP2 j _ hj e => by
    have rr := ref_2 hc (k := j) (by omega)
    have := h.J hP2 (e.trans rr.symm)
    subst this
    exact hP ⟨rfl, rfl, by simpa using hj⟩)
  have eU : ∀ q, q ≠ 17 → q ≠ 12 → q ≠ 20 → q ≠ 18 → (sUnF s c n 0).1 q = s.1 q := fun q a1 a2 a3 a4 => sUnF_1 a1 a2 a3 a4
  have e : ∀ q, q ≠ 22 → q ≠ 23 → (sUFF s c n).1 q = (sUnF s c n 0).1 q := fun q a1 a2 => by
    funext i
    unfold sUFF
    rw [sA_1, if_neg (fun e => a1 e.1), sShF_1 (Nat.le_refl _), if_neg (fun e => a2 e.1)]
  have el := fun c' => @sUFF_l s c n c'
  have ee := fun i => @sUFF_e s c n i
  have hW := h.1.1.ufF hc hn
  generalize sUFF s c n = t at e el ee hW
  generalize sUnF s c n 0 = u at hB hR eU e
  have e19 : t.1 19 0 = s.1 19 0 := by rw [e 19 (by decide) (by decide), eU 19 (by decide) (by decide) (by decide) (by decide)]
  have u19 : u.1 19 0 = s.1 19 0 := by rw [eU 19 (by decide) (by decide) (by decide) (by decide)]
  have hn4 := h.1.1.n
  refine IQ_drop (pl' := fun x => if (pl x).1 = 2 ∧ (pl x).2.1 = c then (2, c, (pl x).2.2 - n) else pl x) hB hR (fun q hq => e q (by omega) (by omega)) (fun c' hc' => ?_) (fun P hP => ?_)
  · rw [u19, ← e19] at hc'
    exact hW.fe c' hc'
  · obtain ⟨a1, a2⟩ := ref_cases hP
    rw [e19] at a1
    obtain ⟨r, c', p'⟩ := P
    dsimp only at a1 a2 ⊢
    have a1u : c' < u.1 19 0 := by rw [u19]; exact a1
    have same : ∀ (h5 : ¬ (r = 2 ∧ c' = c)) (h6 : ref u (r, c', p') = ref t (r, c', p')), ∃ Q : Nat × Nat × Nat, ¬ (Q.1 = 2 ∧ Q.2.1 = c ∧ Q.2.2 < n) ∧ ref u Q = ref t (r, c', p') ∧ Q.1 = r ∧ Q.2.1 = c' ∧ (pl (ref t (r, c', p')) = Q → (if (pl (ref t (r, c', p'))).1 = 2 ∧ (pl (ref t (r, c', p'))).2.1 = c then (2, c, (pl (ref t (r, c', p'))).2.2 - n) else pl (ref t (r, c', p'))) = (r, c', p')) := fun h5 h6 =>
      ⟨(r, c', p'), fun e => h5 ⟨e.1, e.2.1⟩, h6, rfl, rfl, fun h7 => by rw [h7, if_neg h5]⟩
    rcases a2 with ⟨rfl, a3, a4⟩ | ⟨rfl, a3, a4⟩ | ⟨rfl, a3, a4⟩ | ⟨rfl, a3, a4⟩
    · exact same (by simp) (by rw [a4, ref_0 a1u a3, e 15 (by decide) (by decide)])
    · exact same (by simp) (by rw [a4, ref_1 a1u a3, e 16 (by decide) (by decide)])
    · first
        | (rw [e 22 (by decide) (by decide)] at a3
           exact same (by simp) (by rw [a4, ref_2 a1u a3, e 23 (by decide) (by decide)]))
        | (rw [el] at a3
           have hl2 := hfe c' a1
           by_cases h5 : c' = c
           · subst h5
             rw [if_pos rfl] at a3
             have h6 : t.1 23 (24 * c' + p') = s.1 23 (24 * c' + (p' + n)) := by rw [ee, if_pos (by omega), Nat.add_assoc]
             refine ⟨(2, c', p' + n), fun e => by have h9 : p' + n < n := e.2.2; omega, ?_, rfl, rfl, fun h7 => ?_⟩
             · rw [a4, h6, ref_2 a1u (by rw [eU 22 (by decide) (by decide) (by decide) (by decide)]; omega), eU 23 (by decide) (by decide) (by decide) (by decide)]
             · rw [h7, if_pos ⟨rfl, rfl⟩]; simp
           · rw [if_neg h5] at a3
             refine same (fun e => h5 e.2) ?_
             rw [a4, ref_2 a1u (by rw [eU 22 (by decide) (by decide) (by decide) (by decide)]; exact a3), ee, if_neg, eU 23 (by decide) (by decide) (by decide) (by decide)]
             have := hfe c hc
             omega)
    · first
        | (rw [e 24 (by decide) (by decide)] at a3
           exact same (by simp) (by rw [a4, ref_3 a1u a3, e 25 (by decide) (by decide)]))
        | (rw [el] at a3
           have hl2 := hfe c' a1
           by_cases h5 : c' = c
           · subst h5
             rw [if_pos rfl] at a3
             have h6 : t.1 25 (24 * c' + p') = s.1 25 (24 * c' + (p' + n)) := by rw [ee, if_pos (by omega), Nat.add_assoc]
             refine ⟨(3, c', p' + n), fun e => by have h9 : p' + n < n := e.2.2; omega, ?_, rfl, rfl, fun h7 => ?_⟩
             · rw [a4, h6, ref_3 a1u (by rw [eU 24 (by decide) (by decide) (by decide) (by decide)]; omega), eU 25 (by decide) (by decide) (by decide) (by decide)]
             · rw [h7, if_pos ⟨rfl, rfl⟩]; simp
           · rw [if_neg h5] at a3
             refine same (fun e => h5 e.2) ?_
             rw [a4, ref_3 a1u (by rw [eU 24 (by decide) (by decide) (by decide) (by decide)]; exact a3), ee, if_neg, eU 25 (by decide) (by decide) (by decide) (by decide)]
             have := hfe c hc
             omega)
theorem ref_unE {c : Nat} {d k : Nat} {s : xS} : ref (sUnE s c d k) = ref s := ref_c (fun q hq => sUnE_1 (by omega) (by omega) (by omega) (by omega))
theorem IBR_unE {D : Nat × Nat × Nat → Prop} {pl : Nat → Nat × Nat × Nat} {c : Nat} : ∀ {d k : Nat} {s : xS}, IB s → IR D pl s → (∀ P, ¬ D P → ref s P < 24 → ∀ j, k ≤ j → j < k + d → ref s P ≠ s.1 25 (24 * c + j)) → IB (sUnE s c d k) ∧ IR D pl (sUnE s c d k) := by
  intro d
  induction d with
  | zero => intro k s hB hR _; exact ⟨hB, hR⟩
  | succ d ih =>
    intro k s hB hR hno
    unfold sUnE
    refine ih (hB.emp _) (hR.emp (fun P hD hP => hno P hD hP k (Nat.le_refl _) (by omega))) (fun P hD hP j hj hj2 => ?_)
    rw [ref_emp] at hP ⊢
    rw [sEmp_1 (by decide) (by decide) (by decide) (by decide)]
    exact hno P hD hP j (by omega) (by omega)
theorem IQ.ufE {s : xS} (h : IQ s) {c n : Nat} (hc : c < s.1 19 0) (hn : n ≤ s.1 24 c) : IQ (sUFE s c n) := by
  obtain ⟨pl, hpl⟩ := h.2
  have hD : IR (fun P => P.1 = 3 ∧ P.2.1 = c ∧ P.2.2 < n) pl s := fun P _ hP => hpl P id hP
  have hfe := h.1.fe
  obtain ⟨hB, hR⟩ := IBR_unE (d := n) (k := 0) (c := c) h.1 hD (fun P hP hP2 j _ hj e => by
    have rr := ref_3 hc (k := j) (by omega)
    have := h.J hP2 (e.trans rr.symm)
    subst this
    exact hP ⟨rfl, rfl, by simpa using hj⟩)
  have eU : ∀ q, q ≠ 17 → q ≠ 12 → q ≠ 20 → q ≠ 18 → (sUnE s c n 0).1 q = s.1 q := fun q a1 a2 a3 a4 => sUnE_1 a1 a2 a3 a4
  have e : ∀ q, q ≠ 24 → q ≠ 25 → (sUFE s c n).1 q = (sUnE s c n 0).1 q := fun q a1 a2 => by
    funext i
    unfold sUFE
    rw [sA_1, if_neg (fun e => a1 e.1), sShE_1 (Nat.le_refl _), if_neg (fun e => a2 e.1)]
  have el := fun c' => @sUFE_l s c n c'
  have ee := fun i => @sUFE_e s c n i
  have hW := h.1.1.ufE hc hn
  generalize sUFE s c n = t at e el ee hW
  generalize sUnE s c n 0 = u at hB hR eU e
  have e19 : t.1 19 0 = s.1 19 0 := by rw [e 19 (by decide) (by decide), eU 19 (by decide) (by decide) (by decide) (by decide)]
  have u19 : u.1 19 0 = s.1 19 0 := by rw [eU 19 (by decide) (by decide) (by decide) (by decide)]
  have hn4 := h.1.1.n
  refine IQ_drop (pl' := fun x => if (pl x).1 = 3 ∧ (pl x).2.1 = c then (3, c, (pl x).2.2 - n) else pl x) hB hR (fun q hq => e q (by omega) (by omega)) (fun c' hc' => ?_) (fun P hP => ?_)
  · rw [u19, ← e19] at hc'
    exact hW.fe c' hc'
  · obtain ⟨a1, a2⟩ := ref_cases hP
    rw [e19] at a1
    obtain ⟨r, c', p'⟩ := P
    dsimp only at a1 a2 ⊢
    have a1u : c' < u.1 19 0 := by rw [u19]; exact a1
    have same : ∀ (h5 : ¬ (r = 3 ∧ c' = c)) (h6 : ref u (r, c', p') = ref t (r, c', p')), ∃ Q : Nat × Nat × Nat, ¬ (Q.1 = 3 ∧ Q.2.1 = c ∧ Q.2.2 < n) ∧ ref u Q = ref t (r, c', p') ∧ Q.1 = r ∧ Q.2.1 = c' ∧ (pl (ref t (r, c', p')) = Q → (if (pl (ref t (r, c', p'))).1 = 3 ∧ (pl (ref t (r, c', p'))).2.1 = c then (3, c, (pl (ref t (r, c', p'))).2.2 - n) else pl (ref t (r, c', p'))) = (r, c', p')) := fun h5 h6 =>
      ⟨(r, c', p'), fun e => h5 ⟨e.1, e.2.1⟩, h6, rfl, rfl, fun h7 => by rw [h7, if_neg h5]⟩
    rcases a2 with ⟨rfl, a3, a4⟩ | ⟨rfl, a3, a4⟩ | ⟨rfl, a3, a4⟩ | ⟨rfl, a3, a4⟩
    · exact same (by simp) (by rw [a4, ref_0 a1u a3, e 15 (by decide) (by decide)])
    · exact same (by simp) (by rw [a4, ref_1 a1u a3, e 16 (by decide) (by decide)])
    · first
        | (rw [e 22 (by decide) (by decide)] at a3
           exact same (by simp) (by rw [a4, ref_2 a1u a3, e 23 (by decide) (by decide)]))
        | (rw [el] at a3
           have hl2 := hfe c' a1
           by_cases h5 : c' = c
           · subst h5
             rw [if_pos rfl] at a3
             have h6 : t.1 23 (24 * c' + p') = s.1 23 (24 * c' + (p' + n)) := by rw [ee, if_pos (by omega), Nat.add_assoc]
             refine ⟨(2, c', p' + n), fun e => by have h9 : p' + n < n := e.2.2; omega, ?_, rfl, rfl, fun h7 => ?_⟩
             · rw [a4, h6, ref_2 a1u (by rw [eU 22 (by decide) (by decide) (by decide) (by decide)]; omega), eU 23 (by decide) (by decide) (by decide) (by decide)]
             · rw [h7, if_pos ⟨rfl, rfl⟩]; simp
           · rw [if_neg h5] at a3
             refine same (fun e => h5 e.2) ?_
             rw [a4, ref_2 a1u (by rw [eU 22 (by decide) (by decide) (by decide) (by decide)]; exact a3), ee, if_neg, eU 23 (by decide) (by decide) (by decide) (by decide)]
             have := hfe c hc
             omega)
    · first
        | (rw [e 24 (by decide) (by decide)] at a3
           exact same (by simp) (by rw [a4, ref_3 a1u a3, e 25 (by decide) (by decide)]))
        | (rw [el] at a3
           have hl2 := hfe c' a1
           by_cases h5 : c' = c
           · subst h5
             rw [if_pos rfl] at a3
             have h6 : t.1 25 (24 * c' + p') = s.1 25 (24 * c' + (p' + n)) := by rw [ee, if_pos (by omega), Nat.add_assoc]
             refine ⟨(3, c', p' + n), fun e => by have h9 : p' + n < n := e.2.2; omega, ?_, rfl, rfl, fun h7 => ?_⟩
             · rw [a4, h6, ref_3 a1u (by rw [eU 24 (by decide) (by decide) (by decide) (by decide)]; omega), eU 25 (by decide) (by decide) (by decide) (by decide)]
             · rw [h7, if_pos ⟨rfl, rfl⟩]; simp
           · rw [if_neg h5] at a3
             refine same (fun e => h5 e.2) ?_
             rw [a4, ref_3 a1u (by rw [eU 24 (by decide) (by decide) (by decide) (by decide)]; exact a3), ee, if_neg, eU 25 (by decide) (by decide) (by decide) (by decide)]
             have := hfe c hc
             omega)
theorem IQ.ua {s : xS} (h : IQ s) {c : Nat} (hc : c < s.1 19 0) : IQ (sUA s c) := by
  have h1 := h.drs (d := 4) (p := 0) hc (by omega)
  have e : ∀ q, q ≠ 17 → q ≠ 12 → q ≠ 20 → q ≠ 18 → q ≠ 15 → q ≠ 16 → (sDrs s c 4 0).1 q = s.1 q := fun q a1 a2 a3 a4 a5 a6 => sDrs_1 a1 a2 a3 a4 a5 a6
  unfold sUA
  generalize sDrs s c 4 0 = t at h1 e
  have h2 := h1.ufF (c := c) (n := s.1 22 c) (by rw [e 19 (by decide) (by decide) (by decide) (by decide) (by decide) (by decide)]; exact hc) (by rw [e 22 (by decide) (by decide) (by decide) (by decide) (by decide) (by decide)]; exact Nat.le_refl _)
  refine h2.ufE ?_ ?_
  · rw [sUFF_1 (by simp) (by simp) (by simp) (by simp) (by simp) (by simp), e 19 (by decide) (by decide) (by decide) (by decide) (by decide) (by decide)]; exact hc
  · rw [sUFF_1 (by simp) (by simp) (by simp) (by simp) (by simp) (by simp), e 24 (by decide) (by decide) (by decide) (by decide) (by decide) (by decide)]; exact Nat.le_refl _
theorem IQ.set {s : xS} (h : IQ s) {q j v : Nat} (hq : q = 5 ∨ q = 6 ∨ q = 7 ∨ q = 8 ∨ q = 9 ∨ q = 11 ∨ q = 12 ∨ q = 26) : IQ (sA s q j v) := by
  obtain ⟨pl, hp⟩ := h.2
  exact ⟨h.1.set (by omega), pl, IR_c (fun q' hq' => sA_n (by omega)) hp⟩
theorem IQ.set4 {s : xS} (h : IQ s) {c v : Nat} (h1 : 1 ≤ v) (h8 : v ≤ 8) : IQ (sA s 4 c v) := by
  obtain ⟨pl, hp⟩ := h.2
  refine ⟨IB_c (fun q' hq' => sA_n (by omega)) (fun c' hc' => ?_) (fun c' hc' => ?_) h.1, pl, IR_c (fun q' hq' => sA_n (by omega)) hp⟩
  · rw [sA_1]; have := h.1.r4 c' hc'; split <;> omega
  · rw [sA_n (by decide), sA_n (by decide), sA_n (by decide), sA_n (by decide)]; exact h.1.fe c' hc'
theorem IQ.rez {s : xS} (h : IQ s) {c : Nat} (hc : c < s.1 19 0) : IQ (sRez s c) := by
  have h1 : IQ (sRz1 s c) ∧ (sRz1 s c).1 19 = s.1 19 := by
    unfold sRz1
    split
    · exact ⟨h, rfl⟩
    next h8 =>
      have h4 := h.1.r4 c hc
      refine ⟨(h.set4 (by omega) (by omega)).ua (by rw [sA_n (by decide)]; exact hc), ?_⟩
      rw [sUA_1 (by simp) (by simp) (by simp) (by simp) (by simp) (by simp) (by simp) (by simp) (by simp) (by simp), sA_n (by decide)]
  have h2 : IQ (sRz2 (sRz1 s c) c) := h1.1.set (by simp)
  have e2 : (sRz2 (sRz1 s c) c).1 19 = s.1 19 := by unfold sRz2; rw [sA_n (by decide), h1.2]
  unfold sRez
  generalize sRz2 (sRz1 s c) c = t at h2 e2
  have hc2 : c < t.1 19 0 := by rw [e2]; exact hc
  unfold sRz3
  split
  · split
    · exact h2.set (by simp)
    · have h4 := h2.1.r4 c hc2
      exact ((h2.set (by simp)).set4 (by omega) (by omega)).ua (by rw [sA_n (by decide), sA_n (by decide)]; exact hc2)
  · exact h2
theorem INV.in {s : xS} (h : INV s) {c : Nat} (hc : c < s.1 19 0) : INV (sIn2 (sIn1 s c) c) := by
  have hC := h.C hc
  have h1 := h.q.ufF (c := c) hc hC.2.2.1
  have e1 : (sUFF s c (s.1 8 c)).1 19 = s.1 19 := sUFF_1 (by simp) (by simp) (by simp) (by simp) (by simp) (by simp)
  have e24 : (sUFF s c (s.1 8 c)).1 24 = s.1 24 := sUFF_1 (by simp) (by simp) (by simp) (by simp) (by simp) (by simp)
  have h2 := h1.ufE (c := c) (n := s.1 9 c) (by rw [e1]; exact hc) (by rw [e24]; exact hC.2.2.2)
  have e2 : ∀ q, q ≠ 17 → q ≠ 12 → q ≠ 20 → q ≠ 18 → q ≠ 22 → q ≠ 23 → q ≠ 24 → q ≠ 25 → (sUFE (sUFF s c (s.1 8 c)) c (s.1 9 c)).1 q = s.1 q := fun q a1 a2 a3 a4 a5 a6 a7 a8 => by rw [sUFE_1 a1 a2 a3 a4 a7 a8, sUFF_1 a1 a2 a3 a4 a5 a6]
  have h3 : IQ (sIn1 s c) := by
    unfold sIn1
    exact h2.rez (by rw [e2 19 (by decide) (by decide) (by decide) (by decide) (by decide) (by decide) (by decide) (by decide)]; exact hc)
  have h4 : IQ (sIn2 (sIn1 s c) c) := ((h3.set (by simp)).set (by simp)).set (by simp)
  refine h4.inv (fun c' hc' => ?_)
  rw [sIn2_19, sIn1_19] at hc'
  by_cases hcc : c' = c
  · subst hcc
    have e5 : (sIn2 (sIn1 s c') c').1 5 c' = s.1 5 c' := by
      unfold sIn2
      rw [sA_n (by decide), sA_n (by decide), sA_n (by decide)]
      unfold sIn1
      rw [sRez_1 (by decide) (by decide) (by decide) (by decide) (by decide) (by decide) (by decide) (by decide) (by decide) (by decide) (by decide) (by decide), e2 5 (by decide) (by decide) (by decide) (by decide) (by decide) (by decide) (by decide) (by decide)]
    have e7 : (sIn2 (sIn1 s c') c').1 7 c' ≤ 2 := by
      unfold sIn2
      rw [sA_n (by decide), sA_n (by decide), sA_n (by decide)]
      unfold sIn1 sRez
      refine sRz3_7 (fun i hi hne => ?_) ?_
      · have ez : ∀ u : xS, (sRz2 (sRz1 u c') c').1 7 i = u.1 7 i := fun u => by
          unfold sRz2
          rw [sA_1, if_neg (fun e => hne e.2), sRz1_1 (by decide) (by decide) (by decide) (by decide) (by decide) (by decide) (by decide) (by decide) (by decide) (by decide) (by decide)]
        have e19 : ∀ u : xS, (sRz2 (sRz1 u c') c').1 19 = u.1 19 := fun u => by
          unfold sRz2
          rw [sA_n (by decide), sRz1_1 (by decide) (by decide) (by decide) (by decide) (by decide) (by decide) (by decide) (by decide) (by decide) (by decide) (by decide)]
        rw [ez, e2 7 (by decide) (by decide) (by decide) (by decide) (by decide) (by decide) (by decide) (by decide)]
        rw [e19, e2 19 (by decide) (by decide) (by decide) (by decide) (by decide) (by decide) (by decide) (by decide)] at hi
        exact (h.C hi).2.1
      · unfold sRz2
        rw [sA_n (by decide), sRz1_1 (by decide) (by decide) (by decide) (by decide) (by decide) (by decide) (by decide) (by decide) (by decide) (by decide) (by decide), e2 19 (by decide) (by decide) (by decide) (by decide) (by decide) (by decide) (by decide) (by decide)]
        exact hc
    refine ⟨by rw [e5]; exact hC.1, e7, ?_, ?_⟩
    · unfold sIn2; simp [sA_1]
    · unfold sIn2; simp [sA_1]
  · have e5 : (sIn2 (sIn1 s c) c).1 5 = s.1 5 := by
      unfold sIn2
      rw [sA_n (by decide), sA_n (by decide), sA_n (by decide)]
      unfold sIn1
      rw [sRez_1 (by decide) (by decide) (by decide) (by decide) (by decide) (by decide) (by decide) (by decide) (by decide) (by decide) (by decide) (by decide), e2 5 (by decide) (by decide) (by decide) (by decide) (by decide) (by decide) (by decide) (by decide)]
    rw [e5, sIn_o (q := 7) hcc (by simp), sIn_o (q := 8) hcc (by simp), sIn_o (q := 9) hcc (by simp), sIn_o (q := 22) hcc (by simp), sIn_o (q := 24) hcc (by simp)]; exact h.C hc'
theorem INV.int : ∀ {d c : Nat} {s : xS}, INV s → c + d ≤ s.1 19 0 → INV (sInt s d c) := by
  intro d
  induction d with
  | zero => intro c s h _; exact h
  | succ d ih =>
    intro c s h hc
    unfold sInt
    exact ih (h.in (by omega)) (by rw [sIn2_19, sIn1_19]; omega)
def sTick (s : xS) : xS := sInt (sA s 19 1 (s.1 19 1 + 1)) (s.1 19 0) 0
theorem INV.tick {s : xS} (h : INV s) : INV (sTick s) := by
  unfold sTick
  exact (h.s19 (by decide)).int (by rw [sA_1, if_neg (by simp)]; omega)
