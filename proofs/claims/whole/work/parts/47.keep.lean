/-! what holds is kept: takes and gives -/
theorem INV.exch {s : xS} (h : INV s) {c p : Nat} (hc : c < s.1 19 0) (hp : p < 4) : INV (sExch s (4 * c + p)) := by
  obtain ⟨pl, hpl⟩ := h.2.2
  have e : ∀ q, q ≠ 15 → q ≠ 16 → (sExch s (4 * c + p)).1 q = s.1 q := fun q h1 h2 => by unfold sExch; rw [sA_n h2, sA_n h1]
  have e15 : ∀ j, (sExch s (4 * c + p)).1 15 j = if j = 4 * c + p then s.1 16 (4 * c + p) else s.1 15 j := fun j => by unfold sExch; simp [sA_1]
  have e16 : ∀ j, (sExch s (4 * c + p)).1 16 j = if j = 4 * c + p then s.1 15 (4 * c + p) else s.1 16 j := fun j => by unfold sExch; simp [sA_1]
  generalize sExch s (4 * c + p) = t at e e15 e16
  have n0 : t.1 19 0 = s.1 19 0 := by rw [e 19 (by decide) (by decide)]
  refine INV_move h (fun x => if x = s.1 16 (4 * c + p) then (0, c, p) else if x = s.1 15 (4 * c + p) then (1, c, p) else pl x) (fun q hq => e q (by omega) (by omega)) (fun c' hc' => ?_) (fun c' hc' => ?_) (fun P hP => ?_)
  · rw [e 22 (by decide) (by decide), e 23 (by decide) (by decide), e 24 (by decide) (by decide), e 25 (by decide) (by decide)]; exact h.1.fe c' hc'
  · rw [e 5 (by decide) (by decide), e 7 (by decide) (by decide), e 8 (by decide) (by decide), e 22 (by decide) (by decide), e 9 (by decide) (by decide), e 24 (by decide) (by decide)]; exact h.C hc'
  · obtain ⟨h0, hr⟩ := ref_cases hP
    rw [n0] at h0
    obtain ⟨r, c', p'⟩ := P
    dsimp only at h0 hr ⊢
    have r0 := ref_0 hc hp
    have r1 := ref_1 hc hp
    rcases hr with ⟨rfl, h1, h2⟩ | ⟨rfl, h1, h2⟩ | ⟨rfl, h1, h2⟩ | ⟨rfl, h1, h2⟩
    · rw [h2, e15] at hP ⊢
      by_cases hh : 4 * c' + p' = 4 * c + p
      · have : c' = c := by omega
        have : p' = p := by omega
        subst c' p'
        simp only [if_true] at hP ⊢
        exact ⟨trivial, ⟨(1, c, p), rfl, r1⟩, (fun e => by cases e), (fun e => by cases e)⟩
      · rw [if_neg hh] at hP ⊢
        have rr := ref_0 h0 h1
        have hx : ref s (0, c', p') < 24 := by rw [rr]; exact hP
        have n1 : s.1 15 (4 * c' + p') ≠ s.1 16 (4 * c + p) := fun e => by
          have := h.J hx (rr.trans (e.trans r1.symm)); simp at this
        have n2 : s.1 15 (4 * c' + p') ≠ s.1 15 (4 * c + p) := fun e => by
          have := h.J hx (rr.trans (e.trans r0.symm)); simp only [Prod.mk.injEq, true_and] at this; omega
        rw [if_neg n1, if_neg n2]
        have := (hpl _ id hx).1
        rw [rr] at this
        exact ⟨this, ⟨_, rfl, rr⟩, (fun e => by cases e), (fun e => by cases e)⟩
    · rw [h2, e16] at hP ⊢
      by_cases hh : 4 * c' + p' = 4 * c + p
      · have : c' = c := by omega
        have : p' = p := by omega
        subst c' p'
        rw [if_pos rfl] at hP ⊢
        have hx : ref s (0, c, p) < 24 := by rw [r0]; exact hP
        have n1 : s.1 15 (4 * c + p) ≠ s.1 16 (4 * c + p) := fun e => by
          have := h.J hx (r0.trans (e.trans r1.symm)); simp at this
        rw [if_neg n1, if_pos rfl]
        exact ⟨rfl, ⟨(0, c, p), rfl, r0⟩, (fun e => by cases e), (fun e => by cases e)⟩
      · rw [if_neg hh] at hP ⊢
        have rr := ref_1 h0 h1
        have hx : ref s (1, c', p') < 24 := by rw [rr]; exact hP
        have n1 : s.1 16 (4 * c' + p') ≠ s.1 16 (4 * c + p) := fun e => by
          have := h.J hx (rr.trans (e.trans r1.symm)); simp only [Prod.mk.injEq, true_and] at this; omega
        have n2 : s.1 16 (4 * c' + p') ≠ s.1 15 (4 * c + p) := fun e => by
          have := h.J hx (rr.trans (e.trans r0.symm)); simp at this
        rw [if_neg n1, if_neg n2]
        have := (hpl _ id hx).1
        rw [rr] at this
        exact ⟨this, ⟨_, rfl, rr⟩, (fun e => by cases e), (fun e => by cases e)⟩
    · rw [h2, e 23 (by decide) (by decide)] at hP ⊢
      rw [e 22 (by decide) (by decide)] at h1
      have rr := ref_2 h0 h1
      have hx : ref s (2, c', p') < 24 := by rw [rr]; exact hP
      have n1 : s.1 23 (24 * c' + p') ≠ s.1 16 (4 * c + p) := fun e => by
        have := h.J hx (rr.trans (e.trans r1.symm)); simp at this
      have n2 : s.1 23 (24 * c' + p') ≠ s.1 15 (4 * c + p) := fun e => by
        have := h.J hx (rr.trans (e.trans r0.symm)); simp at this
      rw [if_neg n1, if_neg n2]
      have := (hpl _ id hx).1
      rw [rr] at this
      exact ⟨this, ⟨_, rfl, rr⟩, fun _ => (h.full h0 h1).2.2.1, (fun e => by cases e)⟩
    · rw [h2, e 25 (by decide) (by decide)] at hP ⊢
      rw [e 24 (by decide) (by decide)] at h1
      have rr := ref_3 h0 h1
      have hx : ref s (3, c', p') < 24 := by rw [rr]; exact hP
      have n1 : s.1 25 (24 * c' + p') ≠ s.1 16 (4 * c + p) := fun e => by
        have := h.J hx (rr.trans (e.trans r1.symm)); simp at this
      have n2 : s.1 25 (24 * c' + p') ≠ s.1 15 (4 * c + p) := fun e => by
        have := h.J hx (rr.trans (e.trans r0.symm)); simp at this
      rw [if_neg n1, if_neg n2]
      have := (hpl _ id hx).1
      rw [rr] at this
      exact ⟨this, ⟨_, rfl, rr⟩, (fun e => by cases e), fun _ => (h.empt h0 h1).2.2⟩
/-- a magazine that is made, and at no place -/
def IM (s : xS) (m c : Nat) : Prop := INV s ∧ m < 24 ∧ s.1 18 m = 1 ∧ (∀ P, ref s P ≠ m) ∧ ∀ k, k < s.1 20 m → s.1 13 (s.1 21 (8 * m + k) / 62) = c
/-- fewer places -/
theorem INV_less {s t : xS} (h : INV s) (hq : ∀ q, q = 19 ∨ q = 0 ∨ q = 1 ∨ q = 2 ∨ q = 10 ∨ q = 14 ∨ q = 13 ∨ q = 21 ∨ q = 17 ∨ q = 18 ∨ q = 20 ∨ q = 4 → t.1 q = s.1 q)
    (hf : ∀ c, c < s.1 19 0 → t.1 22 c ≤ 24 ∧ t.1 24 c ≤ 24 ∧ ∀ k, (k < t.1 22 c → t.1 23 (24 * c + k) < 24) ∧ (k < t.1 24 c → t.1 25 (24 * c + k) < 24))
    (hC : ∀ c, c < s.1 19 0 → t.1 5 c ≤ 99 ∧ t.1 7 c ≤ 2 ∧ t.1 8 c ≤ t.1 22 c ∧ t.1 9 c ≤ t.1 24 c)
    (hr : ∀ P, ref t P < 24 → ref s P = ref t P) : INV t := by
  obtain ⟨pl, hpl⟩ := h.2.2
  refine INV_move h pl hq hf hC (fun P hP => ?_)
  have h1 := hr P hP
  have h2 := hpl P id (by rw [h1]; exact hP)
  rw [h1] at h2
  exact ⟨h2.1, ⟨P, rfl, h1⟩, h2.2.2.2.1, h2.2.2.2.2⟩
theorem IM_fetchF {s : xS} (h : INV s) {c : Nat} (hc : c < s.1 19 0) (h0 : 0 < s.1 22 c) : IM (sFetF s c) (s.1 23 (24 * c + (s.1 22 c - 1))) c ∧ ∀ P, ref (sFetF s c) P < 24 → ref s P = ref (sFetF s c) P := by
  have e : ∀ q, q ≠ 22 → q ≠ 8 → (sFetF s c).1 q = s.1 q := fun q h1 h2 => by unfold sFetF; rw [sA_n h2, sA_n h1]
  have el : ∀ j, (sFetF s c).1 22 j = if j = c then s.1 22 c - 1 else s.1 22 j := fun j => by unfold sFetF; simp [sA_1]
  have em : ∀ j, (sFetF s c).1 8 j = if j = c then (if s.1 22 c - 1 < s.1 8 c then s.1 22 c - 1 else s.1 8 c) else s.1 8 j := fun j => by unfold sFetF; simp [sA_1]
  generalize sFetF s c = t at e el em
  have n0 : t.1 19 0 = s.1 19 0 := by rw [e 19 (by decide) (by decide)]
  have hr : ∀ P, ref t P < 24 → ref s P = ref t P ∧ ¬ (P = (2, c, s.1 22 c - 1)) := by
    intro P hP
    obtain ⟨h1, h2⟩ := ref_cases hP
    rw [n0] at h1
    obtain ⟨r, c', p'⟩ := P
    dsimp only at h1 h2
    rcases h2 with ⟨rfl, h3, h4⟩ | ⟨rfl, h3, h4⟩ | ⟨rfl, h3, h4⟩ | ⟨rfl, h3, h4⟩
    · rw [h4, ref_0 h1 h3, e 15 (by decide) (by decide)]; simp
    · rw [h4, ref_1 h1 h3, e 16 (by decide) (by decide)]; simp
    · rw [h4, e 23 (by decide) (by decide)]
      first
        | (rw [e 22 (by decide) (by decide)] at h3
           rw [ref_2 h1 h3]; simp; done)
        | (rw [el] at h3
           rw [ref_2 h1 (by split at h3 <;> (try subst c') <;> omega)]
           simp only [true_and, Prod.mk.injEq]
           rintro ⟨rfl, rfl⟩
           rw [if_pos rfl] at h3; omega)
    · rw [h4, e 25 (by decide) (by decide)]
      first
        | (rw [e 24 (by decide) (by decide)] at h3
           rw [ref_3 h1 h3]; simp; done)
        | (rw [el] at h3
           rw [ref_3 h1 (by split at h3 <;> (try subst c') <;> omega)]
           simp only [true_and, Prod.mk.injEq]
           rintro ⟨rfl, rfl⟩
           rw [if_pos rfl] at h3; omega)
  have hk : s.1 22 c - 1 < s.1 22 c := by omega
  have hfu := h.full hc hk
  have rr : ref s (2, c, s.1 22 c - 1) = s.1 23 (24 * c + (s.1 22 c - 1)) := ref_2 hc hk
  have hP := h.P (P := (2, c, s.1 22 c - 1)) (by rw [rr]; exact hfu.1)
  rw [rr] at hP
  refine ⟨⟨INV_less h (fun q hq => e q (by omega) (by omega)) (fun c' hc' => ?_) (fun c' hc' => ?_) (fun P hP => (hr P hP).1), hfu.1, ?_, fun P hP2 => ?_, ?_⟩, fun P hP => (hr P hP).1⟩
  · have h1 := h.1.fe c' hc'
    rw [el, e 24 (by decide) (by decide), e 23 (by decide) (by decide), e 25 (by decide) (by decide)]
    by_cases hcc : c' = c
    · subst hcc
      rw [if_pos rfl]
      refine ⟨by omega, by omega, fun k => ?_⟩
      have h2 := h1.2.2 k
      omega
    · rw [if_neg hcc]; first | exact h1 | exact ⟨h1.1, h1.2.1, h1.2.2⟩
  · have h1 := h.C hc'
    rw [e 5 (by decide) (by decide), e 7 (by decide) (by decide), el, em, e 9 (by decide) (by decide), e 24 (by decide) (by decide)]
    by_cases hcc : c' = c
    · subst hcc
      rw [if_pos rfl, if_pos rfl]
      split <;> omega
    · rw [if_neg hcc, if_neg hcc]; exact h1
  · rw [e 18 (by decide) (by decide)]; exact hfu.2.1
  · have h1 : ref t P < 24 := by rw [hP2]; exact hfu.1
    obtain ⟨h2, h3⟩ := hr P h1
    exact h3 (h.J (by rw [h2]; exact h1) (by rw [h2, hP2, rr]))
  · rw [e 20 (by decide) (by decide), e 13 (by decide) (by decide), e 21 (by decide) (by decide)]
    exact hP.2.1
/-- it becomes the loaded one, the loaded one the previous one, and that is brought -/
def sSwF (s : xS) (c i m : Nat) : xS := sSwap (if s.1 16 i < 24 then sBriF s c (s.1 16 i) else s) i m
theorem INV_swF {s : xS} {m c p : Nat} (h : IM s m c) (hc : c < s.1 19 0) (hp : p < 4) (hx : s.1 16 (4 * c + p) < 24 → (2 = 2 → 0 < s.1 20 (s.1 16 (4 * c + p))) ∧ (2 = 3 → s.1 20 (s.1 16 (4 * c + p)) = 0)) : INV (sSwF s c (4 * c + p) m) := by
  obtain ⟨hI, hm, h18, hno, hca⟩ := h
  obtain ⟨pl, hpl⟩ := hI.2.2
  have e : ∀ q, q ≠ 15 → q ≠ 16 → q ≠ 22 → q ≠ 23 → (sSwF s c (4 * c + p) m).1 q = s.1 q := fun q h1 h2 h3 h4 => by
    unfold sSwF sSwap sBriF
    rw [sA_n h1, sA_n h2]
    split
    · rw [sA_n h3, sA_n h4]
    · rfl
  have e15 : ∀ j, (sSwF s c (4 * c + p) m).1 15 j = if j = 4 * c + p then m else s.1 15 j := fun j => by
    unfold sSwF sSwap sBriF; split <;> simp [sA_1]
  have e16 : ∀ j, (sSwF s c (4 * c + p) m).1 16 j = if j = 4 * c + p then s.1 15 (4 * c + p) else s.1 16 j := fun j => by
    unfold sSwF sSwap sBriF; split <;> simp [sA_1]
  have el : ∀ j, (sSwF s c (4 * c + p) m).1 22 j = if j = c ∧ s.1 16 (4 * c + p) < 24 then s.1 22 c + 1 else s.1 22 j := fun j => by
    unfold sSwF sSwap sBriF
    split
    next h1 => simp [sA_1, h1]
    next h1 => simp [sA_1, h1]
  have ee : ∀ j, (sSwF s c (4 * c + p) m).1 23 j = if j = 24 * c + s.1 22 c ∧ s.1 16 (4 * c + p) < 24 then s.1 16 (4 * c + p) else s.1 23 j := fun j => by
    unfold sSwF sSwap sBriF
    split
    next h1 => simp [sA_1, h1]
    next h1 => simp [sA_1, h1]
  generalize sSwF s c (4 * c + p) m = t at e e15 e16 el ee
  have n0 : t.1 19 0 = s.1 19 0 := by rw [e 19 (by decide) (by decide) (by decide) (by decide)]
  have r0 := ref_0 hc hp
  have r1 := ref_1 hc hp
  have hroom : s.1 16 (4 * c + p) < 24 → s.1 22 c < 24 := fun h1 => by have := hI.room hc hp h1; omega
  have keep : ∀ P, IP pl s P (ref s P) → ref s P ≠ m → ref s P ≠ s.1 15 (4 * c + p) → ref s P ≠ s.1 16 (4 * c + p) → IP (fun x => if x = m then (0, c, p) else if x = s.1 15 (4 * c + p) then (1, c, p) else if x = s.1 16 (4 * c + p) then (2, c, s.1 22 c) else pl x) t P (ref s P) := fun P h1 h2 h3 h4 => by
    refine IP_c (by rw [e 18 (by decide) (by decide) (by decide) (by decide)]) (by rw [e 20 (by decide) (by decide) (by decide) (by decide)]) (fun k _ => by rw [e 21 (by decide) (by decide) (by decide) (by decide)]) (e 13 (by decide) (by decide) (by decide) (by decide)) ⟨?_, h1.2⟩
    dsimp only
    rw [if_neg h2, if_neg h3, if_neg h4]; exact h1.1
  refine ⟨IB_c (fun q hq => e q (by omega) (by omega) (by omega) (by omega)) (fun c' hc' => by rw [e 4 (by decide) (by decide) (by decide) (by decide)]; exact hI.1.r4 c' hc') (fun c' hc' => ?_) hI.1, fun c' hc' => ?_, (fun x => if x = m then (0, c, p) else if x = s.1 15 (4 * c + p) then (1, c, p) else if x = s.1 16 (4 * c + p) then (2, c, s.1 22 c) else pl x), fun P _ hP => ?_⟩
  · have h1 := hI.1.fe c' hc'
    have hn4 : c' < 4 := by have := hI.R.n; omega
    have hc4 : c < 4 := by have := hI.R.n; omega
    have h1c := hI.1.fe c hc
    rw [el, e 24 (by decide) (by decide) (by decide) (by decide)]
    have key : ∀ k, k < (if c' = c ∧ s.1 16 (4 * c + p) < 24 then s.1 22 c + 1 else s.1 22 c') → t.1 23 (24 * c' + k) < 24 := fun k hk => by
      rw [ee]
      by_cases h2 : 24 * c' + k = 24 * c + s.1 22 c ∧ s.1 16 (4 * c + p) < 24
      · rw [if_pos h2]; exact h2.2
      · rw [if_neg h2]
        have h3 := (h1.2.2 k)
        by_cases h4 : c' = c ∧ s.1 16 (4 * c + p) < 24
        · rw [if_pos h4] at hk
          obtain ⟨rfl, h5⟩ := h4
          have : k < s.1 22 c' := by
            rcases Nat.lt_or_ge k (s.1 22 c') with h6 | h6
            · exact h6
            · exact absurd ⟨by omega, h5⟩ h2
          first | exact h3.1 this | exact h3.2 this
        · rw [if_neg h4] at hk
          first | exact h3.1 hk | exact h3.2 hk
    have hl : (if c' = c ∧ s.1 16 (4 * c + p) < 24 then s.1 22 c + 1 else s.1 22 c') ≤ 24 := by
      split
      next h2 => have := hroom h2.2; omega
      next => omega
    first
      | (rw [e 25 (by decide) (by decide) (by decide) (by decide)]
         exact ⟨hl, h1.2.1, fun k => ⟨key k, (h1.2.2 k).2⟩⟩)
      | (rw [e 23 (by decide) (by decide) (by decide) (by decide)]
         exact ⟨h1.1, hl, fun k => ⟨(h1.2.2 k).1, key k⟩⟩)
  · rw [n0] at hc'
    have h1 := hI.C hc'
    rw [e 5 (by decide) (by decide) (by decide) (by decide), e 7 (by decide) (by decide) (by decide) (by decide), e 8 (by decide) (by decide) (by decide) (by decide), e 9 (by decide) (by decide) (by decide) (by decide), el, e 24 (by decide) (by decide) (by decide) (by decide)]
    refine ⟨h1.1, h1.2.1, ?_⟩
    split
    next h2 => obtain ⟨rfl, _⟩ := h2; omega
    next => omega
  · obtain ⟨h1, h2⟩ := ref_cases hP
    rw [n0] at h1
    obtain ⟨r, c', p'⟩ := P
    dsimp only at h1 h2
    have other : ∀ P, ref s P = ref t (r, c', p') → P = (r, c', p') → P ≠ (0, c, p) → P ≠ (1, c, p) → IP (fun x => if x = m then (0, c, p) else if x = s.1 15 (4 * c + p) then (1, c, p) else if x = s.1 16 (4 * c + p) then (2, c, s.1 22 c) else pl x) t (r, c', p') (ref t (r, c', p')) := fun P hr hPe hn0 hn1 => by
      have hP' : ref s P < 24 := by rw [hr]; exact hP
      have := keep P (hpl P id hP') (hno P) (fun e => hn0 (hI.J hP' (e.trans r0.symm))) (fun e => hn1 (hI.J hP' (e.trans r1.symm)))
      rw [hr, hPe] at this
      exact this
    rcases h2 with ⟨rfl, h3, h4⟩ | ⟨rfl, h3, h4⟩ | ⟨rfl, h3, h4⟩ | ⟨rfl, h3, h4⟩
    · by_cases hh : 4 * c' + p' = 4 * c + p
      · have : c' = c := by omega
        have : p' = p := by omega
        subst c' p'
        rw [h4, e15, if_pos rfl]
        refine ⟨if_pos rfl, by rw [e 18 (by decide) (by decide) (by decide) (by decide)]; exact h18, fun k hk => ?_, (fun e => by cases e), (fun e => by cases e)⟩
        rw [e 20 (by decide) (by decide) (by decide) (by decide)] at hk
        rw [e 13 (by decide) (by decide) (by decide) (by decide), e 21 (by decide) (by decide) (by decide) (by decide)]
        exact hca k hk
      · refine other (0, c', p') ?_ rfl (fun e => ?_) (fun e => ?_)
        · rw [ref_0 h1 h3, h4, e15, if_neg hh]
        · simp only [Prod.mk.injEq, true_and] at e; omega
        · simp at e
    · by_cases hh : 4 * c' + p' = 4 * c + p
      · have : c' = c := by omega
        have : p' = p := by omega
        subst c' p'
        rw [h4, e16, if_pos rfl] at hP ⊢
        have hP' : ref s (0, c, p) < 24 := by rw [r0]; exact hP
        have h5 := hpl (0, c, p) id hP'
        rw [r0] at h5
        refine IP_c (by rw [e 18 (by decide) (by decide) (by decide) (by decide)]) (by rw [e 20 (by decide) (by decide) (by decide) (by decide)]) (fun k _ => by rw [e 21 (by decide) (by decide) (by decide) (by decide)]) (e 13 (by decide) (by decide) (by decide) (by decide)) ⟨?_, h5.2.1, h5.2.2.1, (fun e => by cases e), (fun e => by cases e)⟩
        dsimp only
        rw [if_neg (fun e => hno (0, c, p) (r0.trans e)), if_pos rfl]
      · refine other (1, c', p') ?_ rfl (fun e => ?_) (fun e => ?_)
        · rw [ref_1 h1 h3, h4, e16, if_neg hh]
        · simp at e
        · simp only [Prod.mk.injEq, true_and] at e; omega
    · first
        | (rw [e 22 (by decide) (by decide) (by decide) (by decide)] at h3
           exact other (2, c', p') (by rw [ref_2 h1 h3, h4, e 23 (by decide) (by decide) (by decide) (by decide)]) rfl (by simp) (by simp))
        | (rw [el] at h3
           by_cases hh : (c' = c ∧ p' = s.1 22 c) ∧ s.1 16 (4 * c + p) < 24
           · obtain ⟨⟨rfl, rfl⟩, h16⟩ := hh
             rw [h4, ee, if_pos ⟨rfl, h16⟩] at hP ⊢
             have hP' : ref s (1, c', p) < 24 := by rw [r1]; exact h16
             have h5 := hpl (1, c', p) id hP'
             rw [r1] at h5
             refine IP_c (by rw [e 18 (by decide) (by decide) (by decide) (by decide)]) (by rw [e 20 (by decide) (by decide) (by decide) (by decide)]) (fun k _ => by rw [e 21 (by decide) (by decide) (by decide) (by decide)]) (e 13 (by decide) (by decide) (by decide) (by decide)) ⟨?_, h5.2.1, h5.2.2.1, (hx h16).1, (fun e => by cases e)⟩
             dsimp only
             rw [if_neg (fun e => hno (1, c', p) (r1.trans e)), if_neg (fun e => ?_), if_pos rfl]
             have := hI.J hP' (r1.trans (e.trans r0.symm)); simp at this
           · have h6 : p' < s.1 22 c' := by
               split at h3
               next h7 =>
                 obtain ⟨rfl, h8⟩ := h7
                 rcases Nat.lt_or_ge p' (s.1 22 c') with h9 | h9
                 · exact h9
                 · exact absurd ⟨⟨rfl, by omega⟩, h8⟩ hh
               next => exact h3
             have hfe := hI.1.fe c' h1
             have hfe2 := hI.1.fe c hc
             refine other (2, c', p') ?_ rfl (by simp) (by simp)
             rw [ref_2 h1 h6, h4, ee, if_neg]
             rintro ⟨h7, h8⟩
             by_cases h9 : c' = c
             · subst h9; omega
             · omega)
    · first
        | (rw [e 24 (by decide) (by decide) (by decide) (by decide)] at h3
           exact other (3, c', p') (by rw [ref_3 h1 h3, h4, e 25 (by decide) (by decide) (by decide) (by decide)]) rfl (by simp) (by simp))
        | (rw [el] at h3
           by_cases hh : (c' = c ∧ p' = s.1 24 c) ∧ s.1 16 (4 * c + p) < 24
           · obtain ⟨⟨rfl, rfl⟩, h16⟩ := hh
             rw [h4, ee, if_pos ⟨rfl, h16⟩] at hP ⊢
             have hP' : ref s (1, c', p) < 24 := by rw [r1]; exact h16
             have h5 := hpl (1, c', p) id hP'
             rw [r1] at h5
             refine IP_c (by rw [e 18 (by decide) (by decide) (by decide) (by decide)]) (by rw [e 20 (by decide) (by decide) (by decide) (by decide)]) (fun k _ => by rw [e 21 (by decide) (by decide) (by decide) (by decide)]) (e 13 (by decide) (by decide) (by decide) (by decide)) ⟨?_, h5.2.1, h5.2.2.1, (fun e => by cases e), (hx h16).2⟩
             dsimp only
             rw [if_neg (fun e => hno (1, c', p) (r1.trans e)), if_neg (fun e => ?_), if_pos rfl]
             have := hI.J hP' (r1.trans (e.trans r0.symm)); simp at this
           · have h6 : p' < s.1 24 c' := by
               split at h3
               next h7 =>
                 obtain ⟨rfl, h8⟩ := h7
                 rcases Nat.lt_or_ge p' (s.1 24 c') with h9 | h9
                 · exact h9
                 · exact absurd ⟨⟨rfl, by omega⟩, h8⟩ hh
               next => exact h3
             have hfe := hI.1.fe c' h1
             have hfe2 := hI.1.fe c hc
             refine other (3, c', p') ?_ rfl (by simp) (by simp)
             rw [ref_3 h1 h6, h4, ee, if_neg]
             rintro ⟨h7, h8⟩
             by_cases h9 : c' = c
             · subst h9; omega
             · omega)
theorem IM_fetchE {s : xS} (h : INV s) {c : Nat} (hc : c < s.1 19 0) (h0 : 0 < s.1 24 c) : IM (sFetE s c) (s.1 25 (24 * c + (s.1 24 c - 1))) c ∧ ∀ P, ref (sFetE s c) P < 24 → ref s P = ref (sFetE s c) P := by
  have e : ∀ q, q ≠ 24 → q ≠ 9 → (sFetE s c).1 q = s.1 q := fun q h1 h2 => by unfold sFetE; rw [sA_n h2, sA_n h1]
  have el : ∀ j, (sFetE s c).1 24 j = if j = c then s.1 24 c - 1 else s.1 24 j := fun j => by unfold sFetE; simp [sA_1]
  have em : ∀ j, (sFetE s c).1 9 j = if j = c then (if s.1 24 c - 1 < s.1 9 c then s.1 24 c - 1 else s.1 9 c) else s.1 9 j := fun j => by unfold sFetE; simp [sA_1]
  generalize sFetE s c = t at e el em
  have n0 : t.1 19 0 = s.1 19 0 := by rw [e 19 (by decide) (by decide)]
  have hr : ∀ P, ref t P < 24 → ref s P = ref t P ∧ ¬ (P = (3, c, s.1 24 c - 1)) := by
    intro P hP
    obtain ⟨h1, h2⟩ := ref_cases hP
    rw [n0] at h1
    obtain ⟨r, c', p'⟩ := P
    dsimp only at h1 h2
    rcases h2 with ⟨rfl, h3, h4⟩ | ⟨rfl, h3, h4⟩ | ⟨rfl, h3, h4⟩ | ⟨rfl, h3, h4⟩
    · rw [h4, ref_0 h1 h3, e 15 (by decide) (by decide)]; simp
    · rw [h4, ref_1 h1 h3, e 16 (by decide) (by decide)]; simp
    · rw [h4, e 23 (by decide) (by decide)]
      first
        | (rw [e 22 (by decide) (by decide)] at h3
           rw [ref_2 h1 h3]; simp; done)
        | (rw [el] at h3
           rw [ref_2 h1 (by split at h3 <;> (try subst c') <;> omega)]
           simp only [true_and, Prod.mk.injEq]
           rintro ⟨rfl, rfl⟩
           rw [if_pos rfl] at h3; omega)
    · rw [h4, e 25 (by decide) (by decide)]
      first
        | (rw [e 24 (by decide) (by decide)] at h3
           rw [ref_3 h1 h3]; simp; done)
        | (rw [el] at h3
           rw [ref_3 h1 (by split at h3 <;> (try subst c') <;> omega)]
           simp only [true_and, Prod.mk.injEq]
           rintro ⟨rfl, rfl⟩
           rw [if_pos rfl] at h3; omega)
  have hk : s.1 24 c - 1 < s.1 24 c := by omega
  have hfu := h.empt hc hk
  have rr : ref s (3, c, s.1 24 c - 1) = s.1 25 (24 * c + (s.1 24 c - 1)) := ref_3 hc hk
  have hP := h.P (P := (3, c, s.1 24 c - 1)) (by rw [rr]; exact hfu.1)
  rw [rr] at hP
  refine ⟨⟨INV_less h (fun q hq => e q (by omega) (by omega)) (fun c' hc' => ?_) (fun c' hc' => ?_) (fun P hP => (hr P hP).1), hfu.1, ?_, fun P hP2 => ?_, ?_⟩, fun P hP => (hr P hP).1⟩
  · have h1 := h.1.fe c' hc'
    rw [el, e 22 (by decide) (by decide), e 23 (by decide) (by decide), e 25 (by decide) (by decide)]
    by_cases hcc : c' = c
    · subst hcc
      rw [if_pos rfl]
      refine ⟨by omega, by omega, fun k => ?_⟩
      have h2 := h1.2.2 k
      omega
    · rw [if_neg hcc]; first | exact h1 | exact ⟨h1.1, h1.2.1, h1.2.2⟩
  · have h1 := h.C hc'
    rw [e 5 (by decide) (by decide), e 7 (by decide) (by decide), el, em, e 8 (by decide) (by decide), e 22 (by decide) (by decide)]
    by_cases hcc : c' = c
    · subst hcc
      rw [if_pos rfl, if_pos rfl]
      split <;> omega
    · rw [if_neg hcc, if_neg hcc]; exact h1
  · rw [e 18 (by decide) (by decide)]; exact hfu.2.1
  · have h1 : ref t P < 24 := by rw [hP2]; exact hfu.1
    obtain ⟨h2, h3⟩ := hr P h1
    exact h3 (h.J (by rw [h2]; exact h1) (by rw [h2, hP2, rr]))
  · rw [e 20 (by decide) (by decide), e 13 (by decide) (by decide), e 21 (by decide) (by decide)]
    exact hP.2.1
/-- it becomes the loaded one, the loaded one the previous one, and that is brought -/
def sSwE (s : xS) (c i m : Nat) : xS := sSwap (if s.1 16 i < 24 then sBriE s c (s.1 16 i) else s) i m
theorem INV_swE {s : xS} {m c p : Nat} (h : IM s m c) (hc : c < s.1 19 0) (hp : p < 4) (hx : s.1 16 (4 * c + p) < 24 → (3 = 2 → 0 < s.1 20 (s.1 16 (4 * c + p))) ∧ (3 = 3 → s.1 20 (s.1 16 (4 * c + p)) = 0)) : INV (sSwE s c (4 * c + p) m) := by
  obtain ⟨hI, hm, h18, hno, hca⟩ := h
  obtain ⟨pl, hpl⟩ := hI.2.2
  have e : ∀ q, q ≠ 15 → q ≠ 16 → q ≠ 24 → q ≠ 25 → (sSwE s c (4 * c + p) m).1 q = s.1 q := fun q h1 h2 h3 h4 => by
    unfold sSwE sSwap sBriE
    rw [sA_n h1, sA_n h2]
    split
    · rw [sA_n h3, sA_n h4]
    · rfl
  have e15 : ∀ j, (sSwE s c (4 * c + p) m).1 15 j = if j = 4 * c + p then m else s.1 15 j := fun j => by
    unfold sSwE sSwap sBriE; split <;> simp [sA_1]
  have e16 : ∀ j, (sSwE s c (4 * c + p) m).1 16 j = if j = 4 * c + p then s.1 15 (4 * c + p) else s.1 16 j := fun j => by
    unfold sSwE sSwap sBriE; split <;> simp [sA_1]
  have el : ∀ j, (sSwE s c (4 * c + p) m).1 24 j = if j = c ∧ s.1 16 (4 * c + p) < 24 then s.1 24 c + 1 else s.1 24 j := fun j => by
    unfold sSwE sSwap sBriE
    split
    next h1 => simp [sA_1, h1]
    next h1 => simp [sA_1, h1]
  have ee : ∀ j, (sSwE s c (4 * c + p) m).1 25 j = if j = 24 * c + s.1 24 c ∧ s.1 16 (4 * c + p) < 24 then s.1 16 (4 * c + p) else s.1 25 j := fun j => by
    unfold sSwE sSwap sBriE
    split
    next h1 => simp [sA_1, h1]
    next h1 => simp [sA_1, h1]
  generalize sSwE s c (4 * c + p) m = t at e e15 e16 el ee
  have n0 : t.1 19 0 = s.1 19 0 := by rw [e 19 (by decide) (by decide) (by decide) (by decide)]
  have r0 := ref_0 hc hp
  have r1 := ref_1 hc hp
  have hroom : s.1 16 (4 * c + p) < 24 → s.1 24 c < 24 := fun h1 => by have := hI.room hc hp h1; omega
  have keep : ∀ P, IP pl s P (ref s P) → ref s P ≠ m → ref s P ≠ s.1 15 (4 * c + p) → ref s P ≠ s.1 16 (4 * c + p) → IP (fun x => if x = m then (0, c, p) else if x = s.1 15 (4 * c + p) then (1, c, p) else if x = s.1 16 (4 * c + p) then (3, c, s.1 24 c) else pl x) t P (ref s P) := fun P h1 h2 h3 h4 => by
    refine IP_c (by rw [e 18 (by decide) (by decide) (by decide) (by decide)]) (by rw [e 20 (by decide) (by decide) (by decide) (by decide)]) (fun k _ => by rw [e 21 (by decide) (by decide) (by decide) (by decide)]) (e 13 (by decide) (by decide) (by decide) (by decide)) ⟨?_, h1.2⟩
    dsimp only
    rw [if_neg h2, if_neg h3, if_neg h4]; exact h1.1
  refine ⟨IB_c (fun q hq => e q (by omega) (by omega) (by omega) (by omega)) (fun c' hc' => by rw [e 4 (by decide) (by decide) (by decide) (by decide)]; exact hI.1.r4 c' hc') (fun c' hc' => ?_) hI.1, fun c' hc' => ?_, (fun x => if x = m then (0, c, p) else if x = s.1 15 (4 * c + p) then (1, c, p) else if x = s.1 16 (4 * c + p) then (3, c, s.1 24 c) else pl x), fun P _ hP => ?_⟩
  · have h1 := hI.1.fe c' hc'
    have hn4 : c' < 4 := by have := hI.R.n; omega
    have hc4 : c < 4 := by have := hI.R.n; omega
    have h1c := hI.1.fe c hc
    rw [el, e 22 (by decide) (by decide) (by decide) (by decide)]
    have key : ∀ k, k < (if c' = c ∧ s.1 16 (4 * c + p) < 24 then s.1 24 c + 1 else s.1 24 c') → t.1 25 (24 * c' + k) < 24 := fun k hk => by
      rw [ee]
      by_cases h2 : 24 * c' + k = 24 * c + s.1 24 c ∧ s.1 16 (4 * c + p) < 24
      · rw [if_pos h2]; exact h2.2
      · rw [if_neg h2]
        have h3 := (h1.2.2 k)
        by_cases h4 : c' = c ∧ s.1 16 (4 * c + p) < 24
        · rw [if_pos h4] at hk
          obtain ⟨rfl, h5⟩ := h4
          have : k < s.1 24 c' := by
            rcases Nat.lt_or_ge k (s.1 24 c') with h6 | h6
            · exact h6
            · exact absurd ⟨by omega, h5⟩ h2
          first | exact h3.1 this | exact h3.2 this
        · rw [if_neg h4] at hk
          first | exact h3.1 hk | exact h3.2 hk
    have hl : (if c' = c ∧ s.1 16 (4 * c + p) < 24 then s.1 24 c + 1 else s.1 24 c') ≤ 24 := by
      split
      next h2 => have := hroom h2.2; omega
      next => omega
    first
      | (rw [e 25 (by decide) (by decide) (by decide) (by decide)]
         exact ⟨hl, h1.2.1, fun k => ⟨key k, (h1.2.2 k).2⟩⟩)
      | (rw [e 23 (by decide) (by decide) (by decide) (by decide)]
         exact ⟨h1.1, hl, fun k => ⟨(h1.2.2 k).1, key k⟩⟩)
  · rw [n0] at hc'
    have h1 := hI.C hc'
    rw [e 5 (by decide) (by decide) (by decide) (by decide), e 7 (by decide) (by decide) (by decide) (by decide), e 8 (by decide) (by decide) (by decide) (by decide), e 9 (by decide) (by decide) (by decide) (by decide), el, e 22 (by decide) (by decide) (by decide) (by decide)]
    refine ⟨h1.1, h1.2.1, ?_⟩
    split
    next h2 => obtain ⟨rfl, _⟩ := h2; omega
    next => omega
  · obtain ⟨h1, h2⟩ := ref_cases hP
    rw [n0] at h1
    obtain ⟨r, c', p'⟩ := P
    dsimp only at h1 h2
    have other : ∀ P, ref s P = ref t (r, c', p') → P = (r, c', p') → P ≠ (0, c, p) → P ≠ (1, c, p) → IP (fun x => if x = m then (0, c, p) else if x = s.1 15 (4 * c + p) then (1, c, p) else if x = s.1 16 (4 * c + p) then (3, c, s.1 24 c) else pl x) t (r, c', p') (ref t (r, c', p')) := fun P hr hPe hn0 hn1 => by
      have hP' : ref s P < 24 := by rw [hr]; exact hP
      have := keep P (hpl P id hP') (hno P) (fun e => hn0 (hI.J hP' (e.trans r0.symm))) (fun e => hn1 (hI.J hP' (e.trans r1.symm)))
      rw [hr, hPe] at this
      exact this
    rcases h2 with ⟨rfl, h3, h4⟩ | ⟨rfl, h3, h4⟩ | ⟨rfl, h3, h4⟩ | ⟨rfl, h3, h4⟩
    · by_cases hh : 4 * c' + p' = 4 * c + p
      · have : c' = c := by omega
        have : p' = p := by omega
        subst c' p'
        rw [h4, e15, if_pos rfl]
        refine ⟨if_pos rfl, by rw [e 18 (by decide) (by decide) (by decide) (by decide)]; exact h18, fun k hk => ?_, (fun e => by cases e), (fun e => by cases e)⟩
        rw [e 20 (by decide) (by decide) (by decide) (by decide)] at hk
        rw [e 13 (by decide) (by decide) (by decide) (by decide), e 21 (by decide) (by decide) (by decide) (by decide)]
        exact hca k hk
      · refine other (0, c', p') ?_ rfl (fun e => ?_) (fun e => ?_)
        · rw [ref_0 h1 h3, h4, e15, if_neg hh]
        · simp only [Prod.mk.injEq, true_and] at e; omega
        · simp at e
    · by_cases hh : 4 * c' + p' = 4 * c + p
      · have : c' = c := by omega
        have : p' = p := by omega
        subst c' p'
        rw [h4, e16, if_pos rfl] at hP ⊢
        have hP' : ref s (0, c, p) < 24 := by rw [r0]; exact hP
        have h5 := hpl (0, c, p) id hP'
        rw [r0] at h5
        refine IP_c (by rw [e 18 (by decide) (by decide) (by decide) (by decide)]) (by rw [e 20 (by decide) (by decide) (by decide) (by decide)]) (fun k _ => by rw [e 21 (by decide) (by decide) (by decide) (by decide)]) (e 13 (by decide) (by decide) (by decide) (by decide)) ⟨?_, h5.2.1, h5.2.2.1, (fun e => by cases e), (fun e => by cases e)⟩
        dsimp only
        rw [if_neg (fun e => hno (0, c, p) (r0.trans e)), if_pos rfl]
      · refine other (1, c', p') ?_ rfl (fun e => ?_) (fun e => ?_)
        · rw [ref_1 h1 h3, h4, e16, if_neg hh]
        · simp at e
        · simp only [Prod.mk.injEq, true_and] at e; omega
    · first
        | (rw [e 22 (by decide) (by decide) (by decide) (by decide)] at h3
           exact other (2, c', p') (by rw [ref_2 h1 h3, h4, e 23 (by decide) (by decide) (by decide) (by decide)]) rfl (by simp) (by simp))
        | (rw [el] at h3
           by_cases hh : (c' = c ∧ p' = s.1 22 c) ∧ s.1 16 (4 * c + p) < 24
           · obtain ⟨⟨rfl, rfl⟩, h16⟩ := hh
             rw [h4, ee, if_pos ⟨rfl, h16⟩] at hP ⊢
             have hP' : ref s (1, c', p) < 24 := by rw [r1]; exact h16
             have h5 := hpl (1, c', p) id hP'
             rw [r1] at h5
             refine IP_c (by rw [e 18 (by decide) (by decide) (by decide) (by decide)]) (by rw [e 20 (by decide) (by decide) (by decide) (by decide)]) (fun k _ => by rw [e 21 (by decide) (by decide) (by decide) (by decide)]) (e 13 (by decide) (by decide) (by decide) (by decide)) ⟨?_, h5.2.1, h5.2.2.1, (hx h16).1, (fun e => by cases e)⟩
             dsimp only
             rw [if_neg (fun e => hno (1, c', p) (r1.trans e)), if_neg (fun e => ?_), if_pos rfl]
             have := hI.J hP' (r1.trans (e.trans r0.symm)); simp at this
           · have h6 : p' < s.1 22 c' := by
               split at h3
               next h7 =>
                 obtain ⟨rfl, h8⟩ := h7
                 rcases Nat.lt_or_ge p' (s.1 22 c') with h9 | h9
                 · exact h9
                 · exact absurd ⟨⟨rfl, by omega⟩, h8⟩ hh
               next => exact h3
             have hfe := hI.1.fe c' h1
             have hfe2 := hI.1.fe c hc
             refine other (2, c', p') ?_ rfl (by simp) (by simp)
             rw [ref_2 h1 h6, h4, ee, if_neg]
             rintro ⟨h7, h8⟩
             by_cases h9 : c' = c
             · subst h9; omega
             · omega)
    · first
        | (rw [e 24 (by decide) (by decide) (by decide) (by decide)] at h3
           exact other (3, c', p') (by rw [ref_3 h1 h3, h4, e 25 (by decide) (by decide) (by decide) (by decide)]) rfl (by simp) (by simp))
        | (rw [el] at h3
           by_cases hh : (c' = c ∧ p' = s.1 24 c) ∧ s.1 16 (4 * c + p) < 24
           · obtain ⟨⟨rfl, rfl⟩, h16⟩ := hh
             rw [h4, ee, if_pos ⟨rfl, h16⟩] at hP ⊢
             have hP' : ref s (1, c', p) < 24 := by rw [r1]; exact h16
             have h5 := hpl (1, c', p) id hP'
             rw [r1] at h5
             refine IP_c (by rw [e 18 (by decide) (by decide) (by decide) (by decide)]) (by rw [e 20 (by decide) (by decide) (by decide) (by decide)]) (fun k _ => by rw [e 21 (by decide) (by decide) (by decide) (by decide)]) (e 13 (by decide) (by decide) (by decide) (by decide)) ⟨?_, h5.2.1, h5.2.2.1, (fun e => by cases e), (hx h16).2⟩
             dsimp only
             rw [if_neg (fun e => hno (1, c', p) (r1.trans e)), if_neg (fun e => ?_), if_pos rfl]
             have := hI.J hP' (r1.trans (e.trans r0.symm)); simp at this
           · have h6 : p' < s.1 24 c' := by
               split at h3
               next h7 =>
                 obtain ⟨rfl, h8⟩ := h7
                 rcases Nat.lt_or_ge p' (s.1 24 c') with h9 | h9
                 · exact h9
                 · exact absurd ⟨⟨rfl, by omega⟩, h8⟩ hh
               next => exact h3
             have hfe := hI.1.fe c' h1
             have hfe2 := hI.1.fe c hc
             refine other (3, c', p') ?_ rfl (by simp) (by simp)
             rw [ref_3 h1 h6, h4, ee, if_neg]
             rintro ⟨h7, h8⟩
             by_cases h9 : c' = c
             · subst h9; omega
             · omega)
