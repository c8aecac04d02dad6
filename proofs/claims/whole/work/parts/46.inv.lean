/-! what holds at all times -/
def ref (s : xS) (P : Nat × Nat × Nat) : Nat :=
  if P.2.1 < s.1 19 0 then
    (if P.1 = 0 ∧ P.2.2 < 4 then s.1 15 (4 * P.2.1 + P.2.2) else if P.1 = 1 ∧ P.2.2 < 4 then s.1 16 (4 * P.2.1 + P.2.2)
     else if P.1 = 2 ∧ P.2.2 < s.1 22 P.2.1 then s.1 23 (24 * P.2.1 + P.2.2) else if P.1 = 3 ∧ P.2.2 < s.1 24 P.2.1 then s.1 25 (24 * P.2.1 + P.2.2) else 24)
  else 24
theorem ref_0 {s : xS} {c p : Nat} (hc : c < s.1 19 0) (hp : p < 4) : ref s (0, c, p) = s.1 15 (4 * c + p) := by
  unfold ref; rw [if_pos hc, if_pos ⟨rfl, hp⟩]
theorem ref_1 {s : xS} {c p : Nat} (hc : c < s.1 19 0) (hp : p < 4) : ref s (1, c, p) = s.1 16 (4 * c + p) := by
  unfold ref; rw [if_pos hc, if_neg (by simp), if_pos ⟨rfl, hp⟩]
theorem ref_2 {s : xS} {c k : Nat} (hc : c < s.1 19 0) (hk : k < s.1 22 c) : ref s (2, c, k) = s.1 23 (24 * c + k) := by
  unfold ref; rw [if_pos hc, if_neg (by simp), if_neg (by simp), if_pos ⟨rfl, hk⟩]
theorem ref_3 {s : xS} {c k : Nat} (hc : c < s.1 19 0) (hk : k < s.1 24 c) : ref s (3, c, k) = s.1 25 (24 * c + k) := by
  unfold ref; rw [if_pos hc, if_neg (by simp), if_neg (by simp), if_neg (by simp), if_pos ⟨rfl, hk⟩]
/-- the four ways in which a place may be one of a magazine -/
theorem ref_cases {s : xS} {P : Nat × Nat × Nat} (h : ref s P < 24) : P.2.1 < s.1 19 0 ∧ ((P.1 = 0 ∧ P.2.2 < 4 ∧ ref s P = s.1 15 (4 * P.2.1 + P.2.2)) ∨ (P.1 = 1 ∧ P.2.2 < 4 ∧ ref s P = s.1 16 (4 * P.2.1 + P.2.2)) ∨ (P.1 = 2 ∧ P.2.2 < s.1 22 P.2.1 ∧ ref s P = s.1 23 (24 * P.2.1 + P.2.2)) ∨ (P.1 = 3 ∧ P.2.2 < s.1 24 P.2.1 ∧ ref s P = s.1 25 (24 * P.2.1 + P.2.2))) := by
  unfold ref at h ⊢
  by_cases h0 : P.2.1 < s.1 19 0
  · rw [if_pos h0] at h ⊢
    refine ⟨h0, ?_⟩
    by_cases h1 : P.1 = 0 ∧ P.2.2 < 4
    · rw [if_pos h1]; exact Or.inl ⟨h1.1, h1.2, rfl⟩
    · rw [if_neg h1] at h ⊢
      by_cases h2 : P.1 = 1 ∧ P.2.2 < 4
      · rw [if_pos h2]; exact Or.inr (Or.inl ⟨h2.1, h2.2, rfl⟩)
      · rw [if_neg h2] at h ⊢
        by_cases h3 : P.1 = 2 ∧ P.2.2 < s.1 22 P.2.1
        · rw [if_pos h3]; exact Or.inr (Or.inr (Or.inl ⟨h3.1, h3.2, rfl⟩))
        · rw [if_neg h3] at h ⊢
          by_cases h4 : P.1 = 3 ∧ P.2.2 < s.1 24 P.2.1
          · rw [if_pos h4]; exact Or.inr (Or.inr (Or.inr ⟨h4.1, h4.2, rfl⟩))
          · rw [if_neg h4] at h; omega
  · rw [if_neg h0] at h; omega
/-- what is said of the magazine at a place -/
def IP (pl : Nat → Nat × Nat × Nat) (s : xS) (P : Nat × Nat × Nat) (m : Nat) : Prop := pl m = P ∧ s.1 18 m = 1 ∧ (∀ k, k < s.1 20 m → s.1 13 (s.1 21 (8 * m + k) / 62) = P.2.1) ∧ (P.1 = 2 → 0 < s.1 20 m) ∧ (P.1 = 3 → s.1 20 m = 0)
def IR (D : Nat × Nat × Nat → Prop) (pl : Nat → Nat × Nat × Nat) (s : xS) : Prop := ∀ P, ¬ D P → ref s P < 24 → IP pl s P (ref s P)
def IB (s : xS) : Prop := WR0 s
  ∧ (∀ x, x < 1984 → s.1 17 x ≤ 2 ∧ (s.1 17 x ≠ 0 → s.1 13 (x / 62) < 4 ∧ x % 62 < qPer s (s.1 13 (x / 62))))
  ∧ (∀ m, m < 24 → s.1 18 m ≤ 1 ∧ (s.1 18 m = 0 → s.1 20 m = 0) ∧ ∀ k, k < s.1 20 m → s.1 17 (s.1 21 (8 * m + k)) = 2)
  ∧ (∀ m m' k k', m < 24 → m' < 24 → k < s.1 20 m → k' < s.1 20 m' → s.1 21 (8 * m + k) = s.1 21 (8 * m' + k') → m = m' ∧ k = k')
def IC (s : xS) : Prop := ∀ c, c < s.1 19 0 → s.1 5 c ≤ 99 ∧ s.1 7 c ≤ 2 ∧ s.1 8 c ≤ s.1 22 c ∧ s.1 9 c ≤ s.1 24 c
def INV (s : xS) : Prop := IB s ∧ IC s ∧ ∃ pl, IR (fun _ => False) pl s
theorem INV.R {s : xS} (h : INV s) : WR0 s := h.1.1
theorem INV.S {s : xS} (h : INV s) {x : Nat} (hx : x < 1984) : s.1 17 x ≤ 2 := (h.1.2.1 x hx).1
theorem INV.V {s : xS} (h : INV s) {x : Nat} (hx : x < 1984) (h0 : s.1 17 x ≠ 0) : s.1 13 (x / 62) < 4 ∧ x % 62 < qPer s (s.1 13 (x / 62)) := (h.1.2.1 x hx).2 h0
theorem INV.V' {s : xS} (h : INV s) {x : Nat} (hx : x < 1984) (h0 : s.1 17 x ≠ 0) : x % 62 < qPers s (x / 62) := by
  have := h.V hx h0
  unfold qPers; rw [if_pos this.1]; exact this.2
theorem INV.M {s : xS} (h : INV s) {m : Nat} (hm : m < 24) : s.1 18 m ≤ 1 := (h.1.2.2.1 m hm).1
theorem INV.H {s : xS} (h : INV s) {m k : Nat} (hm : m < 24) (hk : k < s.1 20 m) : s.1 17 (s.1 21 (8 * m + k)) = 2 := (h.1.2.2.1 m hm).2.2 k hk
theorem INV.C {s : xS} (h : INV s) {c : Nat} (hc : c < s.1 19 0) : s.1 5 c ≤ 99 ∧ s.1 7 c ≤ 2 ∧ s.1 8 c ≤ s.1 22 c ∧ s.1 9 c ≤ s.1 24 c := h.2.1 c hc
/-- two places of one magazine are one -/
theorem INV.J {s : xS} (h : INV s) {P Q : Nat × Nat × Nat} (h1 : ref s P < 24) (h2 : ref s P = ref s Q) : P = Q := by
  obtain ⟨pl, hp⟩ := h.2.2
  rw [← (hp P id h1).1, h2, (hp Q id (h2 ▸ h1)).1]
theorem INV.P {s : xS} (h : INV s) {P : Nat × Nat × Nat} (h1 : ref s P < 24) : s.1 18 (ref s P) = 1 ∧ (∀ k, k < s.1 20 (ref s P) → s.1 13 (s.1 21 (8 * ref s P + k) / 62) = P.2.1) ∧ (P.1 = 2 → 0 < s.1 20 (ref s P)) ∧ (P.1 = 3 → s.1 20 (ref s P) = 0) := by
  obtain ⟨pl, hp⟩ := h.2.2
  exact (hp P id h1).2
theorem INV.made15 {s : xS} (h : INV s) {c p : Nat} (hc : c < s.1 19 0) (hp : p < 4) : s.1 15 (4 * c + p) < 24 → s.1 18 (s.1 15 (4 * c + p)) = 1 := fun h1 => by
  have := (h.P (P := (0, c, p)) (by rw [ref_0 hc hp]; exact h1)).1
  rwa [ref_0 hc hp] at this
theorem INV.made16 {s : xS} (h : INV s) {c p : Nat} (hc : c < s.1 19 0) (hp : p < 4) : s.1 16 (4 * c + p) < 24 → s.1 18 (s.1 16 (4 * c + p)) = 1 := fun h1 => by
  have := (h.P (P := (1, c, p)) (by rw [ref_1 hc hp]; exact h1)).1
  rwa [ref_1 hc hp] at this
theorem INV.full {s : xS} (h : INV s) {c k : Nat} (hc : c < s.1 19 0) (hk : k < s.1 22 c) : s.1 23 (24 * c + k) < 24 ∧ s.1 18 (s.1 23 (24 * c + k)) = 1 ∧ 0 < s.1 20 (s.1 23 (24 * c + k)) ∧ ∀ j, j < s.1 20 (s.1 23 (24 * c + k)) → s.1 13 (s.1 21 (8 * s.1 23 (24 * c + k) + j) / 62) = c := by
  have h1 := h.R.f hc hk
  have h2 := h.P (P := (2, c, k)) (by rw [ref_2 hc hk]; exact h1)
  rw [ref_2 hc hk] at h2
  exact ⟨h1, h2.1, h2.2.2.1 rfl, h2.2.1⟩
theorem INV.empt {s : xS} (h : INV s) {c k : Nat} (hc : c < s.1 19 0) (hk : k < s.1 24 c) : s.1 25 (24 * c + k) < 24 ∧ s.1 18 (s.1 25 (24 * c + k)) = 1 ∧ s.1 20 (s.1 25 (24 * c + k)) = 0 := by
  have h1 := h.R.e hc hk
  have h2 := h.P (P := (3, c, k)) (by rw [ref_3 hc hk]; exact h1)
  rw [ref_3 hc hk] at h2
  exact ⟨h1, h2.1, h2.2.2.2 rfl⟩
/-- room at the depot for one more that is with a processor -/
theorem INV.room {s : xS} (h : INV s) {c p : Nat} (hc : c < s.1 19 0) (hp : p < 4) (h16 : s.1 16 (4 * c + p) < 24) : s.1 22 c < 24 ∧ s.1 24 c < 24 := by
  constructor
  · have key : s.1 22 c + 1 ≤ 24 := by
      refine fb_holes 24 (s.1 22 c + 1) (fun k => if k < s.1 22 c then s.1 23 (24 * c + k) else s.1 16 (4 * c + p)) (fun i hi => ?_) (fun i j hij hj => ?_)
      · skip
        split
        next h1 => exact h.R.f hc h1
        next => exact h16
      · skip
        rw [if_pos (by omega)]
        intro e
        have hi : i < s.1 22 c := by omega
        have h1 : ref s (2, c, i) < 24 := by rw [ref_2 hc hi]; exact h.R.f hc hi
        by_cases h2 : j < s.1 22 c
        · rw [if_pos h2] at e
          have := h.J (Q := (2, c, j)) h1 (by rw [ref_2 hc hi, ref_2 hc h2]; exact e)
          simp only [Prod.mk.injEq, true_and] at this
          omega
        · rw [if_neg h2] at e
          have := h.J (Q := (1, c, p)) h1 (by rw [ref_2 hc hi, ref_1 hc hp]; exact e)
          simp at this
    omega
  · have key : s.1 24 c + 1 ≤ 24 := by
      refine fb_holes 24 (s.1 24 c + 1) (fun k => if k < s.1 24 c then s.1 25 (24 * c + k) else s.1 16 (4 * c + p)) (fun i hi => ?_) (fun i j hij hj => ?_)
      · skip
        split
        next h1 => exact h.R.e hc h1
        next => exact h16
      · skip
        rw [if_pos (by omega)]
        intro e
        have hi : i < s.1 24 c := by omega
        have h1 : ref s (3, c, i) < 24 := by rw [ref_3 hc hi]; exact h.R.e hc hi
        by_cases h2 : j < s.1 24 c
        · rw [if_pos h2] at e
          have := h.J (Q := (3, c, j)) h1 (by rw [ref_3 hc hi, ref_3 hc h2]; exact e)
          simp only [Prod.mk.injEq, true_and] at this
          omega
        · rw [if_neg h2] at e
          have := h.J (Q := (1, c, p)) h1 (by rw [ref_3 hc hi, ref_1 hc hp]; exact e)
          simp at this
    omega
theorem INV.preT {s : xS} (h : INV s) {c p : Nat} (hc : c < s.1 19 0) (hp : p < 4) : preT s c p := by
  have h1 := h.C hc
  have h2 := h.R.c hc
  exact ⟨fun k hk => (h.full hc hk).2.2.1, fun h16 => (h.room hc hp h16).2, by omega⟩
theorem INV.preG {s : xS} (h : INV s) {c p : Nat} (hc : c < s.1 19 0) (hp : p < 4) : preG s c p := by
  have h1 := h.C hc
  have h2 := h.R.c hc
  exact ⟨fun k hk => (h.empt hc hk).2.2, fun h16 => (h.room hc hp h16).1, by omega, fun m hm => h.M hm⟩
theorem INV.preI {s : xS} (h : INV s) : preI s := fun c hc => ⟨(h.C hc).2.1, (h.C hc).2.2.1, (h.C hc).2.2.2⟩
theorem INV.S' {s : xS} (h : INV s) : ∀ b, b < 1984 → s.1 17 b ≤ 2 := fun _ hx => h.S hx
/-- the latest of a magazine that holds some -/
theorem INV.top {s : xS} (h : INV s) {m : Nat} (hm : m < 24) (h0 : 0 < s.1 20 m) : qTop s m < 1984 ∧ s.1 17 (qTop s m) = 2 ∧ qTop s m % 62 < qPers s (qTop s m / 62) := by
  have h1 := (h.R.top hm h0).1
  have h2 : s.1 17 (qTop s m) = 2 := by
    unfold qTop
    rw [show 8 * m + s.1 20 m - 1 = 8 * m + (s.1 20 m - 1) from by omega]
    exact h.H hm (by omega)
  exact ⟨h1, h2, h.V' h1 (by omega)⟩
/-! keeping it -/
/-- a change that leaves alone the arena, the buffers and what is made -/
theorem IB_c {s t : xS} (h : ∀ q, q = 19 ∨ q = 0 ∨ q = 1 ∨ q = 2 ∨ q = 10 ∨ q = 14 ∨ q = 13 ∨ q = 21 ∨ q = 17 ∨ q = 18 ∨ q = 20 → t.1 q = s.1 q) (h4 : ∀ c, c < s.1 19 0 → 1 ≤ t.1 4 c ∧ t.1 4 c ≤ 8)
    (hf : ∀ c, c < s.1 19 0 → t.1 22 c ≤ 24 ∧ t.1 24 c ≤ 24 ∧ ∀ k, (k < t.1 22 c → t.1 23 (24 * c + k) < 24) ∧ (k < t.1 24 c → t.1 25 (24 * c + k) < 24)) (hB : IB s) : IB t := by
  have eP : qPer t = qPer s := by funext c; unfold qPer; rw [h 1 (by simp)]
  refine ⟨WR0_c (fun q hq => h q (by omega)) h4 (fun m _ => by rw [h 20 (by simp)]; exact Nat.le_refl _) hf hB.1, ?_, ?_, ?_⟩
  · rw [h 17 (by simp), h 13 (by simp), eP]; exact hB.2.1
  · rw [h 17 (by simp), h 18 (by simp), h 20 (by simp), h 21 (by simp)]; exact hB.2.2.1
  · rw [h 20 (by simp), h 21 (by simp)]; exact hB.2.2.2
theorem IB.fe {s : xS} (hB : IB s) : ∀ c, c < s.1 19 0 → s.1 22 c ≤ 24 ∧ s.1 24 c ≤ 24 ∧ ∀ k, (k < s.1 22 c → s.1 23 (24 * c + k) < 24) ∧ (k < s.1 24 c → s.1 25 (24 * c + k) < 24) := hB.1.fe
theorem IB.r4 {s : xS} (hB : IB s) : ∀ c, c < s.1 19 0 → 1 ≤ s.1 4 c ∧ s.1 4 c ≤ 8 := fun c hc => by have := hB.1.c hc; omega
/-- a change of numbers that nothing hangs on -/
theorem IB.set {s : xS} (hB : IB s) {q j v : Nat} (hq : q = 5 ∨ q = 6 ∨ q = 7 ∨ q = 8 ∨ q = 9 ∨ q = 11 ∨ q = 12 ∨ q = 15 ∨ q = 16 ∨ q = 26) : IB (sA s q j v) := by
  have e : ∀ q', q' ≠ q → (sA s q j v).1 q' = s.1 q' := fun q' h => sA_n h
  refine IB_c (fun q' h => e q' (by omega)) (fun c hc => ?_) (fun c hc => ?_) hB
  · rw [e 4 (by omega)]; exact hB.r4 c hc
  · rw [e 22 (by omega), e 23 (by omega), e 24 (by omega), e 25 (by omega)]; exact hB.fe c hc
theorem IP_c {pl : Nat → Nat × Nat × Nat} {s t : xS} {P : Nat × Nat × Nat} {m : Nat} (h18 : t.1 18 m = s.1 18 m) (h20 : t.1 20 m = s.1 20 m) (h21 : ∀ k, k < s.1 20 m → t.1 21 (8 * m + k) = s.1 21 (8 * m + k)) (h13 : t.1 13 = s.1 13) (h : IP pl s P m) : IP pl t P m := by
  refine ⟨h.1, by rw [h18]; exact h.2.1, fun k hk => ?_, by rw [h20]; exact h.2.2.2.1, by rw [h20]; exact h.2.2.2.2⟩
  rw [h20] at hk
  rw [h21 k hk, h13]; exact h.2.2.1 k hk
theorem ref_c {s t : xS} (h : ∀ q, q = 19 ∨ q = 15 ∨ q = 16 ∨ q = 22 ∨ q = 23 ∨ q = 24 ∨ q = 25 → t.1 q = s.1 q) : ref t = ref s := by
  funext P
  unfold ref
  rw [h 19 (by simp), h 15 (by simp), h 16 (by simp), h 22 (by simp), h 23 (by simp), h 24 (by simp), h 25 (by simp)]
theorem IR_c {D : Nat × Nat × Nat → Prop} {pl : Nat → Nat × Nat × Nat} {s t : xS} (h : ∀ q, q = 19 ∨ q = 15 ∨ q = 16 ∨ q = 22 ∨ q = 23 ∨ q = 24 ∨ q = 25 ∨ q = 18 ∨ q = 20 ∨ q = 21 ∨ q = 13 → t.1 q = s.1 q) (hI : IR D pl s) : IR D pl t := by
  intro P hD hP
  rw [ref_c (fun q hq => h q (by omega))] at hP ⊢
  exact IP_c (by rw [h 18 (by simp)]) (by rw [h 20 (by simp)]) (fun k _ => by rw [h 21 (by simp)]) (h 13 (by simp)) (hI P hD hP)
theorem INV.wW {s : xS} (h : INV s) {x : Nat} {w : Int32} : INV (sW s x w) := h
theorem INV.wT {s : xS} (h : INV s) {c : Nat} {w : Int64} : INV (sT s c w) := h
/-- numbers of a cache that are free -/
theorem INV.set {s : xS} (h : INV s) {q j v : Nat} (hq : q = 6 ∨ q = 11 ∨ q = 12 ∨ q = 26) : INV (sA s q j v) := by
  have e : ∀ q', q' ≠ q → (sA s q j v).1 q' = s.1 q' := fun q' h => sA_n h
  refine ⟨h.1.set (by omega), ?_, ?_⟩
  · intro c hc
    rw [e 19 (by omega)] at hc
    rw [e 5 (by omega), e 7 (by omega), e 8 (by omega), e 22 (by omega), e 9 (by omega), e 24 (by omega)]
    exact h.C hc
  · obtain ⟨pl, hp⟩ := h.2.2
    exact ⟨pl, IR_c (fun q' hq' => e q' (by omega)) hp⟩
theorem IB.s19 {s : xS} (hB : IB s) {j v : Nat} (hj : j ≠ 0) : IB (sA s 19 j v) := by
  have e : ∀ q, q ≠ 19 → (sA s 19 j v).1 q = s.1 q := fun q hq => sA_n hq
  have e0 : (sA s 19 j v).1 19 0 = s.1 19 0 := by rw [sA_1, if_neg (fun e => hj e.2.symm)]
  have eP : qPer (sA s 19 j v) = qPer s := qPer_c (by decide)
  unfold IB WR0 at hB ⊢
  rw [e0, eP]
  simp only [e _ (show (0 : Nat) ≠ 19 by decide), e _ (show (1 : Nat) ≠ 19 by decide), e _ (show (2 : Nat) ≠ 19 by decide), e _ (show (4 : Nat) ≠ 19 by decide), e _ (show (10 : Nat) ≠ 19 by decide), e _ (show (22 : Nat) ≠ 19 by decide), e _ (show (24 : Nat) ≠ 19 by decide), e _ (show (14 : Nat) ≠ 19 by decide), e _ (show (13 : Nat) ≠ 19 by decide), e _ (show (20 : Nat) ≠ 19 by decide), e _ (show (21 : Nat) ≠ 19 by decide), e _ (show (23 : Nat) ≠ 19 by decide), e _ (show (25 : Nat) ≠ 19 by decide), e _ (show (17 : Nat) ≠ 19 by decide), e _ (show (18 : Nat) ≠ 19 by decide)]
  exact hB
theorem ref_19 {s : xS} {j v : Nat} (hj : j ≠ 0) : ref (sA s 19 j v) = ref s := by
  have e : ∀ q, q ≠ 19 → (sA s 19 j v).1 q = s.1 q := fun q hq => sA_n hq
  have e0 : (sA s 19 j v).1 19 0 = s.1 19 0 := by rw [sA_1, if_neg (fun e => hj e.2.symm)]
  funext P
  unfold ref
  rw [e0, e 15 (by decide), e 16 (by decide), e 22 (by decide), e 23 (by decide), e 24 (by decide), e 25 (by decide)]
theorem INV.s19 {s : xS} (h : INV s) {j v : Nat} (hj : j ≠ 0) : INV (sA s 19 j v) := by
  have e : ∀ q, q ≠ 19 → (sA s 19 j v).1 q = s.1 q := fun q hq => sA_n hq
  have e0 : (sA s 19 j v).1 19 0 = s.1 19 0 := by rw [sA_1, if_neg (fun e => hj e.2.symm)]
  refine ⟨h.1.s19 hj, ?_, ?_⟩
  · intro c hc
    rw [e0] at hc
    rw [e 5 (by decide), e 7 (by decide), e 8 (by decide), e 22 (by decide), e 9 (by decide), e 24 (by decide)]
    exact h.C hc
  · obtain ⟨pl, hp⟩ := h.2.2
    refine ⟨pl, fun P hD hP => ?_⟩
    rw [ref_19 hj] at hP ⊢
    exact IP_c (by rw [e 18 (by decide)]) (by rw [e 20 (by decide)]) (fun k _ => by rw [e 21 (by decide)]) (e 13 (by decide)) (hp P hD hP)
theorem INV.vis {s : xS} (h : INV s) {c : Nat} : INV (sVis s c) := (h.set (by simp)).s19 (by decide)
theorem INV.lim {s : xS} (h : INV s) {c v : Nat} (hv : v ≤ 99) : INV (sA s 5 c v) := by
  have e : ∀ q', q' ≠ 5 → (sA s 5 c v).1 q' = s.1 q' := fun q' h => sA_n h
  refine ⟨h.1.set (by simp), ?_, ?_⟩
  · intro c' hc
    rw [e 19 (by decide)] at hc
    rw [e 7 (by decide), e 8 (by decide), e 22 (by decide), e 9 (by decide), e 24 (by decide)]
    refine ⟨?_, (h.C hc).2⟩
    rw [sA_1]; split
    · exact hv
    · exact (h.C hc).1
  · obtain ⟨pl, hp⟩ := h.2.2
    exact ⟨pl, IR_c (fun q' hq' => e q' (by omega)) hp⟩
/-- new references: where each magazine is told from an earlier place -/
theorem INV_move {s t : xS} (h : INV s) (pl' : Nat → Nat × Nat × Nat)
    (hq : ∀ q, q = 19 ∨ q = 0 ∨ q = 1 ∨ q = 2 ∨ q = 10 ∨ q = 14 ∨ q = 13 ∨ q = 21 ∨ q = 17 ∨ q = 18 ∨ q = 20 ∨ q = 4 → t.1 q = s.1 q)
    (hf : ∀ c, c < s.1 19 0 → t.1 22 c ≤ 24 ∧ t.1 24 c ≤ 24 ∧ ∀ k, (k < t.1 22 c → t.1 23 (24 * c + k) < 24) ∧ (k < t.1 24 c → t.1 25 (24 * c + k) < 24))
    (hC : ∀ c, c < s.1 19 0 → t.1 5 c ≤ 99 ∧ t.1 7 c ≤ 2 ∧ t.1 8 c ≤ t.1 22 c ∧ t.1 9 c ≤ t.1 24 c)
    (hr : ∀ P, ref t P < 24 → pl' (ref t P) = P ∧ (∃ Q, Q.2.1 = P.2.1 ∧ ref s Q = ref t P) ∧ (P.1 = 2 → 0 < s.1 20 (ref t P)) ∧ (P.1 = 3 → s.1 20 (ref t P) = 0)) : INV t := by
  refine ⟨IB_c (fun q h => hq q (by omega)) (fun c hc => by rw [hq 4 (by simp)]; exact h.1.r4 c hc) hf h.1, ?_, pl', ?_⟩
  · intro c hc
    rw [hq 19 (by simp)] at hc
    exact hC c hc
  · intro P _ hP
    obtain ⟨h1, ⟨Q, h2, h3⟩, h4, h5⟩ := hr P hP
    have h6 := h.P (P := Q) (by rw [h3]; exact hP)
    rw [h3, h2] at h6
    unfold IP
    rw [hq 18 (by simp), hq 20 (by simp), hq 21 (by simp), hq 13 (by simp)]
    exact ⟨h1, h6.1, h6.2.1, h4, h5⟩
