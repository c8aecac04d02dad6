/-! unmakings and intervals of both -/
/-- what an unmaking asks: ranges -/
theorem EQs.emL {m : Nat} (hm : m < 24) : ∀ {d k : Nat} {s t : xS}, EQs s t → WR0 s → k + d ≤ s.1 20 m → EQs (sEmL s m d k) (sEmL t m d k) := by
  intro d
  induction d with
  | zero => intro k s t h _ _; exact h
  | succ d ih =>
    intro k s t h hR hk
    have h1 := hR.m hm
    have h2 := h1.2 k (by omega)
    have h4 : s.1 13 (s.1 21 (8 * m + k) / 62) < 4 := by have := hR.n; omega
    unfold sEmL
    rw [h.row hm (by omega) (by omega)]
    have e := fun q (a1 : q ≠ 17) (a2 : q ≠ 12) => @sEnd_1 s (s.1 21 (8 * m + k)) q a1 a2
    refine ih (h.endb hR h2.1 h4) ?_ (by rw [e 20 (by decide) (by decide)]; omega)
    exact WR0_c (fun q hq => e q (by omega) (by omega)) (fun c hc => by rw [e 4 (by decide) (by decide)]; have := hR.c hc; omega) (fun i _ => by rw [e 20 (by decide) (by decide)]; exact Nat.le_refl _) (fun c hc => by rw [e 22 (by decide) (by decide), e 23 (by decide) (by decide), e 24 (by decide) (by decide), e 25 (by decide) (by decide)]; exact hR.fe c hc) hR
theorem EQs.emp {s t : xS} (h : EQs s t) (hR : WR0 s) {m : Nat} : EQs (sEmp s m) (sEmp t m) := by
  unfold sEmp
  by_cases hm : m < 24
  · rw [if_pos hm, if_pos hm, h.m (Or.inr rfl) hm]
    have h1 := h.emL hm hR (d := s.1 20 m) (k := 0) (by omega)
    exact (h1.s20 (fun k hk _ => by omega)).set (by simp) (by decide) (by decide) (by decide)
  · rw [if_neg hm, if_neg hm]; exact h
theorem EQs.len {s t : xS} (h : EQs s t) {m : Nat} : qLen t m = qLen s m := by
  unfold qLen
  by_cases hm : m < 24
  · rw [if_pos hm, if_pos hm, h.m (Or.inr rfl) hm]
  · rw [if_neg hm, if_neg hm]
theorem EQs.unF {c : Nat} : ∀ {d k : Nat} {s t : xS}, EQs s t → WR0 s → c < s.1 19 0 → k + d ≤ s.1 22 c → EQs (sUnF s c d k) (sUnF t c d k) := by
  intro d
  induction d with
  | zero => intro k s t h _ _ _; exact h
  | succ d ih =>
    intro k s t h hR hc hk
    have h1 := hR.fe c hc
    unfold sUnF
    rw [h.r23 hc (by omega) (by omega)]
    exact ih (h.emp hR) (hR.emp _) (by rw [sEmp_1 (by decide) (by decide) (by decide) (by decide)]; exact hc) (by rw [sEmp_1 (by decide) (by decide) (by decide) (by decide)]; omega)
theorem EQs.shF {c n : Nat} : ∀ {d k : Nat} {s t : xS}, EQs s t → c < s.1 19 0 → k + d ≤ s.1 22 c → s.1 22 c ≤ 24 → EQs (sShF s c n d k) (sShF t c n d k) := by
  intro d
  induction d with
  | zero => intro k s t h _ _ _; exact h
  | succ d ih =>
    intro k s t h hc hk h24
    unfold sShF
    rw [h.r23 hc (by omega) (by omega)]
    exact ih (h.set (by simp) (by decide) (by decide) (by decide)) (by rw [sA_n (by decide)]; exact hc) (by rw [sA_n (by decide)]; omega) (by rw [sA_n (by decide)]; exact h24)
theorem EQs.ufF {s t : xS} (h : EQs s t) (hR : WR0 s) {c n : Nat} (hc : c < s.1 19 0) (hn : n ≤ s.1 22 c) : EQs (sUFF s c n) (sUFF t c n) := by
  have hfe := hR.fe c hc
  have h1 := h.unF (d := n) (k := 0) hR hc (by omega)
  have e : ∀ q, q ≠ 17 → q ≠ 12 → q ≠ 20 → q ≠ 18 → (sUnF s c n 0).1 q = s.1 q := fun q a1 a2 a3 a4 => sUnF_1 a1 a2 a3 a4
  unfold sUFF
  rw [h.d (q := 22) (by simp) hc]
  have h2 := h1.shF (n := n) (d := s.1 22 c - n) (k := n) (c := c) (by rw [e 19 (by decide) (by decide) (by decide) (by decide)]; exact hc) (by rw [e 22 (by decide) (by decide) (by decide) (by decide)]; omega) (by rw [e 22 (by decide) (by decide) (by decide) (by decide)]; omega)
  refine h2.s22 (fun k hk h24 => h2.r23 ?_ ?_ h24)
  · rw [sShF_1 (Nat.le_refl _), if_neg (by simp), e 19 (by decide) (by decide) (by decide) (by decide)]; exact hc
  · rw [sShF_1 (Nat.le_refl _), if_neg (by simp), e 22 (by decide) (by decide) (by decide) (by decide)]; omega
theorem EQs.unE {c : Nat} : ∀ {d k : Nat} {s t : xS}, EQs s t → WR0 s → c < s.1 19 0 → k + d ≤ s.1 24 c → EQs (sUnE s c d k) (sUnE t c d k) := by
  intro d
  induction d with
  | zero => intro k s t h _ _ _; exact h
  | succ d ih =>
    intro k s t h hR hc hk
    have h1 := hR.fe c hc
    unfold sUnE
    rw [h.r25 hc (by omega) (by omega)]
    exact ih (h.emp hR) (hR.emp _) (by rw [sEmp_1 (by decide) (by decide) (by decide) (by decide)]; exact hc) (by rw [sEmp_1 (by decide) (by decide) (by decide) (by decide)]; omega)
theorem EQs.shE {c n : Nat} : ∀ {d k : Nat} {s t : xS}, EQs s t → c < s.1 19 0 → k + d ≤ s.1 24 c → s.1 24 c ≤ 24 → EQs (sShE s c n d k) (sShE t c n d k) := by
  intro d
  induction d with
  | zero => intro k s t h _ _ _; exact h
  | succ d ih =>
    intro k s t h hc hk h24
    unfold sShE
    rw [h.r25 hc (by omega) (by omega)]
    exact ih (h.set (by simp) (by decide) (by decide) (by decide)) (by rw [sA_n (by decide)]; exact hc) (by rw [sA_n (by decide)]; omega) (by rw [sA_n (by decide)]; exact h24)
theorem EQs.ufE {s t : xS} (h : EQs s t) (hR : WR0 s) {c n : Nat} (hc : c < s.1 19 0) (hn : n ≤ s.1 24 c) : EQs (sUFE s c n) (sUFE t c n) := by
  have hfe := hR.fe c hc
  have h1 := h.unE (d := n) (k := 0) hR hc (by omega)
  have e : ∀ q, q ≠ 17 → q ≠ 12 → q ≠ 20 → q ≠ 18 → (sUnE s c n 0).1 q = s.1 q := fun q a1 a2 a3 a4 => sUnE_1 a1 a2 a3 a4
  unfold sUFE
  rw [h.d (q := 24) (by simp) hc]
  have h2 := h1.shE (n := n) (d := s.1 24 c - n) (k := n) (c := c) (by rw [e 19 (by decide) (by decide) (by decide) (by decide)]; exact hc) (by rw [e 24 (by decide) (by decide) (by decide) (by decide)]; omega) (by rw [e 24 (by decide) (by decide) (by decide) (by decide)]; omega)
  refine h2.s24 (fun k hk h24 => h2.r25 ?_ ?_ h24)
  · rw [sShE_1 (Nat.le_refl _), if_neg (by simp), e 19 (by decide) (by decide) (by decide) (by decide)]; exact hc
  · rw [sShE_1 (Nat.le_refl _), if_neg (by simp), e 24 (by decide) (by decide) (by decide) (by decide)]; omega
theorem EQs.dr {s t : xS} (h : EQs s t) (hR : WR0 s) {i : Nat} (hi : i < 4 * s.1 19 0) : EQs (sDr s i) (sDr t i) := by
  unfold sDr
  rw [h.l (q := 15) (Or.inl rfl) hi, h.l (q := 16) (Or.inr rfl) hi]
  exact (((h.emp hR).emp (hR.emp _)).set (by simp) (by decide) (by decide) (by decide)).set (by simp) (by decide) (by decide) (by decide)
theorem EQs.drs {c : Nat} : ∀ {d p : Nat} {s t : xS}, EQs s t → WR0 s → c < s.1 19 0 → p + d ≤ 4 → EQs (sDrs s c d p) (sDrs t c d p) := by
  intro d
  induction d with
  | zero => intro p s t h _ _ _; exact h
  | succ d ih =>
    intro p s t h hR hc hp
    unfold sDrs
    exact ih (h.dr hR (by omega)) (hR.dr _) (by rw [sDr_1 (by simp) (by simp) (by simp) (by simp) (by simp) (by simp)]; exact hc) (by omega)
theorem EQs.ua {s t : xS} (h : EQs s t) (hR : WR0 s) {c : Nat} (hc : c < s.1 19 0) : EQs (sUA s c) (sUA t c) := by
  have h1 := h.drs (d := 4) (p := 0) hR hc (by omega)
  have r1 : WR0 (sDrs s c 4 0) := hR.drs
  have e : ∀ q, q ≠ 17 → q ≠ 12 → q ≠ 20 → q ≠ 18 → q ≠ 15 → q ≠ 16 → (sDrs s c 4 0).1 q = s.1 q := fun q a1 a2 a3 a4 a5 a6 => sDrs_1 a1 a2 a3 a4 a5 a6
  unfold sUA
  rw [h.d (q := 22) (by simp) hc, h.d (q := 24) (by simp) hc]
  have e19 := e 19 (by decide) (by decide) (by decide) (by decide) (by decide) (by decide)
  have h2 := h1.ufF r1 (c := c) (n := s.1 22 c) (by rw [e19]; exact hc) (by rw [e 22 (by decide) (by decide) (by decide) (by decide) (by decide) (by decide)]; exact Nat.le_refl _)
  have r2 := r1.ufF (c := c) (n := s.1 22 c) (by rw [e19]; exact hc) (by rw [e 22 (by decide) (by decide) (by decide) (by decide) (by decide) (by decide)]; exact Nat.le_refl _)
  refine h2.ufE r2 ?_ ?_
  · rw [sUFF_1 (by simp) (by simp) (by simp) (by simp) (by simp) (by simp), e19]; exact hc
  · rw [sUFF_1 (by simp) (by simp) (by simp) (by simp) (by simp) (by simp), e 24 (by decide) (by decide) (by decide) (by decide) (by decide) (by decide)]; exact Nat.le_refl _
theorem EQs.rez {s t : xS} (h : EQs s t) (hR : WR0 s) {c : Nat} (hc : c < s.1 19 0) : EQs (sRez s c) (sRez t c) := by
  have hq := hR.c hc
  have h1 : EQs (sRz1 s c) (sRz1 t c) := by
    unfold sRz1
    rw [h.c (q := 6) (by decide) (by decide) hc, h.c (q := 5) (by decide) (by decide) hc, h.c (q := 4) (by decide) (by decide) hc]
    split
    · exact h
    next h8 =>
      have h9 : ¬ 8 ≤ s.1 4 c := fun e => h8 (Or.inr e)
      have h5 : EQs (sA s 4 c (s.1 4 c + 1)) (sA t 4 c (s.1 4 c + 1)) := h.set (by simp) (by decide) (by decide) (by decide)
      exact h5.ua (hR.set4 (by omega) (by omega)) (by rw [sA_n (by decide)]; exact hc)
  have r1 := hR.rz1 hc
  have e19 : (sRz1 s c).1 19 = s.1 19 := sRz1_1 (by simp) (by simp) (by simp) (by simp) (by simp) (by simp) (by simp) (by simp) (by simp) (by simp) (by simp)
  have hc1 : c < (sRz1 s c).1 19 0 := by rw [e19]; exact hc
  have h2 : EQs (sRz2 (sRz1 s c) c) (sRz2 (sRz1 t c) c) := by
    unfold sRz2
    rw [h1.c (q := 6) (by decide) (by decide) hc1, h1.c (q := 7) (by decide) (by decide) hc1]
    exact h1.set (by simp) (by decide) (by decide) (by decide)
  have r2 : WR0 (sRz2 (sRz1 s c) c) := r1.setq (by simp)
  have hc2 : c < (sRz2 (sRz1 s c) c).1 19 0 := by unfold sRz2; rw [sA_n (by decide)]; exact hc1
  unfold sRez
  generalize sRz2 (sRz1 s c) c = u at h2 r2 hc2
  generalize sRz2 (sRz1 t c) c = v at h2
  have hq2 := r2.c hc2
  unfold sRz3
  rw [h2.c (q := 7) (by decide) (by decide) hc2, h2.c (q := 4) (by decide) (by decide) hc2]
  have h3 : EQs (sA u 7 c 0) (sA v 7 c 0) := h2.set (by simp) (by decide) (by decide) (by decide)
  split
  · split
    · exact h3
    · have h4 : EQs (sA (sA u 7 c 0) 4 c (u.1 4 c - 1)) (sA (sA v 7 c 0) 4 c (u.1 4 c - 1)) := h3.set (by simp) (by decide) (by decide) (by decide)
      exact h4.ua ((r2.setq (by simp)).set4 (by omega) (by omega)) (by rw [sA_n (by decide), sA_n (by decide)]; exact hc2)
  · exact h2
theorem EQs.in {s t : xS} (h : EQs s t) (hI : INV s) {c : Nat} (hc : c < s.1 19 0) : EQs (sIn2 (sIn1 s c) c) (sIn2 (sIn1 t c) c) := by
  have hR := hI.R
  have hC := hI.C hc
  have h1 := h.ufF hR hc hC.2.2.1
  have e1 : (sUFF s c (s.1 8 c)).1 19 = s.1 19 := sUFF_1 (by simp) (by simp) (by simp) (by simp) (by simp) (by simp)
  have e24 : (sUFF s c (s.1 8 c)).1 24 = s.1 24 := sUFF_1 (by simp) (by simp) (by simp) (by simp) (by simp) (by simp)
  have r1 := hR.ufF hc hC.2.2.1
  have h2 := h1.ufE r1 (c := c) (n := s.1 9 c) (by rw [e1]; exact hc) (by rw [e24]; exact hC.2.2.2)
  have r2 := r1.ufE (c := c) (n := s.1 9 c) (by rw [e1]; exact hc) (by rw [e24]; exact hC.2.2.2)
  have e2 : (sUFE (sUFF s c (s.1 8 c)) c (s.1 9 c)).1 19 = s.1 19 := by rw [sUFE_1 (by simp) (by simp) (by simp) (by simp) (by simp) (by simp), e1]
  have h3 : EQs (sIn1 s c) (sIn1 t c) := by
    unfold sIn1
    rw [h.c (q := 8) (by decide) (by decide) hc, h.c (q := 9) (by decide) (by decide) hc]
    exact h2.rez r2 (by rw [e2]; exact hc)
  have e3 : (sIn1 s c).1 19 = s.1 19 := sIn1_19
  unfold sIn2
  rw [h3.d (q := 22) (by simp) (by rw [e3]; exact hc), h3.d (q := 24) (by simp) (by rw [e3]; exact hc)]
  exact ((h3.set (by simp) (by decide) (by decide) (by decide)).set (by simp) (by decide) (by decide) (by decide)).set (by simp) (by decide) (by decide) (by decide)
theorem EQs.int : ∀ {d c : Nat} {s t : xS}, EQs s t → INV s → c + d ≤ s.1 19 0 → EQs (sInt s d c) (sInt t d c) := by
  intro d
  induction d with
  | zero => intro c s t h _ _; exact h
  | succ d ih =>
    intro c s t h hI hc
    unfold sInt
    exact ih (h.in hI (by omega)) (hI.in (by omega)) (by rw [sIn2_19, sIn1_19]; omega)
theorem EQs.tick {s t : xS} (h : EQs s t) (hI : INV s) : EQs (sTick s) (sTick t) := by
  unfold sTick
  rw [h.n (j := 1) (by decide), h.n (j := 0) (by decide)]
  have h1 : EQs (sA s 19 1 (s.1 19 1 + 1)) (sA t 19 1 (s.1 19 1 + 1)) := h.set (by simp) (by decide) (by decide) (by decide)
  exact h1.int (hI.s19 (by decide)) (by rw [sA_1, if_neg (by simp)]; omega)
theorem EQs.made18 {s t : xS} (h : EQs s t) : qMade t = qMade s := by
  have key : ∀ d i, i + d ≤ 24 → qSum (t.1 18) d i = qSum (s.1 18) d i := by
    intro d
    induction d with
    | zero => intro i _; rfl
    | succ d ih =>
      intro i hi
      show t.1 18 i + qSum (t.1 18) d (i + 1) = s.1 18 i + qSum (s.1 18) d (i + 1)
      rw [h.m (Or.inl rfl) (by omega), ih (i + 1) (by omega)]
  exact key 24 0 (by omega)
/-- what holds of one holds of the other -/
theorem EQs.ref {s t : xS} (h : EQs s t) (hR : WR0 s) : ref t = ref s := by
  funext P
  unfold CMagazineDepotLaw_law_r3688_8f2f58.ref
  rw [h.n (j := 0) (by decide)]
  by_cases h0 : P.2.1 < s.1 19 0
  · have hfe := hR.fe _ h0
    rw [if_pos h0, if_pos h0, h.d (q := 22) (by simp) h0, h.d (q := 24) (by simp) h0]
    by_cases h1 : P.1 = 0 ∧ P.2.2 < 4
    · rw [if_pos h1, if_pos h1]; exact h.l (Or.inl rfl) (by omega)
    · rw [if_neg h1, if_neg h1]
      by_cases h2 : P.1 = 1 ∧ P.2.2 < 4
      · rw [if_pos h2, if_pos h2]; exact h.l (Or.inr rfl) (by omega)
      · rw [if_neg h2, if_neg h2]
        by_cases h3 : P.1 = 2 ∧ P.2.2 < s.1 22 P.2.1
        · rw [if_pos h3, if_pos h3]; exact h.r23 h0 h3.2 (by omega)
        · rw [if_neg h3, if_neg h3]
          by_cases h4 : P.1 = 3 ∧ P.2.2 < s.1 24 P.2.1
          · rw [if_pos h4, if_pos h4]; exact h.r25 h0 h4.2 (by omega)
          · rw [if_neg h4, if_neg h4]
  · rw [if_neg h0, if_neg h0]
theorem EQs.inv {s t : xS} (h : EQs s t) (hI : INV s) : INV t := by
  have hR := hI.R
  have hn := hR.n
  have n0 := h.n (j := 0) (by decide)
  have e20 : ∀ m, m < 24 → t.1 20 m = s.1 20 m := fun m hm => h.m (Or.inr rfl) hm
  have er : ∀ m k, m < 24 → k < s.1 20 m → t.1 21 (8 * m + k) = s.1 21 (8 * m + k) := fun m k hm hk => h.row hm hk (by have := (hR.m hm).1; omega)
  have e13 : ∀ x, x < 1984 → t.1 13 (x / 62) = s.1 13 (x / 62) := fun x hx => h.p (Or.inl rfl) (by omega)
  refine ⟨⟨⟨by rw [n0]; exact hn, ?_, ?_, ?_, ?_⟩, ?_, ?_, ?_⟩, ?_, ?_⟩
  · intro c hc
    rw [n0] at hc
    rw [h.per hc, h.c (q := 0) (by decide) (by decide) hc, h.c (q := 1) (by decide) (by decide) hc, h.c (q := 2) (by decide) (by decide) hc, h.c (q := 4) (by decide) (by decide) hc, h.c (q := 10) (by decide) (by decide) hc, h.d (q := 22) (by simp) hc, h.d (q := 24) (by simp) hc]
    exact hR.c hc
  · intro p hp
    rw [h.p (q := 13) (Or.inl rfl) hp, h.p (q := 14) (Or.inr rfl) hp, n0]
    have h1 := hR.p hp
    refine ⟨h1.1, fun h4 => ?_⟩
    rw [h.per (h1.2 h4).1, h.c (q := 1) (by decide) (by decide) (h1.2 h4).1]
    exact h1.2 h4
  · intro m hm
    rw [e20 m hm, n0]
    have h1 := hR.m hm
    refine ⟨h1.1, fun k hk => ?_⟩
    rw [er m k hm hk, e13 _ (h1.2 k hk).1]
    exact h1.2 k hk
  · intro c hc k
    rw [n0] at hc
    rw [h.d (q := 22) (by simp) hc, h.d (q := 24) (by simp) hc]
    have h1 := hR.fe c hc
    refine ⟨fun hk => ?_, fun hk => ?_⟩
    · rw [h.r23 hc hk (by omega)]; exact (h1.2.2 k).1 hk
    · rw [h.r25 hc hk (by omega)]; exact (h1.2.2 k).2 hk
  · intro x hx
    rw [h.x hx, e13 x hx]
    have h1 := hI.1.2.1 x hx
    refine ⟨h1.1, fun h0 => ?_⟩
    have h2 := h1.2 h0
    rw [h.per (hR.pg (p := x / 62) (by omega) h2.1).1]
    exact h2
  · intro m hm
    rw [h.m (q := 18) (Or.inl rfl) hm, e20 m hm]
    have h1 := hI.1.2.2.1 m hm
    refine ⟨h1.1, h1.2.1, fun k hk => ?_⟩
    rw [er m k hm hk, h.x ((hR.m hm).2 k hk).1]
    exact h1.2.2 k hk
  · intro m m' k k' hm hm' hk hk' he
    rw [e20 m hm] at hk
    rw [e20 m' hm'] at hk'
    rw [er m k hm hk, er m' k' hm' hk'] at he
    exact hI.1.2.2.2 m m' k k' hm hm' hk hk' he
  · intro c hc
    rw [n0] at hc
    rw [h.c (q := 5) (by decide) (by decide) hc, h.c (q := 7) (by decide) (by decide) hc, h.c (q := 8) (by decide) (by decide) hc, h.c (q := 9) (by decide) (by decide) hc, h.d (q := 22) (by simp) hc, h.d (q := 24) (by simp) hc]
    exact hI.C hc
  · obtain ⟨pl, hpl⟩ := hI.2.2
    refine ⟨pl, fun P hD hP => ?_⟩
    rw [h.ref hR] at hP ⊢
    have h1 := hpl P hD hP
    refine ⟨h1.1, by rw [h.m (Or.inl rfl) hP]; exact h1.2.1, fun k hk => ?_, by rw [e20 _ hP]; exact h1.2.2.2.1, by rw [e20 _ hP]; exact h1.2.2.2.2⟩
    rw [e20 _ hP] at hk
    rw [er _ k hP hk, e13 _ ((hR.m hP).2 k hk).1]
    exact h1.2.2.1 k hk
