/-! what holds is kept: buffers -/
theorem qPer_d {s t : xS} (h : t.1 1 = s.1 1) : qPer t = qPer s := by funext c; unfold qPer; rw [h]
/-- the arena's side of a change of one buffer's state -/
theorem IB_17 {s t : xS} {x v : Nat} (hB : IB s) (hq : ∀ q, q ≠ 17 → q ≠ 12 → q ≠ 11 → t.1 q = s.1 q) (h17 : ∀ y, t.1 17 y = if y = x then v else s.1 17 y) (hv : v ≤ 2)
    (hx : v ≠ 0 → s.1 13 (x / 62) < 4 ∧ x % 62 < qPer s (s.1 13 (x / 62))) (hno : v ≠ 2 → ∀ m k, m < 24 → k < s.1 20 m → s.1 21 (8 * m + k) ≠ x) : IB t := by
  have e : ∀ q, q ≠ 17 → q ≠ 12 → q ≠ 11 → t.1 q = s.1 q := hq
  have eP := qPer_d (e 1 (by decide) (by decide) (by decide))
  refine ⟨WR0_c (fun q hq => e q (by omega) (by omega) (by omega)) (fun c hc => by rw [e 4 (by decide) (by decide) (by decide)]; exact hB.r4 c hc) (fun m _ => by rw [e 20 (by decide) (by decide) (by decide)]; exact Nat.le_refl _) (fun c hc => by rw [e 22 (by decide) (by decide) (by decide), e 23 (by decide) (by decide) (by decide), e 24 (by decide) (by decide) (by decide), e 25 (by decide) (by decide) (by decide)]; exact hB.fe c hc) hB.1, ?_, ?_, ?_⟩
  · intro y hy
    rw [h17, e 13 (by decide) (by decide) (by decide), eP]
    by_cases h : y = x
    · subst h; rw [if_pos rfl]; exact ⟨hv, hx⟩
    · rw [if_neg h]; exact hB.2.1 y hy
  · intro m hm
    rw [e 18 (by decide) (by decide) (by decide), e 20 (by decide) (by decide) (by decide), e 21 (by decide) (by decide) (by decide)]
    have h1 := hB.2.2.1 m hm
    refine ⟨h1.1, h1.2.1, fun k hk => ?_⟩
    rw [h17]
    by_cases h2 : v = 2
    · subst h2; split
      · rfl
      · exact h1.2.2 k hk
    · rw [if_neg (hno h2 m k hm hk)]; exact h1.2.2 k hk
  · rw [e 20 (by decide) (by decide) (by decide), e 21 (by decide) (by decide) (by decide)]; exact hB.2.2.2
theorem INV_17 {s t : xS} {x v : Nat} (h : INV s) (hq : ∀ q, q ≠ 17 → q ≠ 12 → q ≠ 11 → t.1 q = s.1 q) (h17 : ∀ y, t.1 17 y = if y = x then v else s.1 17 y) (hv : v ≤ 2)
    (hx : v ≠ 0 → s.1 13 (x / 62) < 4 ∧ x % 62 < qPer s (s.1 13 (x / 62))) (hno : v ≠ 2 → ∀ m k, m < 24 → k < s.1 20 m → s.1 21 (8 * m + k) ≠ x) : INV t := by
  refine ⟨IB_17 h.1 hq h17 hv hx hno, ?_, ?_⟩
  · intro c hc
    rw [hq 19 (by decide) (by decide) (by decide)] at hc
    rw [hq 5 (by decide) (by decide) (by decide), hq 7 (by decide) (by decide) (by decide), hq 8 (by decide) (by decide) (by decide), hq 22 (by decide) (by decide) (by decide), hq 9 (by decide) (by decide) (by decide), hq 24 (by decide) (by decide) (by decide)]
    exact h.C hc
  · obtain ⟨pl, hp⟩ := h.2.2
    exact ⟨pl, IR_c (fun q hq' => hq q (by omega) (by omega) (by omega)) hp⟩
theorem sEnd_17 {s : xS} {b y : Nat} : (sEnd s b).1 17 y = if y = b then 0 else s.1 17 y := by
  unfold sEnd
  rw [sA_1, if_neg (by simp), sA_1]
  by_cases h : y = b
  · rw [if_pos ⟨rfl, h⟩, if_pos h]
  · rw [if_neg (fun e => h e.2), if_neg h]; rfl
/-- a live one is in no magazine -/
theorem INV.live {s : xS} (h : INV s) {x : Nat} (hl : s.1 17 x ≠ 2) : ∀ m k, m < 24 → k < s.1 20 m → s.1 21 (8 * m + k) ≠ x := fun m k hm hk e => hl (e ▸ h.H hm hk)
theorem INV.endb {s : xS} (h : INV s) {x : Nat} (hl : s.1 17 x ≠ 2) : INV (sEnd s x) :=
  INV_17 (v := 0) h (fun q h1 h2 _ => sEnd_1 h1 h2) (fun y => sEnd_17) (by decide) (fun e => absurd rfl e) (fun _ => h.live hl)
/-- the latest of a magazine becomes live -/
theorem INV.pop {s : xS} (h : INV s) {m c p : Nat} (hm : m < 24) (h0 : 0 < s.1 20 m) (hr : ref s (0, c, p) = m) : INV (sPop s m) := by
  obtain ⟨pl, hpl⟩ := h.2.2
  have hT := h.top hm h0
  have hVb := h.V hT.1 (by omega)
  have e : ∀ q, q ≠ 17 → q ≠ 20 → (sPop s m).1 q = s.1 q := fun q h1 h2 => by unfold sPop; rw [sA_n h1, sA_n h2]
  have e17 : ∀ y, (sPop s m).1 17 y = if y = qTop s m then 1 else s.1 17 y := fun y => by unfold sPop; simp [sA_1]
  have e20 : ∀ y, (sPop s m).1 20 y = if y = m then s.1 20 m - 1 else s.1 20 y := fun y => by unfold sPop; simp [sA_1]
  have eT : qTop s m = s.1 21 (8 * m + (s.1 20 m - 1)) := by unfold qTop; rw [show 8 * m + s.1 20 m - 1 = 8 * m + (s.1 20 m - 1) from by omega]
  generalize sPop s m = t at e e17 e20
  have eP := qPer_d (e 1 (by decide) (by decide))
  have hle : ∀ i, t.1 20 i ≤ s.1 20 i := fun i => by
    rw [e20]
    by_cases h1 : i = m
    · rw [if_pos h1, h1]; omega
    · rw [if_neg h1]; exact Nat.le_refl _
  refine ⟨⟨WR0_c (fun q hq => e q (by omega) (by omega)) (fun c hc => by rw [e 4 (by decide) (by decide)]; exact h.1.r4 c hc) (fun i _ => hle i) (fun c hc => by rw [e 22 (by decide) (by decide), e 23 (by decide) (by decide), e 24 (by decide) (by decide), e 25 (by decide) (by decide)]; exact h.1.fe c hc) h.R, ?_, ?_, ?_⟩, ?_, pl, ?_⟩
  · intro y hy
    rw [e17, e 13 (by decide) (by decide), eP]
    by_cases h1 : y = qTop s m
    · rw [if_pos h1, h1]; exact ⟨by decide, fun _ => hVb⟩
    · rw [if_neg h1]; exact h.1.2.1 y hy
  · intro i hi
    rw [e 18 (by decide) (by decide), e 21 (by decide) (by decide)]
    have h1 := h.1.2.2.1 i hi
    refine ⟨h1.1, fun h2 => by have := h1.2.1 h2; have := hle i; omega, fun k hk => ?_⟩
    rw [e17, if_neg]
    · exact h1.2.2 k (by have := hle i; omega)
    · intro h2
      rw [eT] at h2
      have h3 := h.1.2.2.2 i m k (s.1 20 m - 1) hi hm (by have := hle i; omega) (by omega) h2
      obtain ⟨rfl, h4⟩ := h3
      rw [e20, if_pos rfl] at hk; omega
  · intro i j k l hi hj hk hl h2
    rw [e 21 (by decide) (by decide)] at h2
    exact h.1.2.2.2 i j k l hi hj (by have := hle i; omega) (by have := hle j; omega) h2
  · intro c' hc'
    rw [e 19 (by decide) (by decide)] at hc'
    rw [e 5 (by decide) (by decide), e 7 (by decide) (by decide), e 8 (by decide) (by decide), e 22 (by decide) (by decide), e 9 (by decide) (by decide), e 24 (by decide) (by decide)]
    exact h.C hc'
  · intro P _ hP
    rw [ref_c (fun q hq => e q (by omega) (by omega))] at hP ⊢
    have h1 := hpl P id hP
    unfold IP
    rw [e 18 (by decide) (by decide), e 21 (by decide) (by decide), e 13 (by decide) (by decide), e20]
    by_cases h2 : ref s P = m
    · have h3 : P = (0, c, p) := h.J hP (h2.trans hr.symm)
      rw [if_pos h2]
      refine ⟨h1.1, h1.2.1, fun k hk => h1.2.2.1 k (by rw [h2]; omega), (fun e => by rw [h3] at e; cases e), (fun e => by rw [h3] at e; cases e)⟩
    · rw [if_neg h2]; exact h1
/-- a live one is put into the loaded one -/
theorem INV.put {s : xS} (h : INV s) {m c p x : Nat} (hm : m < 24) (h8 : s.1 20 m < 8) (hr : ref s (0, c, p) = m) (hx : x < 1984) (hl : s.1 17 x = 1) (hc : s.1 13 (x / 62) = c) : INV (sPut s m x) := by
  obtain ⟨pl, hpl⟩ := h.2.2
  have hVb := h.V hx (by omega)
  have e : ∀ q, q ≠ 17 → q ≠ 20 → q ≠ 21 → (sPut s m x).1 q = s.1 q := fun q h1 h2 h3 => by unfold sPut; rw [sA_n h1, sA_n h2, sA_n h3]
  have e17 : ∀ y, (sPut s m x).1 17 y = if y = x then 2 else s.1 17 y := fun y => by unfold sPut; simp [sA_1]
  have e20 : ∀ y, (sPut s m x).1 20 y = if y = m then s.1 20 m + 1 else s.1 20 y := fun y => by unfold sPut; simp [sA_1]
  have e21 : ∀ y, (sPut s m x).1 21 y = if y = 8 * m + s.1 20 m then x else s.1 21 y := fun y => by unfold sPut; simp [sA_1]
  generalize sPut s m x = t at e e17 e20 e21
  have eP := qPer_d (e 1 (by decide) (by decide) (by decide))
  have hno := h.live (x := x) (by omega)
  have hrP : ref s (0, c, p) < 24 := by rw [hr]; exact hm
  have hcn : c < s.1 19 0 := (ref_cases hrP).1
  have h18 := (h.P hrP).1
  rw [hr] at h18
  -- what is held then
  have held : ∀ i k, i < 24 → k < t.1 20 i → (i = m ∧ k = s.1 20 m ∧ t.1 21 (8 * i + k) = x) ∨ (k < s.1 20 i ∧ t.1 21 (8 * i + k) = s.1 21 (8 * i + k)) := fun i k hi hk => by
    have h8i := (h.R.m hi).1
    rw [e20] at hk
    by_cases hh : i = m ∧ k = s.1 20 m
    · refine Or.inl ⟨hh.1, hh.2, ?_⟩
      rw [e21, if_pos (by rw [hh.1, hh.2])]
    · have hk' : k < s.1 20 i := by
        by_cases h1 : i = m
        · subst h1; rw [if_pos rfl] at hk; omega
        · rw [if_neg h1] at hk; exact hk
      refine Or.inr ⟨hk', ?_⟩
      rw [e21, if_neg]
      intro h2
      have h3 : i = m := by omega
      exact hh ⟨h3, by omega⟩
  refine ⟨⟨⟨by rw [e 19 (by decide) (by decide) (by decide)]; exact h.R.n, ?_, ?_, ?_, ?_⟩, ?_, ?_, ?_⟩, ?_, pl, ?_⟩
  · intro c' hc'
    rw [e 19 (by decide) (by decide) (by decide)] at hc'
    rw [eP, e 0 (by decide) (by decide) (by decide), e 1 (by decide) (by decide) (by decide), e 2 (by decide) (by decide) (by decide), e 4 (by decide) (by decide) (by decide), e 10 (by decide) (by decide) (by decide), e 22 (by decide) (by decide) (by decide), e 24 (by decide) (by decide) (by decide)]
    exact h.R.c hc'
  · intro p' hp'
    rw [eP, e 14 (by decide) (by decide) (by decide), e 13 (by decide) (by decide) (by decide), e 19 (by decide) (by decide) (by decide), e 1 (by decide) (by decide) (by decide)]
    exact h.R.p hp'
  · intro i hi
    rw [e 13 (by decide) (by decide) (by decide), e 19 (by decide) (by decide) (by decide)]
    refine ⟨by rw [e20]; have := (h.R.m hi).1; split <;> omega, fun k hk => ?_⟩
    rcases held i k hi hk with ⟨-, -, h1⟩ | ⟨h1, h2⟩
    · rw [h1]; exact ⟨hx, by omega⟩
    · rw [h2]; exact (h.R.m hi).2 k h1
  · intro c' hc' k
    rw [e 19 (by decide) (by decide) (by decide)] at hc'
    rw [e 22 (by decide) (by decide) (by decide), e 23 (by decide) (by decide) (by decide), e 24 (by decide) (by decide) (by decide), e 25 (by decide) (by decide) (by decide)]
    exact (h.1.fe c' hc').2.2 k
  · intro y hy
    rw [e17, e 13 (by decide) (by decide) (by decide), eP]
    by_cases h1 : y = x
    · rw [if_pos h1, h1]; exact ⟨by decide, fun _ => hVb⟩
    · rw [if_neg h1]; exact h.1.2.1 y hy
  · intro i hi
    rw [e 18 (by decide) (by decide) (by decide)]
    have h1 := h.1.2.2.1 i hi
    refine ⟨h1.1, fun h2 => ?_, fun k hk => ?_⟩
    · rw [e20, if_neg (fun e => by rw [e] at h2; omega)]; exact h1.2.1 h2
    · rw [e17]
      rcases held i k hi hk with ⟨-, -, h3⟩ | ⟨h3, h4⟩
      · rw [if_pos h3]
      · rw [h4]; split
        · rfl
        · exact h1.2.2 k h3
  · intro i j k l hi hj hk hl h2
    rcases held i k hi hk with ⟨a1, a2, a3⟩ | ⟨a1, a2⟩
    · rcases held j l hj hl with ⟨b1, b2, b3⟩ | ⟨b1, b2⟩
      · exact ⟨a1.trans b1.symm, a2.trans b2.symm⟩
      · rw [a3, b2] at h2; exact absurd h2.symm (hno j l hj b1)
    · rcases held j l hj hl with ⟨b1, b2, b3⟩ | ⟨b1, b2⟩
      · rw [a2, b3] at h2; exact absurd h2 (hno i k hi a1)
      · rw [a2, b2] at h2; exact h.1.2.2.2 i j k l hi hj a1 b1 h2
  · intro c' hc'
    rw [e 19 (by decide) (by decide) (by decide)] at hc'
    rw [e 5 (by decide) (by decide) (by decide), e 7 (by decide) (by decide) (by decide), e 8 (by decide) (by decide) (by decide), e 22 (by decide) (by decide) (by decide), e 9 (by decide) (by decide) (by decide), e 24 (by decide) (by decide) (by decide)]
    exact h.C hc'
  · intro P _ hP
    rw [ref_c (fun q hq => e q (by omega) (by omega) (by omega))] at hP ⊢
    have h1 := hpl P id hP
    unfold IP
    rw [e 18 (by decide) (by decide) (by decide), e 13 (by decide) (by decide) (by decide)]
    refine ⟨h1.1, h1.2.1, fun k hk => ?_, fun hf => ?_, fun hf => ?_⟩
    · rcases held _ k hP hk with ⟨a1, a2, a3⟩ | ⟨a1, a2⟩
      · rw [a3, hc, h.J hP (a1.trans hr.symm)]
      · rw [a2]; exact h1.2.2.1 k a1
    · have := h1.2.2.2.1 hf
      rw [e20]; split <;> omega
    · rw [e20, if_neg (fun a1 => by rw [h.J hP (a1.trans hr.symm)] at hf; cases hf)]
      exact h1.2.2.2.2 hf
/-- a new magazine -/
theorem IM_made {s : xS} (h : INV s) (c : Nat) (hN : qNew s < 24) : IM (sMade s) (qNew s) c ∧ (∀ q, q ≠ 18 → q ≠ 20 → (sMade s).1 q = s.1 q) ∧ (sMade s).1 20 (qNew s) = 0 ∧ ∀ m, m ≠ qNew s → (sMade s).1 20 m = s.1 20 m := by
  obtain ⟨pl, hpl⟩ := h.2.2
  have hN1 : s.1 18 (qNew s) = 0 := by
    have h1 := fF_yes (P := fun m => !(s.1 18 m == 1)) (d := 24) (i := 0) (by unfold qNew at hN; omega)
    have h2 : (!(s.1 18 (qNew s) == 1)) = true := h1
    have h3 := h.M hN
    have h4 : s.1 18 (qNew s) ≠ 1 := fun e => by rw [e] at h2; cases h2
    omega
  have e : ∀ q, q ≠ 18 → q ≠ 20 → (sMade s).1 q = s.1 q := fun q h1 h2 => by unfold sMade; rw [if_pos hN, sA_n h2, sA_n h1]
  have e18 : ∀ y, (sMade s).1 18 y = if y = qNew s then 1 else s.1 18 y := fun y => by unfold sMade; rw [if_pos hN]; simp [sA_1]
  have e20 : ∀ y, (sMade s).1 20 y = if y = qNew s then 0 else s.1 20 y := fun y => by unfold sMade; rw [if_pos hN]; simp [sA_1]
  generalize hn : qNew s = n at *
  generalize sMade s = t at e e18 e20
  have h20 := (h.1.2.2.1 n hN).2.1 hN1
  have e20' : t.1 20 = s.1 20 := by
    funext y; rw [e20]; split
    next h1 => rw [h1, h20]
    next => rfl
  have eP := qPer_d (e 1 (by decide) (by decide))
  have eR : ref t = ref s := ref_c (fun q hq => e q (by omega) (by omega))
  have hno : ∀ P, ref s P ≠ n := fun P hP => by
    have := (h.P (P := P) (by rw [hP]; exact hN)).1
    rw [hP, hN1] at this; cases this
  refine ⟨⟨⟨⟨WR0_c (fun q hq => e q (by omega) (by omega)) (fun c hc => by rw [e 4 (by decide) (by decide)]; exact h.1.r4 c hc) (fun i _ => by rw [e20']; exact Nat.le_refl _) (fun c hc => by rw [e 22 (by decide) (by decide), e 23 (by decide) (by decide), e 24 (by decide) (by decide), e 25 (by decide) (by decide)]; exact h.1.fe c hc) h.R, ?_, ?_, ?_⟩, ?_, pl, ?_⟩, hN, ?_, ?_, ?_⟩, e, ?_, ?_⟩
  · rw [e 17 (by decide) (by decide), e 13 (by decide) (by decide), eP]; exact h.1.2.1
  · intro m hm
    rw [e18, e20', e 17 (by decide) (by decide), e 21 (by decide) (by decide)]
    have h1 := h.1.2.2.1 m hm
    by_cases h2 : m = n
    · subst h2
      rw [if_pos rfl]; exact ⟨by decide, (fun e => by cases e), h1.2.2⟩
    · rw [if_neg h2]; exact h1
  · rw [e20', e 21 (by decide) (by decide)]; exact h.1.2.2.2
  · intro c' hc'
    rw [e 19 (by decide) (by decide)] at hc'
    rw [e 5 (by decide) (by decide), e 7 (by decide) (by decide), e 8 (by decide) (by decide), e 22 (by decide) (by decide), e 9 (by decide) (by decide), e 24 (by decide) (by decide)]
    exact h.C hc'
  · intro P _ hP
    rw [eR] at hP ⊢
    exact IP_c (by rw [e18, if_neg (hno P)]) (by rw [e20']) (fun k _ => by rw [e 21 (by decide) (by decide)]) (e 13 (by decide) (by decide)) (hpl P id hP)
  · rw [e18, if_pos rfl]
  · rw [eR]; exact hno
  · intro k hk
    rw [e20', h20] at hk; omega
  · rw [e20, if_pos rfl]
  · intro m hm; rw [e20']
/-- a free one is made -/
theorem INV.mk {s : xS} (h : INV s) {c b : Nat} (hb : b < 1984) (hf : s.1 17 b = 0) (hv : s.1 13 (b / 62) < 4 ∧ b % 62 < qPer s (s.1 13 (b / 62))) : INV (sMk s c b) := by
  have h1 : INV (sW s b (kM (s.1 0 c) (nI (qAddr s b)))) := h.wW
  refine INV_17 (x := b) (v := 1) h1 (fun q a1 _ a3 => ?_) (fun y => ?_) (by decide) (fun _ => hv) (fun _ => h1.live (x := b) (by show s.1 17 b ≠ 2; omega))
  · unfold sMk; rw [sA_n a3, sA_n a1]
  · unfold sMk
    rw [sA_1, if_neg (by simp), sA_1]
    by_cases h2 : y = b
    · rw [if_pos ⟨rfl, h2⟩, if_pos h2]
    · rw [if_neg (fun e => h2 e.2), if_neg h2]
/-- a new slab -/
theorem INV.new {s : xS} (h : INV s) {c p : Nat} (hc : c < s.1 19 0) (hp : p < 32) (h4 : ¬ s.1 13 p < 4) : INV (sNew s c p) := by
  obtain ⟨pl, hpl⟩ := h.2.2
  have e : ∀ q, q ≠ 13 → q ≠ 14 → q ≠ 17 → q ≠ 10 → (sNew s c p).1 q = s.1 q := fun q h1 h2 h3 h4 => by funext i; exact sNew_0 h1 h2 h3 h4
  have e13 : ∀ y, (sNew s c p).1 13 y = if y = p then c else s.1 13 y := fun y => by rw [sNew_b, sA_n (by decide), sNb_13]
  have e14 : ∀ y, (sNew s c p).1 14 y = if y = p then s.1 10 c else s.1 14 y := fun y => by
    rw [sNew_b, sA_n (by decide), sNb_1, if_neg (by simp)]
    by_cases h : y = p
    · rw [if_pos ⟨rfl, h⟩, if_pos h]
    · rw [if_neg (fun e => h e.2), if_neg (by simp), if_neg h]
  have e17 : ∀ y, (sNew s c p).1 17 y = if y / 62 = p then 0 else s.1 17 y := fun y => by
    rw [sNew_b, sA_n (by decide), sNb_1]
    by_cases h : y / 62 = p
    · rw [if_pos ⟨rfl, by omega⟩, if_pos h]
    · rw [if_neg (by omega), if_neg h, if_neg (by simp), if_neg (by simp)]
  have e10 : ∀ y, (sNew s c p).1 10 y = if y = c then qCol s c else s.1 10 y := fun y => by
    rw [sNew_b, sA_1]
    by_cases h : y = c
    · rw [if_pos ⟨rfl, h⟩, if_pos h]
    · rw [if_neg (fun e => h e.2), if_neg h, sNb_q (by decide) (by decide) (by decide)]
  generalize sNew s c p = t at e e13 e14 e17 e10
  have eP := qPer_d (e 1 (by decide) (by decide) (by decide) (by decide))
  have hcc := h.R.c hc
  have hn := h.R.n
  -- no buffer of that page is in a magazine
  have hpg : ∀ m k, m < 24 → k < s.1 20 m → s.1 21 (8 * m + k) / 62 ≠ p := fun m k hm hk e => by
    have h1 := h.V ((h.R.m hm).2 k hk).1 (by have := h.H hm hk; omega)
    rw [e] at h1; exact h4 h1.1
  have e20 := e 20 (by decide) (by decide) (by decide) (by decide)
  have e21 := e 21 (by decide) (by decide) (by decide) (by decide)
  have e19 := e 19 (by decide) (by decide) (by decide) (by decide)
  refine ⟨⟨⟨by rw [e19]; exact hn, ?_, ?_, ?_, ?_⟩, ?_, ?_, ?_⟩, ?_, pl, ?_⟩
  · intro c' hc'
    rw [e19] at hc'
    have h1 := h.R.c hc'
    rw [eP, e10, e 0 (by decide) (by decide) (by decide) (by decide), e 1 (by decide) (by decide) (by decide) (by decide), e 2 (by decide) (by decide) (by decide) (by decide), e 4 (by decide) (by decide) (by decide) (by decide), e 22 (by decide) (by decide) (by decide) (by decide), e 24 (by decide) (by decide) (by decide) (by decide)]
    refine ⟨h1.1, h1.2.1, h1.2.2.1, h1.2.2.2.1, h1.2.2.2.2.1, h1.2.2.2.2.2.1, ?_, h1.2.2.2.2.2.2.2⟩
    by_cases h2 : c' = c
    · subst h2
      rw [if_pos rfl]
      unfold qCol
      split <;> omega
    · rw [if_neg h2]; exact h1.2.2.2.2.2.2.1
  · intro p' hp'
    rw [eP, e14, e13, e19, e 1 (by decide) (by decide) (by decide) (by decide)]
    by_cases h2 : p' = p
    · rw [if_pos h2, if_pos h2]; exact ⟨by omega, fun _ => ⟨hc, hcc.2.2.2.2.2.2.1⟩⟩
    · rw [if_neg h2, if_neg h2]; exact h.R.p hp'
  · intro m hm
    rw [e20, e21, e19]
    have h1 := h.R.m hm
    refine ⟨h1.1, fun k hk => ⟨(h1.2 k hk).1, ?_⟩⟩
    rw [e13, if_neg (hpg m k hm hk)]; exact (h1.2 k hk).2
  · intro c' hc' k
    rw [e19] at hc'
    rw [e 22 (by decide) (by decide) (by decide) (by decide), e 23 (by decide) (by decide) (by decide) (by decide), e 24 (by decide) (by decide) (by decide) (by decide), e 25 (by decide) (by decide) (by decide) (by decide)]
    exact (h.1.fe c' hc').2.2 k
  · intro y hy
    rw [e17, eP, e13]
    by_cases h2 : y / 62 = p
    · rw [if_pos h2]; exact ⟨by decide, fun e => absurd rfl e⟩
    · rw [if_neg h2, if_neg h2]; exact h.1.2.1 y hy
  · intro m hm
    rw [e 18 (by decide) (by decide) (by decide) (by decide), e20, e21]
    have h1 := h.1.2.2.1 m hm
    refine ⟨h1.1, h1.2.1, fun k hk => ?_⟩
    rw [e17, if_neg (hpg m k hm hk)]; exact h1.2.2 k hk
  · rw [e20, e21]; exact h.1.2.2.2
  · intro c' hc'
    rw [e19] at hc'
    rw [e 5 (by decide) (by decide) (by decide) (by decide), e 7 (by decide) (by decide) (by decide) (by decide), e 8 (by decide) (by decide) (by decide) (by decide), e 22 (by decide) (by decide) (by decide) (by decide), e 9 (by decide) (by decide) (by decide) (by decide), e 24 (by decide) (by decide) (by decide) (by decide)]
    exact h.C hc'
  · intro P _ hP
    rw [ref_c (fun q hq => e q (by omega) (by omega) (by omega) (by omega))] at hP ⊢
    have h1 := hpl P id hP
    refine ⟨h1.1, by rw [e 18 (by decide) (by decide) (by decide) (by decide)]; exact h1.2.1, fun k hk => ?_, by rw [e20]; exact h1.2.2.2.1, by rw [e20]; exact h1.2.2.2.2⟩
    rw [e20] at hk
    rw [e21, e13, if_neg (hpg _ k hP hk)]; exact h1.2.2.1 k hk
theorem INV.out {s : xS} (h : INV s) {c : Nat} (hc : c < s.1 19 0) : INV (sOut s c).2 := by
  have hn := h.R.n
  have hq := h.R.c hc
  unfold sOut
  by_cases h1 : qFirst s c < 1984
  · obtain ⟨a1, a2, a3, a4, a5⟩ := qFirst_ok h.R (by omega) h1
    rw [if_pos h1]
    exact h.mk h1 a5 (by rw [a3, a2]; exact ⟨by omega, a4⟩)
  · rw [if_neg h1]
    by_cases h2 : qPage s < 32
    · rw [if_pos h2]
      have h3 := fF_yes (P := fun p => !decide (s.1 13 p < 4)) (d := 32) (i := 0) (by unfold qPage at h2; omega)
      have h4 : ¬ s.1 13 (qPage s) < 4 := fun h4 => by
        have h5 : (!decide (s.1 13 (qPage s) < 4)) = true := h3
        rw [decide_eq_true h4] at h5; cases h5
      have hI := h.new hc h2 h4
      have e1 : 62 * qPage s / 62 = qPage s := by omega
      have e2 : 62 * qPage s % 62 = 0 := by omega
      have e17 : (sNew s c (qPage s)).1 17 (62 * qPage s) = 0 := by
        rw [sNew_b, sA_n (by decide), sNb_1, if_pos ⟨rfl, by omega, by omega⟩]
      have eP : qPer (sNew s c (qPage s)) = qPer s := by
        funext x; unfold qPer; rw [sNew_0 (by decide) (by decide) (by decide) (by decide)]
      refine hI.mk (by omega) e17 ?_
      rw [e1, e2, sNew_13, eP]
      refine ⟨by omega, ?_⟩
      unfold qPer; exact Nat.div_pos (by omega) (by omega)
    · rw [if_neg h2]; exact h
theorem sSw_tak {s : xS} {c p : Nat} : sTak3 s c p = sSwE (sFetF (sVis s c) c) c (4 * c + p) (s.1 23 (24 * c + (s.1 22 c - 1))) := by
  have h : (sFetF (sVis s c) c).1 16 (4 * c + p) = s.1 16 (4 * c + p) := by simp [sFetF, sVis, sA_1]
  unfold sTak3 sSwE
  rw [h]
theorem INV.takes {s : xS} (h : INV s) {c p : Nat} (hc : c < s.1 19 0) (hp : p < 4) : INV (sTakes s c p).2 := by
  have hn := h.R.n
  unfold sTakes
  by_cases a1 : qHas s (s.1 15 (4 * c + p)) = true
  · obtain ⟨h1, h2⟩ := qHas_t a1
    rw [if_pos a1]
    exact h.pop h1 h2 (ref_0 hc hp)
  · rw [if_neg a1]
    by_cases a2 : qHas s (s.1 16 (4 * c + p)) = true
    · obtain ⟨h1, h2⟩ := qHas_t a2
      rw [if_pos a2]
      have hE := h.exch hc hp
      have e : ∀ q, q ≠ 15 → q ≠ 16 → (sExch s (4 * c + p)).1 q = s.1 q := fun q h1 h2 => by unfold sExch; rw [sA_n h2, sA_n h1]
      refine hE.pop (c := c) (p := p) h1 (by rw [e 20 (by decide) (by decide)]; exact h2) ?_
      rw [ref_0 (by rw [e 19 (by decide) (by decide)]; exact hc) hp]
      unfold sExch; simp [sA_1]
    · rw [if_neg a2]
      by_cases a3 : s.1 22 c = 0
      · rw [if_pos a3]; exact h.out hc
      · rw [if_neg a3]
        have hV := h.vis (c := c)
        have ev : ∀ q, q ≠ 6 → q ≠ 19 → (sVis s c).1 q = s.1 q := fun q h1 h2 => by unfold sVis; rw [sA_n h2, sA_n h1]
        have ev0 : (sVis s c).1 19 0 = s.1 19 0 := by unfold sVis; simp [sA_1]
        have hM := (IM_fetchF hV (c := c) (by rw [ev0]; exact hc) (by rw [ev 22 (by decide) (by decide)]; omega)).1
        rw [ev 22 (by decide) (by decide), ev 23 (by decide) (by decide)] at hM
        have ef : ∀ q, q ≠ 22 → q ≠ 8 → q ≠ 6 → q ≠ 19 → (sFetF (sVis s c) c).1 q = s.1 q := fun q h1 h2 h3 h4 => by unfold sFetF; rw [sA_n h2, sA_n h1, ev q h3 h4]
        have ef0 : (sFetF (sVis s c) c).1 19 0 = s.1 19 0 := by unfold sFetF; rw [sA_n (by decide), sA_n (by decide), ev0]
        have a2f : ¬ (s.1 16 (4 * c + p) < 24 ∧ 0 < s.1 20 (s.1 16 (4 * c + p))) := fun e => a2 (by unfold qHas; rw [decide_eq_true e.1, decide_eq_true e.2]; rfl)
        have hS := INV_swE (p := p) hM (by rw [ef0]; exact hc) hp (fun h16 => by
          rw [ef 16 (by decide) (by decide) (by decide) (by decide)] at h16 ⊢
          rw [ef 20 (by decide) (by decide) (by decide) (by decide)]
          exact ⟨(fun e => by cases e), fun _ => by omega⟩)
        rw [← sSw_tak] at hS
        have e20 : (sTak3 s c p).1 20 = s.1 20 := by funext i; exact sTak3_20 (Or.inl rfl)
        refine hS.pop (c := c) (p := p) hM.2.1 (by rw [e20]; exact (h.full hc (by omega)).2.2.1) ?_
        have e19 : (sTak3 s c p).1 19 0 = s.1 19 0 := by
          rw [sSw_tak]; unfold sSwE sSwap sBriE
          rw [sA_n (by decide), sA_n (by decide)]
          split
          · rw [sA_n (by decide), sA_n (by decide), ef0]
          · exact ef0
        rw [ref_0 (by rw [e19]; exact hc) hp]
        rw [sSw_tak]; unfold sSwE sSwap; simp [sA_1]
