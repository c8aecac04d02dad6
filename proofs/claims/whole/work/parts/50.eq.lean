/-! two states that say the same -/
def mg (s : xS) (q j : Nat) : Prop :=
  (q = 19 ∧ j < 3) ∨ (q ≤ 12 ∧ q ≠ 3 ∧ j < s.1 19 0) ∨ ((q = 13 ∨ q = 14) ∧ j < 32) ∨ ((q = 15 ∨ q = 16) ∧ j < 4 * s.1 19 0) ∨ (q = 17 ∧ j < 1984) ∨ ((q = 18 ∨ q = 20) ∧ j < 24)
  ∨ (q = 21 ∧ j < 192 ∧ j % 8 < s.1 20 (j / 8)) ∨ ((q = 22 ∨ q = 24) ∧ j < s.1 19 0) ∨ (q = 23 ∧ j / 24 < s.1 19 0 ∧ j % 24 < s.1 22 (j / 24)) ∨ (q = 25 ∧ j / 24 < s.1 19 0 ∧ j % 24 < s.1 24 (j / 24))
def EQs (s t : xS) : Prop := (∀ q j, mg s q j → t.1 q j = s.1 q j) ∧ (∀ x, x < 1984 → t.2.1 x = s.2.1 x) ∧ ∀ c, c < s.1 19 0 → t.2.2 c = s.2.2 c
theorem EQs.rfl' {s : xS} : EQs s s := ⟨fun _ _ _ => rfl, fun _ _ => rfl, fun _ _ => rfl⟩
theorem mg_of {s s' : xS} {q j : Nat} (hm : mg s' q j) (h19 : s'.1 19 0 = s.1 19 0) (h21 : q = 21 → j % 8 < s'.1 20 (j / 8) → j % 8 < s.1 20 (j / 8)) (h23 : q = 23 → j % 24 < s'.1 22 (j / 24) → j % 24 < s.1 22 (j / 24)) (h25 : q = 25 → j % 24 < s'.1 24 (j / 24) → j % 24 < s.1 24 (j / 24)) : mg s q j := by
  unfold mg at hm ⊢
  rw [h19] at hm
  rcases hm with h | h | h | h | h | h | h | h | h | h
  · exact Or.inl (h)
  · exact Or.inr (Or.inl (h))
  · exact Or.inr (Or.inr (Or.inl (h)))
  · exact Or.inr (Or.inr (Or.inr (Or.inl (h))))
  · exact Or.inr (Or.inr (Or.inr (Or.inr (Or.inl (h)))))
  · exact Or.inr (Or.inr (Or.inr (Or.inr (Or.inr (Or.inl (h))))))
  · exact Or.inr (Or.inr (Or.inr (Or.inr (Or.inr (Or.inr (Or.inl (⟨h.1, h.2.1, h21 h.1 h.2.2⟩)))))))
  · exact Or.inr (Or.inr (Or.inr (Or.inr (Or.inr (Or.inr (Or.inr (Or.inl (h))))))))
  · exact Or.inr (Or.inr (Or.inr (Or.inr (Or.inr (Or.inr (Or.inr (Or.inr (Or.inl (⟨h.1, h.2.1, h23 h.1 h.2.2⟩)))))))))
  · exact Or.inr (Or.inr (Or.inr (Or.inr (Or.inr (Or.inr (Or.inr (Or.inr (Or.inr ((⟨h.1, h.2.1, h25 h.1 h.2.2⟩))))))))))
theorem EQs.n {s t : xS} (h : EQs s t) {j : Nat} (hj : j < 3) : t.1 19 j = s.1 19 j := h.1 19 j (Or.inl (⟨rfl, hj⟩))
theorem EQs.c {s t : xS} (h : EQs s t) {q c : Nat} (h1 : q ≤ 12) (h3 : q ≠ 3) (hc : c < s.1 19 0) : t.1 q c = s.1 q c := h.1 q c (Or.inr (Or.inl (⟨h1, h3, hc⟩)))
theorem EQs.p {s t : xS} (h : EQs s t) {q p : Nat} (h1 : q = 13 ∨ q = 14) (hp : p < 32) : t.1 q p = s.1 q p := h.1 q p (Or.inr (Or.inr (Or.inl (⟨h1, hp⟩))))
theorem EQs.l {s t : xS} (h : EQs s t) {q i : Nat} (h1 : q = 15 ∨ q = 16) (hi : i < 4 * s.1 19 0) : t.1 q i = s.1 q i := h.1 q i (Or.inr (Or.inr (Or.inr (Or.inl (⟨h1, hi⟩)))))
theorem EQs.x {s t : xS} (h : EQs s t) {x : Nat} (hx : x < 1984) : t.1 17 x = s.1 17 x := h.1 17 x (Or.inr (Or.inr (Or.inr (Or.inr (Or.inl (⟨rfl, hx⟩))))))
theorem EQs.m {s t : xS} (h : EQs s t) {q m : Nat} (h1 : q = 18 ∨ q = 20) (hm : m < 24) : t.1 q m = s.1 q m := h.1 q m (Or.inr (Or.inr (Or.inr (Or.inr (Or.inr (Or.inl (⟨h1, hm⟩)))))))
theorem EQs.row {s t : xS} (h : EQs s t) {m k : Nat} (hm : m < 24) (hk : k < s.1 20 m) (h8 : k < 8) : t.1 21 (8 * m + k) = s.1 21 (8 * m + k) := by
  have e1 : (8 * m + k) / 8 = m := by omega
  have e2 : (8 * m + k) % 8 = k := by omega
  exact h.1 21 _ (Or.inr (Or.inr (Or.inr (Or.inr (Or.inr (Or.inr (Or.inl (⟨rfl, by omega, by rw [e1, e2]; exact hk⟩))))))))
theorem EQs.d {s t : xS} (h : EQs s t) {q c : Nat} (h1 : q = 22 ∨ q = 24) (hc : c < s.1 19 0) : t.1 q c = s.1 q c := h.1 q c (Or.inr (Or.inr (Or.inr (Or.inr (Or.inr (Or.inr (Or.inr (Or.inl (⟨h1, hc⟩)))))))))
theorem EQs.r23 {s t : xS} (h : EQs s t) {c k : Nat} (hc : c < s.1 19 0) (hk : k < s.1 22 c) (h24 : k < 24) : t.1 23 (24 * c + k) = s.1 23 (24 * c + k) := by
  have e1 : (24 * c + k) / 24 = c := by omega
  have e2 : (24 * c + k) % 24 = k := by omega
  exact h.1 23 _ (Or.inr (Or.inr (Or.inr (Or.inr (Or.inr (Or.inr (Or.inr (Or.inr (Or.inl (⟨rfl, by rw [e1]; exact hc, by rw [e1, e2]; exact hk⟩))))))))))
theorem EQs.r25 {s t : xS} (h : EQs s t) {c k : Nat} (hc : c < s.1 19 0) (hk : k < s.1 24 c) (h24 : k < 24) : t.1 25 (24 * c + k) = s.1 25 (24 * c + k) := by
  have e1 : (24 * c + k) / 24 = c := by omega
  have e2 : (24 * c + k) % 24 = k := by omega
  exact h.1 25 _ (Or.inr (Or.inr (Or.inr (Or.inr (Or.inr (Or.inr (Or.inr (Or.inr (Or.inr ((⟨rfl, by rw [e1]; exact hc, by rw [e1, e2]; exact hk⟩)))))))))))
theorem EQs.set {s t : xS} (h : EQs s t) {q j v : Nat} (h19 : q ≠ 19 ∨ j ≠ 0) (h20 : q ≠ 20) (h22 : q ≠ 22) (h24 : q ≠ 24) : EQs (sA s q j v) (sA t q j v) := by
  have e19 : (sA s q j v).1 19 0 = s.1 19 0 := by rw [sA_1, if_neg (by omega)]
  refine ⟨fun q' j' hm => ?_, h.2.1, fun c hc => h.2.2 c (by rw [e19] at hc; exact hc)⟩
  rw [sA_1, sA_1]
  split
  · rfl
  · exact h.1 q' j' (mg_of hm e19 (fun _ => by rw [sA_n (fun e => h20 e.symm)]; exact id) (fun _ => by rw [sA_n (fun e => h22 e.symm)]; exact id) (fun _ => by rw [sA_n (fun e => h24 e.symm)]; exact id))
theorem EQs.s20 {s t : xS} (h : EQs s t) {m v : Nat} (hr : ∀ k, k < v → k < 8 → t.1 21 (8 * m + k) = s.1 21 (8 * m + k)) : EQs (sA s 20 m v) (sA t 20 m v) := by
  refine ⟨fun q' j' hm => ?_, h.2.1, h.2.2⟩
  have e19 : (sA s 20 m v).1 19 0 = s.1 19 0 := by rw [sA_n (by decide)]
  rw [sA_1, sA_1]
  by_cases h1 : q' = 20 ∧ j' = m
  · rw [if_pos h1, if_pos h1]
  · rw [if_neg h1, if_neg h1]
    by_cases h2 : q' = 21 ∧ j' / 8 = m
    · obtain ⟨rfl, h2⟩ := h2
      have h3 : j' % 8 < v := by
        unfold mg at hm
        rcases hm with h | h | h | h | h | h | h | h | h | h
        · omega
        · omega
        · omega
        · omega
        · omega
        · omega
        · have := h.2.2; rw [sA_1, if_pos ⟨rfl, h2⟩] at this; exact this
        · omega
        · omega
        · omega
      have h4 := hr (j' % 8) h3 (by omega)
      rw [show 8 * m + j' % 8 = j' from by omega] at h4
      exact h4
    · exact h.1 q' j' (mg_of hm e19 (fun e => by rw [sA_1, if_neg (fun e2 => h2 ⟨e, e2.2⟩)]; exact id) (fun _ => by rw [sA_n (by decide)]; exact id) (fun _ => by rw [sA_n (by decide)]; exact id))
theorem EQs.s22 {s t : xS} (h : EQs s t) {c v : Nat} (hr : ∀ k, k < v → k < 24 → t.1 23 (24 * c + k) = s.1 23 (24 * c + k)) : EQs (sA s 22 c v) (sA t 22 c v) := by
  refine ⟨fun q' j' hm => ?_, h.2.1, h.2.2⟩
  have e19 : (sA s 22 c v).1 19 0 = s.1 19 0 := by rw [sA_n (by decide)]
  rw [sA_1, sA_1]
  by_cases h1 : q' = 22 ∧ j' = c
  · rw [if_pos h1, if_pos h1]
  · rw [if_neg h1, if_neg h1]
    by_cases h2 : q' = 23 ∧ j' / 24 = c
    · obtain ⟨rfl, h2⟩ := h2
      have h3 : j' % 24 < v := by
        unfold mg at hm
        rcases hm with h | h | h | h | h | h | h | h | h | h
        · omega
        · omega
        · omega
        · omega
        · omega
        · omega
        · omega
        · omega
        · first | omega | (have := h.2.2; rw [sA_1, if_pos ⟨rfl, h2⟩] at this; exact this)
        · first | omega | (have := h.2.2; rw [sA_1, if_pos ⟨rfl, h2⟩] at this; exact this)
      have h4 := hr (j' % 24) h3 (by omega)
      rw [show 24 * c + j' % 24 = j' from by omega] at h4
      exact h4
    · exact h.1 q' j' (mg_of hm e19 (fun _ => by rw [sA_n (by decide)]; exact id) (fun e => by first | (rw [sA_n (by decide)]; exact id) | (rw [sA_1, if_neg (fun e2 => h2 ⟨e, e2.2⟩)]; exact id)) (fun e => by first | (rw [sA_n (by decide)]; exact id) | (rw [sA_1, if_neg (fun e2 => h2 ⟨e, e2.2⟩)]; exact id)))
theorem EQs.s24 {s t : xS} (h : EQs s t) {c v : Nat} (hr : ∀ k, k < v → k < 24 → t.1 25 (24 * c + k) = s.1 25 (24 * c + k)) : EQs (sA s 24 c v) (sA t 24 c v) := by
  refine ⟨fun q' j' hm => ?_, h.2.1, h.2.2⟩
  have e19 : (sA s 24 c v).1 19 0 = s.1 19 0 := by rw [sA_n (by decide)]
  rw [sA_1, sA_1]
  by_cases h1 : q' = 24 ∧ j' = c
  · rw [if_pos h1, if_pos h1]
  · rw [if_neg h1, if_neg h1]
    by_cases h2 : q' = 25 ∧ j' / 24 = c
    · obtain ⟨rfl, h2⟩ := h2
      have h3 : j' % 24 < v := by
        unfold mg at hm
        rcases hm with h | h | h | h | h | h | h | h | h | h
        · omega
        · omega
        · omega
        · omega
        · omega
        · omega
        · omega
        · omega
        · first | omega | (have := h.2.2; rw [sA_1, if_pos ⟨rfl, h2⟩] at this; exact this)
        · first | omega | (have := h.2.2; rw [sA_1, if_pos ⟨rfl, h2⟩] at this; exact this)
      have h4 := hr (j' % 24) h3 (by omega)
      rw [show 24 * c + j' % 24 = j' from by omega] at h4
      exact h4
    · exact h.1 q' j' (mg_of hm e19 (fun _ => by rw [sA_n (by decide)]; exact id) (fun e => by first | (rw [sA_n (by decide)]; exact id) | (rw [sA_1, if_neg (fun e2 => h2 ⟨e, e2.2⟩)]; exact id)) (fun e => by first | (rw [sA_n (by decide)]; exact id) | (rw [sA_1, if_neg (fun e2 => h2 ⟨e, e2.2⟩)]; exact id)))
theorem EQs.w {s t : xS} (h : EQs s t) {x : Nat} {v : Int32} : EQs (sW s x v) (sW t x v) := by
  refine ⟨h.1, fun y hy => ?_, h.2.2⟩
  rw [sW_2, sW_2]
  split
  · rfl
  · exact h.2.1 y hy
theorem EQs.tl {s t : xS} (h : EQs s t) {c : Nat} {v : Int64} : EQs (sT s c v) (sT t c v) := by
  refine ⟨h.1, h.2.1, fun y hy => ?_⟩
  rw [sT_3, sT_3]
  split
  · rfl
  · exact h.2.2 y hy
/-! numbers told from them -/
theorem EQs.per {s t : xS} (h : EQs s t) {c : Nat} (hc : c < s.1 19 0) : qPer t c = qPer s c := by
  unfold qPer; rw [h.c (by decide) (by decide) hc]
theorem EQs.top {s t : xS} (h : EQs s t) {m : Nat} (hm : m < 24) (h0 : 0 < s.1 20 m) (h8 : s.1 20 m ≤ 8) : qTop t m = qTop s m := by
  unfold qTop
  rw [h.m (Or.inr rfl) hm, show 8 * m + s.1 20 m - 1 = 8 * m + (s.1 20 m - 1) from by omega]
  exact h.row hm (by omega) (by omega)
theorem EQs.has {s t : xS} (h : EQs s t) {m : Nat} : qHas t m = qHas s m := by
  unfold qHas
  by_cases hm : m < 24
  · rw [h.m (Or.inr rfl) hm]
  · rw [decide_eq_false hm, Bool.false_and, Bool.false_and]
theorem EQs.rm {s t : xS} (h : EQs s t) {m c : Nat} (hc : c < s.1 19 0) : qRoom t m c = qRoom s m c := by
  unfold qRoom
  by_cases hm : m < 24
  · rw [h.m (Or.inr rfl) hm, h.c (by decide) (by decide) hc]
  · rw [decide_eq_false hm, Bool.false_and, Bool.false_and]
theorem fF_cong {P Q : Nat → Bool} : ∀ {d i : Nat}, (∀ k, i ≤ k → k < i + d → P k = Q k) → fF P d i = fF Q d i := by
  intro d
  induction d with
  | zero => intro i _; rfl
  | succ d ih =>
    intro i h
    unfold fF
    rw [h i (Nat.le_refl _) (by omega), ih (fun k h1 h2 => h k (by omega) (by omega))]
theorem EQs.freeIn {s t : xS} (h : EQs s t) (hR : WR0 s) {p : Nat} (hp : p < 32) (h4 : s.1 13 p < 4) : qFreeIn t p = qFreeIn s p := by
  have hg := hR.pg hp h4
  have e1 : t.1 13 p = s.1 13 p := h.p (Or.inl rfl) hp
  have e2 := h.per hg.1
  unfold qFreeIn qFreeK
  rw [e1, e2, fF_cong (Q := fun k => s.1 17 (62 * p + k) == 0) (fun k _ hk => by rw [h.x (by omega)])]
theorem EQs.firstP {s t : xS} (h : EQs s t) (hR : WR0 s) {c : Nat} (hc : c < 4) : qFirstP t c = qFirstP s c := by
  unfold qFirstP
  refine fF_cong (fun p _ hp => ?_)
  have hp' : p < 32 := by omega
  rw [h.p (Or.inl rfl) hp']
  by_cases h1 : s.1 13 p = c
  · rw [h.freeIn hR hp' (by omega)]
  · rw [beq_eq_false_iff_ne.mpr h1, Bool.false_and, Bool.false_and]
theorem EQs.first {s t : xS} (h : EQs s t) (hR : WR0 s) {c : Nat} (hc : c < 4) : qFirst t c = qFirst s c := by
  unfold qFirst
  rw [h.firstP hR hc]
  by_cases h1 : qFirstP s c < 32
  · rw [if_pos h1, if_pos h1]
    have h2 := fF_yes (P := fun p => s.1 13 p == c && decide (qFreeIn s p < 1984)) (d := 32) (i := 0) (by unfold qFirstP at h1; omega)
    have h3 : s.1 13 (qFirstP s c) = c := eq_of_beq (Bool.and_eq_true_iff.mp h2).1
    exact h.freeIn hR h1 (by omega)
  · rw [if_neg h1, if_neg h1]
theorem EQs.page {s t : xS} (h : EQs s t) : qPage t = qPage s := by
  unfold qPage
  exact fF_cong (fun p _ hp => by rw [h.p (Or.inl rfl) (by omega)])
theorem EQs.newm {s t : xS} (h : EQs s t) : qNew t = qNew s := by
  unfold qNew
  exact fF_cong (fun m _ hm => by rw [h.m (Or.inl rfl) (by omega)])
theorem EQs.addr {s t : xS} (h : EQs s t) (hR : WR0 s) {x : Nat} (hx : x < 1984) (h4 : s.1 13 (x / 62) < 4) : qAddr t x = qAddr s x := by
  have hp : x / 62 < 32 := by omega
  have hg := hR.pg hp h4
  unfold qAddr
  rw [h.p (Or.inl rfl) hp, h.p (Or.inr rfl) hp, h.c (by decide) (by decide) hg.1]
theorem EQs.fit {s t : xS} (h : EQs s t) (hR : WR0 s) {x : Nat} (hx : x < 1984) (h4 : s.1 13 (x / 62) < 4) : qFit t x = qFit s x := by
  have hp : x / 62 < 32 := by omega
  have hg := hR.pg hp h4
  unfold qFit
  rw [h.addr hR hx h4, h.p (Or.inl rfl) hp, h.c (by decide) (by decide) hg.1, h.2.1 x hx]
theorem EQs.beg {s t : xS} (h : EQs s t) (hR : WR0 s) {a : Nat} (ha : a < 32768) : qBeg t a = qBeg s a := by
  have hp : a / 1024 < 32 := by omega
  unfold qBeg
  rw [h.p (Or.inl rfl) hp, h.p (Or.inr rfl) hp]
  by_cases h4 : s.1 13 (a / 1024) < 4
  · have hg := hR.pg hp h4
    rw [h.c (by decide) (by decide) hg.1, h.per hg.1]
  · rw [if_neg (fun e => h4 e.1), if_neg (fun e => h4 e.1)]
theorem EQs.begI {s t : xS} (h : EQs s t) (hR : WR0 s) {a : Int32} : qBeI t a = qBeI s a := by
  unfold qBeI
  split
  next h1 => exact h.beg hR h1
  next => rfl
theorem EQs.live {s t : xS} (h : EQs s t) (hR : WR0 s) {a : Int32} : qLive t a = qLive s a := by
  unfold qLive
  rw [h.begI hR]
  by_cases h1 : qBeI s a < 1984
  · rw [h.x h1]
  · rw [if_neg (fun e => h1 e.1), if_neg (fun e => h1 e.1)]
/-! what is done to both -/
theorem EQs.exch {s t : xS} (h : EQs s t) {i : Nat} (hi : i < 4 * s.1 19 0) : EQs (sExch s i) (sExch t i) := by
  unfold sExch
  rw [h.l (Or.inl rfl) hi, h.l (Or.inr rfl) hi]
  exact (h.set (by simp) (by decide) (by decide) (by decide)).set (by simp) (by decide) (by decide) (by decide)
theorem EQs.vis {s t : xS} (h : EQs s t) {c : Nat} (hc : c < s.1 19 0) : EQs (sVis s c) (sVis t c) := by
  unfold sVis
  rw [h.c (by decide) (by decide) hc, h.n (by decide)]
  exact (h.set (by simp) (by decide) (by decide) (by decide)).set (by simp) (by decide) (by decide) (by decide)
theorem EQs.fetF {s t : xS} (h : EQs s t) {c : Nat} (hc : c < s.1 19 0) : EQs (sFetF s c) (sFetF t c) := by
  have hl : t.1 22 c = s.1 22 c := h.d (by simp) hc
  unfold sFetF
  rw [hl, h.c (by decide) (by decide) hc]
  refine (h.s22 (fun k hk h24 => h.r23 hc (by omega) h24)).set (by simp) (by decide) (by decide) (by decide)
theorem EQs.briF {s t : xS} (h : EQs s t) {c m : Nat} (hc : c < s.1 19 0) : EQs (sBriF s c m) (sBriF t c m) := by
  have hl : t.1 22 c = s.1 22 c := h.d (by simp) hc
  unfold sBriF
  rw [hl]
  have h1 : EQs (sA s 23 (24 * c + s.1 22 c) m) (sA t 23 (24 * c + s.1 22 c) m) := h.set (by simp) (by decide) (by decide) (by decide)
  refine h1.s22 (fun k hk h24 => ?_)
  rw [sA_1, sA_1]
  by_cases hk2 : k = s.1 22 c
  · rw [if_pos ⟨rfl, by omega⟩, if_pos ⟨rfl, by omega⟩]
  · rw [if_neg (by omega), if_neg (by omega)]
    exact h.r23 hc (by omega) h24
theorem EQs.fetE {s t : xS} (h : EQs s t) {c : Nat} (hc : c < s.1 19 0) : EQs (sFetE s c) (sFetE t c) := by
  have hl : t.1 24 c = s.1 24 c := h.d (by simp) hc
  unfold sFetE
  rw [hl, h.c (by decide) (by decide) hc]
  refine (h.s24 (fun k hk h24 => h.r25 hc (by omega) h24)).set (by simp) (by decide) (by decide) (by decide)
theorem EQs.briE {s t : xS} (h : EQs s t) {c m : Nat} (hc : c < s.1 19 0) : EQs (sBriE s c m) (sBriE t c m) := by
  have hl : t.1 24 c = s.1 24 c := h.d (by simp) hc
  unfold sBriE
  rw [hl]
  have h1 : EQs (sA s 25 (24 * c + s.1 24 c) m) (sA t 25 (24 * c + s.1 24 c) m) := h.set (by simp) (by decide) (by decide) (by decide)
  refine h1.s24 (fun k hk h24 => ?_)
  rw [sA_1, sA_1]
  by_cases hk2 : k = s.1 24 c
  · rw [if_pos ⟨rfl, by omega⟩, if_pos ⟨rfl, by omega⟩]
  · rw [if_neg (by omega), if_neg (by omega)]
    exact h.r25 hc (by omega) h24
theorem EQs.pop {s t : xS} (h : EQs s t) {m : Nat} (hm : m < 24) (h0 : 0 < s.1 20 m) (h8 : s.1 20 m ≤ 8) : EQs (sPop s m) (sPop t m) := by
  unfold sPop
  rw [h.top hm h0 h8, h.m (Or.inr rfl) hm]
  exact (h.s20 (fun k hk hk8 => h.row hm (by omega) hk8)).set (by simp) (by decide) (by decide) (by decide)
theorem EQs.put {s t : xS} (h : EQs s t) {m x : Nat} (hm : m < 24) : EQs (sPut s m x) (sPut t m x) := by
  have hl : t.1 20 m = s.1 20 m := h.m (Or.inr rfl) hm
  unfold sPut
  rw [hl]
  have h1 : EQs (sA s 21 (8 * m + s.1 20 m) x) (sA t 21 (8 * m + s.1 20 m) x) := h.set (by simp) (by decide) (by decide) (by decide)
  refine (h1.s20 (fun k hk h8 => ?_)).set (by simp) (by decide) (by decide) (by decide)
  rw [sA_1, sA_1]
  by_cases hk2 : k = s.1 20 m
  · rw [if_pos ⟨rfl, by omega⟩, if_pos ⟨rfl, by omega⟩]
  · rw [if_neg (by omega), if_neg (by omega)]
    exact h.row hm (by omega) h8
theorem EQs.made {s t : xS} (h : EQs s t) : EQs (sMade s) (sMade t) := by
  unfold sMade
  rw [h.newm]
  split
  next hN =>
    have h1 : EQs (sA s 18 (qNew s) 1) (sA t 18 (qNew s) 1) := h.set (by simp) (by decide) (by decide) (by decide)
    exact h1.s20 (fun k hk _ => by omega)
  next => exact h
theorem EQs.endb {s t : xS} (h : EQs s t) (hR : WR0 s) {x : Nat} (hx : x < 1984) (h4 : s.1 13 (x / 62) < 4) : EQs (sEnd s x) (sEnd t x) := by
  have hp : x / 62 < 32 := by omega
  have hg := hR.pg hp h4
  unfold sEnd
  rw [h.p (Or.inl rfl) hp, h.2.2 _ hg.1, h.c (q := 0) (by decide) (by decide) hg.1, h.2.1 x hx, h.c (q := 12) (by decide) (by decide) hg.1]
  exact ((h.tl (c := s.1 13 (x / 62))).set (by simp) (by decide) (by decide) (by decide)).set (by simp) (by decide) (by decide) (by decide)
theorem EQs.mk {s t : xS} (h : EQs s t) (hR : WR0 s) {c x : Nat} (hc : c < s.1 19 0) (hx : x < 1984) (h4 : s.1 13 (x / 62) < 4) : EQs (sMk s c x) (sMk t c x) := by
  unfold sMk
  rw [h.addr hR hx h4, h.c (q := 0) (by decide) (by decide) hc, h.c (q := 11) (by decide) (by decide) hc]
  exact ((h.w (x := x)).set (by simp) (by decide) (by decide) (by decide)).set (by simp) (by decide) (by decide) (by decide)
theorem EQs.clr {p : Nat} : ∀ {d k : Nat} {s t : xS}, EQs s t → EQs (sClr s p d k) (sClr t p d k) := by
  intro d
  induction d with
  | zero => intro k s t h; exact h
  | succ d ih =>
    intro k s t h
    unfold sClr
    exact ih (h.set (by simp) (by decide) (by decide) (by decide))
theorem EQs.new {s t : xS} (h : EQs s t) {c p : Nat} (hc : c < s.1 19 0) : EQs (sNew s c p) (sNew t c p) := by
  have e : qCol t c = qCol s c := by
    unfold qCol
    rw [h.per hc, h.c (q := 10) (by decide) (by decide) hc, h.c (q := 2) (by decide) (by decide) hc, h.c (q := 1) (by decide) (by decide) hc]
  unfold sNew
  rw [e, h.c (q := 10) (by decide) (by decide) hc]
  refine EQs.set ?_ (by simp) (by decide) (by decide) (by decide)
  exact EQs.clr ((h.set (by simp) (by decide) (by decide) (by decide)).set (by simp) (by decide) (by decide) (by decide))
theorem EQs.out {s t : xS} (h : EQs s t) (hI : INV s) {c : Nat} (hc : c < s.1 19 0) : (sOut t c).1 = (sOut s c).1 ∧ EQs (sOut s c).2 (sOut t c).2 := by
  have hn := hI.R.n
  have hc4 : c < 4 := by omega
  unfold sOut
  rw [h.first hI.R hc4, h.page]
  by_cases h1 : qFirst s c < 1984
  · obtain ⟨a1, a2, a3, a4, a5⟩ := qFirst_ok hI.R hc4 h1
    rw [if_pos h1, if_pos h1]
    exact ⟨rfl, h.mk hI.R hc h1 (by rw [a3, a2]; exact hc4)⟩
  · rw [if_neg h1, if_neg h1]
    by_cases h2 : qPage s < 32
    · rw [if_pos h2, if_pos h2]
      have h3 := fF_yes (P := fun p => !decide (s.1 13 p < 4)) (d := 32) (i := 0) (by unfold qPage at h2; omega)
      have h4 : ¬ s.1 13 (qPage s) < 4 := fun h4 => by
        have h5 : (!decide (s.1 13 (qPage s) < 4)) = true := h3
        rw [decide_eq_true h4] at h5; cases h5
      have hN := hI.new hc h2 h4
      refine ⟨rfl, (h.new (p := qPage s) hc).mk hN.R ?_ (by omega) ?_⟩
      · rw [sNew_0 (by decide) (by decide) (by decide) (by decide)]; exact hc
      · rw [show 62 * qPage s / 62 = qPage s from by omega, sNew_13]; exact hc4
    · rw [if_neg h2, if_neg h2]; exact ⟨rfl, h⟩
theorem EQs.swap {s t : xS} (h : EQs s t) {i m : Nat} (hi : i < 4 * s.1 19 0) : EQs (sSwap s i m) (sSwap t i m) := by
  unfold sSwap
  rw [h.l (Or.inl rfl) hi]
  exact (h.set (by simp) (by decide) (by decide) (by decide)).set (by simp) (by decide) (by decide) (by decide)
theorem EQs.swF {s t : xS} (h : EQs s t) {c i m : Nat} (hc : c < s.1 19 0) (hi : i < 4 * s.1 19 0) : EQs (sSwF s c i m) (sSwF t c i m) := by
  unfold sSwF
  rw [h.l (q := 16) (Or.inr rfl) hi]
  by_cases h1 : s.1 16 i < 24
  · rw [if_pos h1, if_pos h1]
    refine (h.briF hc).swap ?_
    unfold sBriF
    rw [sA_n (by decide), sA_n (by decide)]; exact hi
  · rw [if_neg h1, if_neg h1]; exact h.swap hi
theorem EQs.swE {s t : xS} (h : EQs s t) {c i m : Nat} (hc : c < s.1 19 0) (hi : i < 4 * s.1 19 0) : EQs (sSwE s c i m) (sSwE t c i m) := by
  unfold sSwE
  rw [h.l (q := 16) (Or.inr rfl) hi]
  by_cases h1 : s.1 16 i < 24
  · rw [if_pos h1, if_pos h1]
    refine (h.briE hc).swap ?_
    unfold sBriE
    rw [sA_n (by decide), sA_n (by decide)]; exact hi
  · rw [if_neg h1, if_neg h1]; exact h.swap hi
theorem EQs.takes {s t : xS} (h : EQs s t) (hI : INV s) {c p : Nat} (hc : c < s.1 19 0) (hp : p < 4) : (sTakes t c p).1 = (sTakes s c p).1 ∧ EQs (sTakes s c p).2 (sTakes t c p).2 := by
  have hi : 4 * c + p < 4 * s.1 19 0 := by omega
  have hn := hI.R.n
  unfold sTakes
  rw [h.l (q := 15) (Or.inl rfl) hi, h.l (q := 16) (Or.inr rfl) hi, h.has, h.has, h.d (q := 22) (by simp) hc]
  by_cases a1 : qHas s (s.1 15 (4 * c + p)) = true
  · obtain ⟨h1, h2⟩ := qHas_t a1
    have h3 := (hI.R.m h1).1
    rw [if_pos a1, if_pos a1]
    exact ⟨h.top h1 h2 h3, h.pop h1 h2 h3⟩
  · rw [if_neg a1, if_neg a1]
    by_cases a2 : qHas s (s.1 16 (4 * c + p)) = true
    · obtain ⟨h1, h2⟩ := qHas_t a2
      have h3 := (hI.R.m h1).1
      rw [if_pos a2, if_pos a2]
      have e : (sExch s (4 * c + p)).1 20 = s.1 20 := by unfold sExch; rw [sA_n (by decide), sA_n (by decide)]
      exact ⟨h.top h1 h2 h3, (h.exch hi).pop h1 (by rw [e]; exact h2) (by rw [e]; exact h3)⟩
    · rw [if_neg a2, if_neg a2]
      by_cases a3 : s.1 22 c = 0
      · rw [if_pos a3, if_pos a3]; exact h.out hI hc
      · rw [if_neg a3, if_neg a3]
        have h24 := (hI.R.c hc).2.2.2.2.2.2.2.1
        have em : t.1 23 (24 * c + (s.1 22 c - 1)) = s.1 23 (24 * c + (s.1 22 c - 1)) := h.r23 hc (by omega) (by omega)
        have hfu := hI.full hc (k := s.1 22 c - 1) (by omega)
        rw [em]
        have h8 := (hI.R.m hfu.1).1
        have ev0 : (sVis s c).1 19 0 = s.1 19 0 := by unfold sVis; simp [sA_1]
        have ef0 : (sFetF (sVis s c) c).1 19 0 = s.1 19 0 := by unfold sFetF; rw [sA_n (by decide), sA_n (by decide), ev0]
        have hv := (h.vis hc).fetF (c := c) (by rw [ev0]; exact hc)
        have hs := hv.swE (c := c) (i := 4 * c + p) (m := s.1 23 (24 * c + (s.1 22 c - 1))) (by rw [ef0]; exact hc) (by rw [ef0]; exact hi)
        have es : sTak3 t c p = sSwE (sFetF (sVis t c) c) c (4 * c + p) (s.1 23 (24 * c + (s.1 22 c - 1))) := by
          rw [sSw_tak, h.d (q := 22) (by simp) hc, em]
        have e20 : (sTak3 s c p).1 20 = s.1 20 := by funext i; exact sTak3_20 (Or.inl rfl)
        have es2 := sSw_tak (s := s) (c := c) (p := p)
        rw [← es, ← es2] at hs
        refine ⟨h.top hfu.1 hfu.2.2.1 h8, hs.pop hfu.1 (by rw [e20]; exact hfu.2.2.1) (by rw [e20]; exact h8)⟩
theorem EQs.giv3 {s t : xS} (h : EQs s t) {b c i m : Nat} (hc : c < s.1 19 0) (hi : i < 4 * s.1 19 0) (hm : m < 24) : EQs (sGiv3 s b c i m) (sGiv3 t b c i m) := by
  have ev0 : (sVis s c).1 19 0 = s.1 19 0 := by unfold sVis; simp [sA_1]
  rw [sGiv3_sw, sGiv3_sw]
  exact ((h.vis hc).swF (c := c) (i := i) (by rw [ev0]; exact hc) (by rw [ev0]; exact hi)).put hm
theorem EQs.gives {s t : xS} (h : EQs s t) (hI : INV s) {b p : Nat} (hb : b < 1984) (hl : s.1 17 b = 1) (hp : p < 4) : EQs (sGives s b p) (sGives t b p) := by
  have hV := hI.V hb (by omega)
  have hn := hI.R.n
  have hp32 : b / 62 < 32 := by omega
  have hc := (hI.R.pg hp32 hV.1).1
  have ec : t.1 13 (b / 62) = s.1 13 (b / 62) := h.p (Or.inl rfl) hp32
  unfold sGives
  rw [ec]
  have h4 : s.1 13 (b / 62) < 4 := hV.1
  have hend := h.endb hI.R hb h4
  clear hV
  generalize s.1 13 (b / 62) = c at hc h4 ⊢
  have hi : 4 * c + p < 4 * s.1 19 0 := by omega
  have e15 := h.l (q := 15) (Or.inl rfl) hi
  have e16 := h.l (q := 16) (Or.inr rfl) hi
  have hr : ∀ m, qRoom t m c = qRoom s m c := fun m => h.rm hc
  by_cases a1 : qRoom s (s.1 15 (4 * c + p)) c = true
  · have e1 : sGiv1 s c (4 * c + p) = s := if_neg (fun e => by rw [a1] at e; cases e.1)
    have e2 : sGiv1 t c (4 * c + p) = t := if_neg (fun e => by rw [e15, hr, a1] at e; cases e.1)
    rw [e1, e2, e15, hr, if_pos a1, if_pos a1]
    exact h.put (qRoom_t a1).1
  · have a1f : qRoom s (s.1 15 (4 * c + p)) c = false := by simpa using a1
    by_cases a2 : qRoom s (s.1 16 (4 * c + p)) c = true
    · have e1 : sGiv1 s c (4 * c + p) = sExch s (4 * c + p) := if_pos ⟨a1f, a2⟩
      have e2 : sGiv1 t c (4 * c + p) = sExch t (4 * c + p) := if_pos ⟨by rw [e15, hr]; exact a1f, by rw [e16, hr]; exact a2⟩
      have hE := h.exch hi
      have e : ∀ q, q ≠ 15 → q ≠ 16 → (sExch s (4 * c + p)).1 q = s.1 q := fun q h1 h2 => by unfold sExch; rw [sA_n h2, sA_n h1]
      have e3 : (sExch s (4 * c + p)).1 15 (4 * c + p) = s.1 16 (4 * c + p) := by simp [sExch, sA_1]
      have e4 : qRoom (sExch s (4 * c + p)) ((sExch s (4 * c + p)).1 15 (4 * c + p)) c = true := by
        rw [e3, qRoom_c (fun q j h => by rw [e q (by omega) (by omega)])]; exact a2
      have hl5 : (sExch t (4 * c + p)).1 15 (4 * c + p) = (sExch s (4 * c + p)).1 15 (4 * c + p) := hE.l (Or.inl rfl) (by rw [e 19 (by decide) (by decide)]; exact hi)
      rw [e1, e2, hl5, hE.rm (by rw [e 19 (by decide) (by decide)]; exact hc), if_pos e4, if_pos e4]
      exact hE.put (qRoom_t e4).1
    · have e1 : sGiv1 s c (4 * c + p) = s := if_neg (fun e => a2 e.2)
      have e2 : sGiv1 t c (4 * c + p) = t := if_neg (fun e => a2 (by have e5 := e.2; rw [e16, hr] at e5; exact e5))
      rw [e1, e2, e15, hr, if_neg a1, if_neg a1]
      unfold sGiv2
      rw [h.d (q := 24) (by simp) hc, h.newm]
      by_cases a3 : 0 < s.1 24 c
      · have h24 := (hI.R.c hc).2.2.2.2.2.2.2.2
        have em := hI.empt hc (k := s.1 24 c - 1) (by omega)
        rw [if_pos a3, if_pos a3, h.r25 hc (by omega) (by omega)]
        have e0 : (sFetE s c).1 19 = s.1 19 := by unfold sFetE; rw [sA_n (by decide), sA_n (by decide)]
        exact (h.fetE hc).giv3 (by rw [e0]; exact hc) (by rw [e0]; exact hi) em.1
      · rw [if_neg a3, if_neg a3]
        by_cases a4 : qNew s < 24
        · rw [if_pos a4, if_pos a4]
          have e0 : (sMade s).1 19 = s.1 19 := by unfold sMade; rw [if_pos a4, sA_n (by decide), sA_n (by decide)]
          exact h.made.giv3 (by rw [e0]; exact hc) (by rw [e0]; exact hi) a4
        · rw [if_neg a4, if_neg a4]
          exact hend
