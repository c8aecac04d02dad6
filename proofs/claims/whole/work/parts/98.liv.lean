/-! what is live stays so -/
theorem takes_keep {s : xS} (h : INV s) {c p y : Nat} (hc : c < s.1 19 0) (hp : p < 4) (hy : y < 1984) (h1 : s.1 17 y = 1) : (sTakes s c p).2.1 17 y = 1 ∧ (sTakes s c p).1 ≠ y := by
  have hn := h.R.n
  have pop : ∀ u m, (∀ z, u.1 17 z = s.1 17 z) → (sPop u m).1 17 y = 1 := fun u m hu => by
    unfold sPop; rw [sA_1]
    split
    · rfl
    · rw [sA_n (by decide), hu]; exact h1
  have top : ∀ m, m < 24 → 0 < s.1 20 m → qTop s m ≠ y := fun m hm h0 e => by
    have h2 := h.H (k := s.1 20 m - 1) hm (by omega)
    unfold qTop at e
    rw [show 8 * m + s.1 20 m - 1 = 8 * m + (s.1 20 m - 1) from by omega] at e
    rw [e] at h2; omega
  unfold sTakes
  by_cases a1 : qHas s (s.1 15 (4 * c + p)) = true
  · obtain ⟨b1, b2⟩ := qHas_t a1
    rw [if_pos a1]; exact ⟨pop _ _ (fun _ => rfl), top _ b1 b2⟩
  · rw [if_neg a1]
    by_cases a2 : qHas s (s.1 16 (4 * c + p)) = true
    · obtain ⟨b1, b2⟩ := qHas_t a2
      rw [if_pos a2]
      exact ⟨pop _ _ (fun z => by unfold sExch; rw [sA_n (by decide), sA_n (by decide)]), top _ b1 b2⟩
    · rw [if_neg a2]
      by_cases a3 : s.1 22 c = 0
      · rw [if_pos a3]
        unfold sOut
        by_cases b1 : qFirst s c < 1984
        · rw [if_pos b1]
          have hq := qFirst_ok h.R (by omega) b1
          refine ⟨?_, fun e => by have := hq.2.2.2.2; rw [show qFirst s c = y from e] at this; omega⟩
          show (sMk s c (qFirst s c)).1 17 y = 1
          unfold sMk; rw [sA_n (by decide), sA_1]
          split
          · rfl
          · exact h1
        · rw [if_neg b1]
          by_cases b2 : qPage s < 32
          · rw [if_pos b2]
            have h3 := fF_yes (P := fun p => !decide (s.1 13 p < 4)) (d := 32) (i := 0) (by unfold qPage at b2; omega)
            have h4 : ¬ s.1 13 (qPage s) < 4 := fun h4 => by
              have h5 : (!decide (s.1 13 (qPage s) < 4)) = true := h3
              rw [decide_eq_true h4] at h5; cases h5
            have h5 := (h.V hy (by omega)).1
            have hne : y / 62 ≠ qPage s := fun e => h4 (e ▸ h5)
            refine ⟨?_, fun e => hne (by have : 62 * qPage s = y := e; omega)⟩
            show (sMk (sNew s c (qPage s)) c (62 * qPage s)).1 17 y = 1
            unfold sMk; rw [sA_n (by decide), sA_1]
            split
            · rfl
            · show (sNew s c (qPage s)).1 17 y = 1
              rw [sNew_b, sA_n (by decide), sNb_1, if_neg (by omega), if_neg (by simp), if_neg (by simp)]; exact h1
          · rw [if_neg b2]; exact ⟨h1, by show (1984 : Nat) ≠ y; omega⟩
      · rw [if_neg a3]
        have hf := h.full (c := c) (k := s.1 22 c - 1) hc (by omega)
        refine ⟨pop _ _ (fun z => ?_), top _ hf.1 hf.2.2.1⟩
        unfold sTak3 sSwap
        rw [sA_n (by decide), sA_n (by decide)]
        split
        · unfold sBriE sFetF sVis
          rw [sA_n (by decide), sA_n (by decide), sA_n (by decide), sA_n (by decide), sA_n (by decide), sA_n (by decide)]
        · unfold sFetF sVis
          rw [sA_n (by decide), sA_n (by decide), sA_n (by decide), sA_n (by decide)]
theorem gives_17 {s : xS} {b p y : Nat} (hy : y ≠ b) : (sGives s b p).1 17 y = s.1 17 y := by
  have put : ∀ u m, (sPut u m b).1 17 y = u.1 17 y := fun u m => by unfold sPut; rw [sA_1, if_neg (fun e => hy e.2), sA_n (by decide), sA_n (by decide)]
  have g1 : ∀ c i, (sGiv1 s c i).1 17 y = s.1 17 y := fun c i => by
    unfold sGiv1
    split
    · unfold sExch; rw [sA_n (by decide), sA_n (by decide)]
    · rfl
  have g3 : ∀ u c i m, (sGiv3 u b c i m).1 17 y = u.1 17 y := fun u c i m => by
    unfold sGiv3
    rw [put]
    unfold sSwap
    rw [sA_n (by decide), sA_n (by decide)]
    split
    · unfold sBriF sVis; rw [sA_n (by decide), sA_n (by decide), sA_n (by decide), sA_n (by decide)]
    · unfold sVis; rw [sA_n (by decide), sA_n (by decide)]
  unfold sGives
  split
  · rw [put, g1]
  · unfold sGiv2
    split
    · rw [g3]; unfold sFetE; rw [sA_n (by decide), sA_n (by decide)]
    · split
      · rw [g3]; unfold sMade
        split
        · rw [sA_n (by decide), sA_n (by decide)]
        · rfl
      · rw [sEnd_17, if_neg hy]
theorem gives_19 {s : xS} (h : INV s) {b p : Nat} (hb : b < 1984) (h1 : s.1 17 b = 1) : (sGives s b p).1 19 0 = s.1 19 0 := by
  have hV := (h.V hb (by omega)).1
  exact (UF.gives (UF.rfl' (n := s.1 13 (b / 62) + 1) (s := s)) (Nat.lt_succ_self _)).1
/-- the live ones that are held -/
def LV (s : xS) (L : List Nat) : Prop := L.Nodup ∧ ∀ y, y ∈ L → y < 1984 ∧ s.1 17 y = 1
theorem LV.take {s : xS} {L : List Nat} (h : LV s L) (hI : INV s) {c p : Nat} (hc : c < s.1 19 0) (hp : p < 4) : LV (sTakes s c p).2 (if (sTakes s c p).1 < 1984 then (sTakes s c p).1 :: L else L) := by
  have hk := fun y hy => takes_keep (y := y) hI hc hp (h.2 y hy).1 (h.2 y hy).2
  split
  next hl =>
    refine ⟨List.nodup_cons.mpr ⟨fun e => (hk _ e).2 rfl, h.1⟩, fun y hy => ?_⟩
    rcases List.mem_cons.mp hy with rfl | hy
    · exact ⟨hl, takes_live hI hc hp hl⟩
    · exact ⟨(h.2 y hy).1, (hk y hy).1⟩
  next => exact ⟨h.1, fun y hy => ⟨(h.2 y hy).1, (hk y hy).1⟩⟩
theorem LV.give {s : xS} {x p : Nat} {L : List Nat} (h : LV s (x :: L)) : LV (sGives s x p) L :=
  have hd := List.nodup_cons.mp h.1
  ⟨hd.2, fun y hy => ⟨(h.2 y (List.mem_cons_of_mem _ hy)).1, by rw [gives_17 (fun (e : y = x) => hd.1 (e ▸ hy))]; exact (h.2 y (List.mem_cons_of_mem _ hy)).2⟩⟩
theorem LV.tick {s : xS} {L : List Nat} (h : LV s L) (hk : ∀ y, y < 1984 → s.1 17 y = 1 → (sTick s).1 17 y = 1) : LV (sTick s) L := ⟨h.1, fun y hy => ⟨(h.2 y hy).1, hk y (h.2 y hy).1 (h.2 y hy).2⟩⟩
theorem nodup_le : ∀ (n : Nat) {L : List Nat}, L.Nodup → (∀ y, y ∈ L → y < n) → L.length ≤ n := by
  intro n
  induction n with
  | zero => intro L _ h; cases L with
    | nil => exact Nat.le_refl _
    | cons x L => exact absurd (h x List.mem_cons_self) (Nat.not_lt_zero _)
  | succ n ih =>
    intro L hd h
    have h1 := ih (L := L.erase n) (hd.erase _) (fun y hy => by
      have h2 := (List.Nodup.mem_erase_iff hd).mp hy
      have := h y h2.2
      omega)
    have h3 : L.length ≤ (L.erase n).length + 1 := by
      rw [List.length_erase]
      split <;> omega
    omega
/-! an interval's end leaves the live ones -/
def KL (y : Nat) (s : xS) : Prop := (∀ m k, m < 24 → k < s.1 20 m → s.1 17 (s.1 21 (8 * m + k)) = 2) ∧ (∀ m m' k k', m < 24 → m' < 24 → k < s.1 20 m → k' < s.1 20 m' → s.1 21 (8 * m + k) = s.1 21 (8 * m' + k') → m = m' ∧ k = k') ∧ s.1 17 y = 1
theorem KL.k {y : Nat} {s t : xS} (h : KL y s) (h1 : t.1 17 = s.1 17) (h2 : t.1 20 = s.1 20) (h3 : t.1 21 = s.1 21) : KL y t := by
  unfold KL; rw [h1, h2, h3]; exact h
theorem KL.a {y q j v : Nat} {s : xS} (h : KL y s) (h1 : q ≠ 17 ∧ q ≠ 20 ∧ q ≠ 21) : KL y (sA s q j v) := h.k (sA_n h1.1.symm) (sA_n h1.2.1.symm) (sA_n h1.2.2.symm)
theorem KL.emp {y m : Nat} {s : xS} (h : KL y s) : KL y (sEmp s m) := by
  have e21 : (sEmp s m).1 21 = s.1 21 := sEmp_1 (by decide) (by decide) (by decide) (by decide)
  by_cases hm : m < 24
  · refine ⟨fun m' k hm' hk => ?_, fun m1 m2 k1 k2 a1 a2 a3 a4 a5 => ?_, ?_⟩
    · rw [sEmp_20] at hk
      by_cases e : m' = m ∧ m < 24
      · rw [if_pos e] at hk; omega
      · rw [if_neg e] at hk
        rw [e21, sEmp_17.2 (fun j hj e2 => e ⟨(h.2.1 m m' j k hm hm' hj hk e2).1.symm, hm⟩)]
        exact h.1 m' k hm' hk
    · rw [sEmp_20] at a3 a4
      rw [e21] at a5
      have b3 : k1 < s.1 20 m1 := by split at a3 <;> omega
      have b4 : k2 < s.1 20 m2 := by split at a4 <;> omega
      exact h.2.1 m1 m2 k1 k2 a1 a2 b3 b4 a5
    · rw [sEmp_17.2 (fun j hj e2 => by have := h.1 m j hm hj; rw [e2] at this; have := h.2.2; omega)]
      exact h.2.2
  · have : sEmp s m = s := by unfold sEmp; rw [if_neg hm]
    rw [this]; exact h
theorem KL.dr {y i : Nat} {s : xS} (h : KL y s) : KL y (sDr s i) := by
  unfold sDr
  exact (h.emp.emp.a (by decide)).a (by decide)
theorem KL.drs {y c : Nat} : ∀ {d p : Nat} {s : xS}, KL y s → KL y (sDrs s c d p) := by
  intro d
  induction d with
  | zero => intro p s h; exact h
  | succ d ih => intro p s h; unfold sDrs; exact ih h.dr
theorem KL.unF {y c : Nat} : ∀ {d p : Nat} {s : xS}, KL y s → KL y (sUnF s c d p) := by
  intro d
  induction d with
  | zero => intro p s h; exact h
  | succ d ih => intro p s h; unfold sUnF; exact ih h.emp
theorem KL.unE {y c : Nat} : ∀ {d p : Nat} {s : xS}, KL y s → KL y (sUnE s c d p) := by
  intro d
  induction d with
  | zero => intro p s h; exact h
  | succ d ih => intro p s h; unfold sUnE; exact ih h.emp
theorem KL.shF {y c n : Nat} : ∀ {d p : Nat} {s : xS}, KL y s → KL y (sShF s c n d p) := by
  intro d
  induction d with
  | zero => intro p s h; exact h
  | succ d ih => intro p s h; unfold sShF; exact ih (h.a (by decide))
theorem KL.shE {y c n : Nat} : ∀ {d p : Nat} {s : xS}, KL y s → KL y (sShE s c n d p) := by
  intro d
  induction d with
  | zero => intro p s h; exact h
  | succ d ih => intro p s h; unfold sShE; exact ih (h.a (by decide))
theorem KL.uff {y c n : Nat} {s : xS} (h : KL y s) : KL y (sUFF s c n) := by
  unfold sUFF
  exact h.unF.shF.a (by decide)
theorem KL.ufe {y c n : Nat} {s : xS} (h : KL y s) : KL y (sUFE s c n) := by
  unfold sUFE
  exact h.unE.shE.a (by decide)
theorem KL.ua {y c : Nat} {s : xS} (h : KL y s) : KL y (sUA s c) := by
  unfold sUA
  exact h.drs.uff.ufe
theorem KL.rez {y c : Nat} {s : xS} (h : KL y s) : KL y (sRez s c) := by
  have h1 : KL y (sRz1 s c) := by
    unfold sRz1
    split
    · exact h
    · exact (h.a (by decide)).ua
  have h2 : KL y (sRz2 (sRz1 s c) c) := by
    unfold sRz2
    exact h1.a (by decide)
  unfold sRez sRz3
  split
  · split
    · exact h2.a (by decide)
    · exact ((h2.a (by decide)).a (by decide)).ua
  · exact h2
theorem KL.int {y : Nat} : ∀ {d c : Nat} {s : xS}, KL y s → KL y (sInt s d c) := by
  intro d
  induction d with
  | zero => intro c s h; exact h
  | succ d ih =>
    intro c s h
    unfold sInt sIn2 sIn1
    exact ih (((h.uff.ufe.rez.a (by decide)).a (by decide)).a (by decide))
theorem tick_17 {s : xS} (hI : INV s) {y : Nat} (h : s.1 17 y = 1) : (sTick s).1 17 y = 1 := by
  have hk : KL y s := ⟨fun m k hm hk => (hI.1.2.2.1 m hm).2.2 k hk, hI.1.2.2.2, h⟩
  unfold sTick
  exact (KL.int (hk.a (by decide))).2.2
theorem tick_19 {s : xS} : (sTick s).1 19 0 = s.1 19 0 := (UF.tick (UF.rfl' (n := s.1 19 0)) (Nat.le_refl _)).1
