/-! pour says the same; shift -/
theorem sPour_ok {bs : Nat → Nat} {k p : Nat} {a1 : Int32} (hp : p < 4) : ∀ {d i : Nat} {s t : xS} {bp : Nat → Nat}, EQs s t → INV s → (sPour bs k p a1 d i t bp).1 = (sPour bs k p a1 d i s bp).1 ∧ (sPour bs k p a1 d i t bp).2.2 = (sPour bs k p a1 d i s bp).2.2 ∧ EQs (sPour bs k p a1 d i s bp).2.1 (sPour bs k p a1 d i t bp).2.1 ∧ INV (sPour bs k p a1 d i s bp).2.1 := by
  intro d
  induction d with
  | zero => intro i s t bp h hI; exact ⟨rfl, rfl, h, hI⟩
  | succ d ih =>
    intro i s t bp h hI
    have hx : xP t bs bp k (a1 + nI i) = xP s bs bp k (a1 + nI i) := h.live hI.R
    unfold sPour
    rw [hx]
    by_cases h1 : xP s bs bp k (a1 + nI i) < 1984
    · have e17 : s.1 17 (xP s bs bp k (a1 + nI i)) = 1 := (live_ok (s := s) (a := en 32768 m1 (aP bs bp k (a1 + nI i))) h1).2
      have h13 := (hI.V h1 (by rw [e17]; decide)).1
      rw [h.fit hI.R h1 h13]
      by_cases h2 : qFit s (xP s bs bp k (a1 + nI i)) = true
      · rw [if_pos ⟨h1, h2⟩, if_pos ⟨h1, h2⟩]
        exact ih (h.gives hI h1 e17 hp) (hI.gives h1 e17 hp)
      · rw [if_neg (fun e => h2 e.2), if_neg (fun e => h2 e.2)]; exact ⟨rfl, rfl, h, hI⟩
    · rw [if_neg (fun e => h1 e.1), if_neg (fun e => h1 e.1)]; exact ⟨rfl, rfl, h, hI⟩
theorem rPour_ok {s t : xS} (h : EQs s t) (hI : INV s) {bs bp : Nat → Nat} {a0 a1 a2 a3 : Int32} : (rPour t bs bp a0 a1 a2 a3).1 = (rPour s bs bp a0 a1 a2 a3).1 ∧ (rPour t bs bp a0 a1 a2 a3).2.2 = (rPour s bs bp a0 a1 a2 a3).2.2 ∧ EQs (rPour s bs bp a0 a1 a2 a3).2.1 (rPour t bs bp a0 a1 a2 a3).2.1 ∧ INV (rPour s bs bp a0 a1 a2 a3).2.1 := by
  by_cases hg : cN 4 a0 < 4 ∧ cN 41 a2 < 41 ∧ cN 4 a3 < 4
  · have e : gPour a0 a2 a3 = true := decide_eq_true hg
    unfold rPour
    rw [if_pos e, if_pos e]
    obtain ⟨b1, b2, b3, b4⟩ := sPour_ok (bs := bs) (k := cN 4 a0) (a1 := a1) (d := cN 41 a2) (i := 0) (bp := bp) hg.2.2 h hI
    exact ⟨congrArg nI b1, b2, b3, b4⟩
  · rw [rPour_no hg, rPour_no hg]; exact ⟨rfl, rfl, h, hI⟩
