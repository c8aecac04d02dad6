/-! lay goes on; pour -/
theorem RBc_cM {t : xS} {Y : xMem} {bs bp : Nat → Nat} : RBc bs bp (cM 0 t Y) = RBc bs bp Y := by
  unfold RBc
  refine propext ⟨fun h => ⟨fun k hk => ?_, fun i j hi hj => ?_⟩, fun h => ⟨fun k hk => ?_, fun i j hi hj => ?_⟩⟩
  · rw [← h.1 k hk, cO_r (by decide)]
  · rw [← h.2 i j hi hj, cO_r (by decide)]
  · rw [← h.1 k hk, cO_r (by decide)]
  · rw [← h.2 i j hi hj, cO_r (by decide)]
def bpLay (bp : Nat → Nat) (k j v x : Nat) : Nat := if x = 40 * k + j then v else bp x
theorem RBc.lay {bs bp : Nat → Nat} {k j v : Nat} {M : xMem} (h : RBc bs bp M) (hj : j < 40) {a : Int32} (ha : a = en 32768 m1 v) : RBc bs (bpLay bp k j v) (xsi M (42, 0, k) j a) := by
  refine ⟨fun i hi => ?_, fun i x hi hx => ?_⟩
  · rw [xsi_1, if_neg (by simp)]; exact h.1 i hi
  · unfold bpLay
    rw [xsi_1]
    by_cases h1 : i = k ∧ x = j
    · rw [if_pos ⟨by rw [h1.1], h1.2⟩, if_pos (by omega)]; exact ha
    · rw [if_neg (fun e => h1 ⟨(Prod.mk.inj (Prod.mk.inj e.1).2).2, e.2⟩), if_neg (by omega)]; exact h.2 i x hi hx
theorem RBm.lay {bs bp : Nat → Nat} {k j v : Nat} {X : xMem} (h : RBm bs bp X) {a : Int32} (ha : a = en 32768 (-9) v) : RBm bs (bpLay bp k j v) (xsi X (79, 0, 0) (40 * k + j) a) := by
  refine ⟨fun i hi => ?_, fun x hx => ?_⟩
  · rw [xsi_1, if_neg (by simp)]; exact h.1 i hi
  · unfold bpLay
    rw [xsi_1]
    by_cases h1 : x = 40 * k + j
    · rw [if_pos ⟨rfl, h1⟩, if_pos h1]; exact ha
    · rw [if_neg (fun e => h1 e.2), if_neg h1]; exact h.2 x hx
theorem lay_v {s : xS} {a0 a2 : Int32} (h : gLay s a0 a2 = true) : a2 = en 32768 m1 (cN 32768 a2) ∧ (if 0 ≤ a2 then a2 else -9) = en 32768 (-9) (cN 32768 a2) := by
  obtain ⟨-, h⟩ := of_decide_eq_true h
  rcases h with rfl | h
  · have e : cN 32768 (-1) = 32768 := by decide
    rw [e, en_ge (by decide), en_ge (by decide)]
    exact ⟨rfl, if_neg (by decide)⟩
  · have h1 : qBeI s a2 < 1984 := by
      unfold qLive at h
      by_cases h2 : qBeI s a2 < 1984 ∧ s.1 17 (qBeI s a2) = 1
      · exact h2.1
      · rw [if_neg h2] at h; omega
    have h3 : cN 32768 a2 < 32768 := by
      unfold qBeI at h1
      by_cases h2 : cN 32768 a2 < 32768
      · exact h2
      · rw [if_neg h2] at h1; omega
    rcases ge_cases 32768 a2 (by decide) with ⟨h', -⟩ | ⟨v, hv, rfl, e⟩
    · exact absurd h3 h'
    · have h4 : (0 : Int32) ≤ nI v := by rw [kl_0, nI_leI (by decide) (by omega)]; omega
      rw [e, en_lt hv, en_lt hv, if_pos h4]; exact ⟨rfl, rfl⟩
theorem rLay_ok {s t : xS} (h : EQs s t) (hI : INV s) {bs : Nat → Nat} {a0 a1 a2 : Int32} : gLay t a0 a2 = gLay s a0 a2 ∧ rLay t bs a0 a1 a2 = rLay s bs a0 a1 a2 := by
  have e : qLive t a2 = qLive s a2 := by
    unfold qLive
    rw [h.begI hI.R]
    by_cases h1 : qBeI s a2 < 1984
    · rw [h.x h1]
    · rw [if_neg (fun e => h1 e.1), if_neg (fun e => h1 e.1)]
  have e1 : gLay t a0 a2 = gLay s a0 a2 := by unfold gLay; rw [e]
  exact ⟨e1, by unfold rLay; rw [e1]⟩
