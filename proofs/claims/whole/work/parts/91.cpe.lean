/-! a copied depot -/
def HB (b : Nat) (t : xS) (Y : xMem) : Prop := (∀ κ i k v, cI t κ i k = some v → Y.1 (κ, b, i) k = v) ∧ ∀ κ i k v, cL t κ i k = some v → Y.2.1 (κ, b, i) k = v
theorem HB.eq {b : Nat} {t : xS} {Y : xMem} (h : HB b t Y) : cM b t Y = Y := (cM_ext h.1 (fun _ _ _ _ _ => rfl) h.2 (fun _ _ _ _ _ => rfl) rfl).symm
theorem HB_cM {b : Nat} {t : xS} {Y : xMem} : HB b t (cM b t Y) := ⟨fun _ _ _ _ h => cM_r h, fun _ _ _ _ h => cM_rL h⟩
theorem HB.to {b : Nat} {t : xS} {Y Y' : xMem} (h : HB b t Y) (h1 : ∀ κ i k, κ ≤ 22 → Y'.1 (κ, b, i) k = Y.1 (κ, b, i) k ∨ κ = 0 ∨ κ = 10) (h2 : ∀ κ i k, κ ≤ 22 → Y'.2.1 (κ, b, i) k = Y.2.1 (κ, b, i) k) : HB b t Y' := by
  refine ⟨fun κ i k v e => ?_, fun κ i k v e => ?_⟩
  · by_cases hb : κ = 0 ∨ κ = 10 ∨ 22 < κ
    · rw [cI_big hb] at e; cases e
    · rcases h1 κ i k (by omega) with h3 | h3
      · rw [h3]; exact h.1 κ i k v e
      · omega
  · by_cases hb : κ ≠ 7 ∧ κ ≠ 8 ∧ κ ≠ 14
    · rw [cL_big hb] at e; cases e
    · rw [h2 κ i k (by omega)]; exact h.2 κ i k v e
theorem HB.ov {b b' : Nat} {t t' : xS} {Y : xMem} (h : HB b t Y) (hb : b ≠ b') : HB b t (cM b' t' Y) := ⟨fun κ i k v e => by rw [cM_o (Or.inl hb)]; exact h.1 κ i k v e, fun κ i k v e => by rw [cM_oL (Or.inl hb)]; exact h.2 κ i k v e⟩
theorem HB.unov {b b' : Nat} {t t' : xS} {Y : xMem} (h : HB b t (cM b' t' Y)) (hb : b ≠ b') : HB b t Y := ⟨fun κ i k v e => by have := h.1 κ i k v e; rwa [cM_o (Or.inl hb)] at this, fun κ i k v e => by have := h.2 κ i k v e; rwa [cM_oL (Or.inl hb)] at this⟩
def jk (t : xS) (q j : Nat) : Bool := (q == 21 && !decide (j % 8 < t.1 20 (j / 8))) || ((q == 23 && !decide (j % 24 < t.1 22 (j / 24))) || (q == 25 && !decide (j % 24 < t.1 24 (j / 24))))
def sCp (t t1 : xS) : xS := (fun q j => if jk t q j = true then t1.1 q j else t.1 q j, t.2.1, t.2.2)
theorem sCp_n {t t1 : xS} {q : Nat} (h1 : q ≠ 21) (h2 : q ≠ 23) (h3 : q ≠ 25) : (sCp t t1).1 q = t.1 q := by
  funext j
  have e : jk t q j = false := by
    unfold jk
    rw [beq_eq_false_iff_ne.mpr h1, beq_eq_false_iff_ne.mpr h2, beq_eq_false_iff_ne.mpr h3]; rfl
  show (if jk t q j = true then _ else _) = _
  rw [e]; rfl
theorem sCp_1 {t t1 : xS} {q j : Nat} (h : jk t q j = false) : (sCp t t1).1 q j = t.1 q j := by
  show (if jk t q j = true then _ else _) = _
  rw [h]; rfl
theorem sCp_2 {t t1 : xS} {q j : Nat} (h : jk t q j = true) : (sCp t t1).1 q j = t1.1 q j := if_pos h
theorem cI_cp {t t1 : xS} {κ i k : Nat} (h1 : κ ≠ 18) (h2 : κ ≠ 20) (h3 : κ ≠ 22) : cI (sCp t t1) κ i k = cI t κ i k := by
  cases h : cT κ i k with
  | some r =>
    obtain ⟨q, j, e⟩ := r
    have hv := cT_V h
    have a1 : q ≠ 21 := fun e => h3 (by subst e; exact (Prod.mk.inj hv).1.symm)
    have a2 : q ≠ 23 := fun e => h1 (by subst e; exact (Prod.mk.inj hv).1.symm)
    have a3 : q ≠ 25 := fun e => h2 (by subst e; exact (Prod.mk.inj hv).1.symm)
    rw [cI_T h, cI_T h, sCp_n a1 a2 a3]
  | none =>
    have p1 : qPer (sCp t t1) = qPer t := by funext c; unfold qPer; rw [sCp_n (by decide) (by decide) (by decide)]
    have p2 : qPers (sCp t t1) = qPers t := by funext p; unfold qPers; rw [p1, sCp_n (by decide) (by decide) (by decide)]
    have p3 : qSz (sCp t t1) = qSz t := by funext p; unfold qSz; rw [sCp_n (by decide) (by decide) (by decide), sCp_n (by decide) (by decide) (by decide), sCp_n (by decide) (by decide) (by decide)]
    have p4 : qMade (sCp t t1) = qMade t := by unfold qMade; rw [sCp_n (by decide) (by decide) (by decide)]
    rw [cI_D h, cI_D h]
    unfold cD
    rw [p1, p2, p3, p4]
    rfl
theorem cL_cp {t t1 : xS} {κ i k : Nat} : cL (sCp t t1) κ i k = cL t κ i k := by
  have p1 : qPer (sCp t t1) = qPer t := by funext c; unfold qPer; rw [sCp_n (by decide) (by decide) (by decide)]
  have p2 : qPers (sCp t t1) = qPers t := by funext p; unfold qPers; rw [p1, sCp_n (by decide) (by decide) (by decide)]
  have p5 : fB (sCp t t1) = fB t := by funext v p k; unfold fB; rw [p2, sCp_n (by decide) (by decide) (by decide)]
  unfold cL
  rw [p5]
  rfl
theorem cI_cp18 {t t1 : xS} {i k : Nat} (hi : i < 4) (hk : k < 24) : cI (sCp t t1) 18 i k = if k < t.1 22 i then cI t 18 i k else cI t1 18 i k := by
  have h : cT 18 i k = some (23, 24 * i + k, 0) := if_pos ⟨hi, hk⟩
  have e1 : (24 * i + k) / 24 = i := by omega
  have e2 : (24 * i + k) % 24 = k := by omega
  rw [cI_T h, cI_T h, cI_T h]
  by_cases hh : k < t.1 22 i
  · rw [if_pos hh, sCp_1 (by unfold jk; rw [e1, e2, decide_eq_true hh]; rfl)]
  · rw [if_neg hh, sCp_2 (by unfold jk; rw [e1, e2, decide_eq_false hh]; rfl)]
theorem cI_cp20 {t t1 : xS} {i k : Nat} (hi : i < 4) (hk : k < 24) : cI (sCp t t1) 20 i k = if k < t.1 24 i then cI t 20 i k else cI t1 20 i k := by
  have h : cT 20 i k = some (25, 24 * i + k, 0) := if_pos ⟨hi, hk⟩
  have e1 : (24 * i + k) / 24 = i := by omega
  have e2 : (24 * i + k) % 24 = k := by omega
  rw [cI_T h, cI_T h, cI_T h]
  by_cases hh : k < t.1 24 i
  · rw [if_pos hh, sCp_1 (by unfold jk; rw [e1, e2, decide_eq_true hh]; rfl)]
  · rw [if_neg hh, sCp_2 (by unfold jk; rw [e1, e2, decide_eq_false hh]; rfl)]
theorem cI_cp22 {t t1 : xS} {i k : Nat} (hi : i < 24) (hk : k < 8) : cI (sCp t t1) 22 i k = if k < t.1 20 i then cI t 22 i k else cI t1 22 i k := by
  have h : cT 22 i k = some (21, 8 * i + k, 0) := if_pos ⟨hi, hk⟩
  have e1 : (8 * i + k) / 8 = i := by omega
  have e2 : (8 * i + k) % 8 = k := by omega
  rw [cI_T h, cI_T h, cI_T h]
  by_cases hh : k < t.1 20 i
  · rw [if_pos hh, sCp_1 (by unfold jk; rw [e1, e2, decide_eq_true hh]; rfl)]
  · rw [if_neg hh, sCp_2 (by unfold jk; rw [e1, e2, decide_eq_false hh]; rfl)]
theorem ccp_c {a e κ k : Nat} (h : ccp a e κ k) : (κ = 14 ∧ k < 13) ∨ (κ = 17 ∧ k = 1) ∨ (κ = 18 ∧ k < a) ∨ (κ = 19 ∧ k = 1) ∨ (κ = 20 ∧ k < e) ∨ (κ = 15 ∧ k < 4) ∨ (κ = 16 ∧ k < 4) := h
theorem inF_18 {A E G : Nat → Nat} {i k : Nat} (h : inF A E G 18 i k) : i < 4 ∧ k < A i := by
  rcases h with h | ⟨-, h | h⟩ | h | ⟨h1, h⟩ | h | h
  · omega
  · omega
  · omega
  · omega
  · rcases ccp_c h with h | h | h | h | h | h | h
    · omega
    · omega
    · exact ⟨h1, h.2⟩
    · omega
    · omega
    · omega
    · omega
  · omega
  · omega
theorem inF_20 {A E G : Nat → Nat} {i k : Nat} (h : inF A E G 20 i k) : i < 4 ∧ k < E i := by
  rcases h with h | ⟨-, h | h⟩ | h | ⟨h1, h⟩ | h | h
  · omega
  · omega
  · omega
  · omega
  · rcases ccp_c h with h | h | h | h | h | h | h
    · omega
    · omega
    · omega
    · omega
    · exact ⟨h1, h.2⟩
    · omega
    · omega
  · omega
  · omega
theorem inF_22 {A E G : Nat → Nat} {i k : Nat} (h : inF A E G 22 i k) : i < 24 ∧ k < G i := by
  rcases h with h | ⟨h1, h | h⟩ | h | ⟨h1, h⟩ | h | h
  · omega
  · exact ⟨h1, h.2⟩
  · omega
  · omega
  · rcases ccp_c h with h | h | h | h | h | h | h <;> omega
  · omega
  · omega
theorem domP_18 {i k : Nat} (h : domP 18 i k) : i < 4 ∧ k < 24 := by
  rcases h with h | h | h | h | h | h | h | h | h | h <;> first | exact ⟨h.2.1, h.2.2⟩ | omega
theorem domP_20 {i k : Nat} (h : domP 20 i k) : i < 4 ∧ k < 24 := by
  rcases h with h | h | h | h | h | h | h | h | h | h <;> first | exact ⟨h.2.1, h.2.2⟩ | omega
theorem domP_22 {i k : Nat} (h : domP 22 i k) : i < 24 ∧ k < 8 := by
  rcases h with h | h | h | h | h | h | h | h | h | h <;> first | exact ⟨h.2.1, h.2.2⟩ | omega
theorem ccp_in {A E G : Nat → Nat} {κ i k : Nat} (h : i < 4 ∧ ccp (A i) (E i) κ k) : inF A E G κ i k := Or.inr (Or.inr (Or.inr (Or.inl h)))
theorem dom_in {A E G : Nat → Nat} {κ i k : Nat} (k1 : κ ≠ 18) (k2 : κ ≠ 20) (k3 : κ ≠ 22) (h : domP κ i k) : inF A E G κ i k := by
  rcases h with h | h | h | h | h | ⟨h | h, h2⟩ | ⟨h | h, h2⟩ | ⟨h | h, -⟩ | h | h
  · exact Or.inl h
  · exact Or.inr (Or.inr (Or.inr (Or.inr (Or.inl h))))
  · exact Or.inr (Or.inr (Or.inr (Or.inr (Or.inr h))))
  · exact Or.inr (Or.inr (Or.inl h))
  · exact ccp_in ⟨h.2.1, Or.inl ⟨h.1, h.2.2⟩⟩
  · exact ccp_in ⟨h2.1, Or.inr (Or.inr (Or.inr (Or.inr (Or.inr (Or.inl ⟨h, h2.2⟩)))))⟩
  · exact ccp_in ⟨h2.1, Or.inr (Or.inr (Or.inr (Or.inr (Or.inr (Or.inr ⟨h, h2.2⟩)))))⟩
  · exact ccp_in ⟨h2.1, Or.inr (Or.inl ⟨h, h2.2⟩)⟩
  · exact ccp_in ⟨h2.1, Or.inr (Or.inr (Or.inr (Or.inl ⟨h, h2.2⟩)))⟩
  · exact absurd h k1
  · exact absurd h k2
  · exact Or.inr (Or.inl ⟨h.2.1, Or.inr ⟨h.1, h.2.2⟩⟩)
  · exact absurd h.1 k3
theorem in_dom {A E G : Nat → Nat} {κ i k : Nat} (hA : i < 4 → A i ≤ 24 ∧ E i ≤ 24) (hG : i < 24 → G i ≤ 8) (h : inF A E G κ i k) : domP κ i k := by
  rcases h with h | ⟨h1, h | h⟩ | h | ⟨h1, h⟩ | h | h
  · exact Or.inl h
  · rw [h.1]; exact dP_22 ⟨h1, by have := hG h1; omega⟩
  · rw [h.1]; exact dP_21 ⟨h1, h.2⟩
  · rw [h.1]; exact dP_13 h.2
  · have := hA h1
    rcases ccp_c h with h | h | h | h | h | h | h
    · rw [h.1]; exact dP_14 ⟨h1, h.2⟩
    · exact dP_17 (Or.inl h.1) ⟨h1, h.2⟩
    · exact dP_18 (Or.inl h.1) ⟨h1, by omega⟩
    · exact dP_17 (Or.inr h.1) ⟨h1, h.2⟩
    · exact dP_18 (Or.inr h.1) ⟨h1, by omega⟩
    · exact dP_15 (Or.inl h.1) ⟨h1, h.2⟩
    · exact dP_15 (Or.inr h.1) ⟨h1, h.2⟩
  · exact dP_3 ⟨h.1, h.2.1⟩ h.2.2
  · rw [h.1]; exact dP_9 h.2
theorem D_copy {B b : Nat} {t t1 : xS} {M : xMem} (hW : XW M) (h : b ≠ B) (hb : b < 3) (hB : B < 3) (hA : ∀ i, i < 4 → t.1 22 i ≤ 24 ∧ t.1 24 i ≤ 24) (hG : ∀ i, i < 24 → t.1 20 i ≤ 8 ∧ t.1 18 i ≤ 1) (h0 : HB b t M) (h1 : HB B t1 M) : fD_copyFrom M (1, B, 0) (some (1, b, 0)) = some (cM B (sCp t t1) M) := by
  have e22 : ∀ i, i < 4 → M.1 (17, b, i) 1 = nI (t.1 22 i) := fun i hi => h0.1 17 i 1 _ (cI_T (show cT 17 i 1 = some (22, i, 0) from if_pos ⟨hi, rfl⟩))
  have e24 : ∀ i, i < 4 → M.1 (19, b, i) 1 = nI (t.1 24 i) := fun i hi => h0.1 19 i 1 _ (cI_T (show cT 19 i 1 = some (24, i, 0) from if_pos ⟨hi, rfl⟩))
  have e20 : ∀ i, i < 24 → M.1 (21, b, i) 1 = nI (t.1 20 i) := fun i hi => h0.1 21 i 1 _ (cI_T (show cT 21 i 1 = some (20, i, 0) from if_pos ⟨hi, rfl⟩))
  have e18 : ∀ i, i < 24 → M.1 (13, b, 0) i = nI (t.1 18 i) := fun i hi => h0.1 13 0 i _ (cI_T (show cT 13 0 i = some (18, i, 0) from if_pos ⟨rfl, hi⟩))
  rw [D_copyD (A := t.1 22) (E := t.1 24) (G := t.1 20) hW h hb hB (fun i hi => ⟨e22 i hi, (hA i hi).1⟩) (fun i hi => ⟨e24 i hi, (hA i hi).2⟩) (fun i hi => ⟨e20 i hi, (hG i hi).1⟩) (fun i hi => by
    rw [e18 i hi]
    have := (hG i hi).2
    by_cases hz : t.1 18 i = 0
    · exact Or.inl (by rw [hz]; rfl)
    · exact Or.inr (by rw [show t.1 18 i = 1 from by omega]; rfl))]
  refine congrArg some (cM_ext (fun κ i k v e => ?_) (fun κ b' i k e => ?_) (fun κ i k v e => ?_) (fun κ b' i k e => ?_) rfl)
  · rw [cpS_1]
    have hd : domP κ i k := cI_dm.mp (by rw [e]; simp)
    by_cases hF : inF (t.1 22) (t.1 24) (t.1 20) κ i k
    · rw [if_pos ⟨rfl, sF_iff.mpr hF⟩]
      refine h0.1 κ i k v ?_
      rw [← e]
      by_cases k1 : κ = 18
      · subst k1
        have : i < 4 ∧ k < 24 ∧ k < t.1 22 i := ⟨(inF_18 hF).1, (domP_18 hd).2, (inF_18 hF).2⟩
        rw [cI_cp18 this.1 this.2.1, if_pos this.2.2]
      · by_cases k2 : κ = 20
        · subst k2
          have : i < 4 ∧ k < 24 ∧ k < t.1 24 i := ⟨(inF_20 hF).1, (domP_20 hd).2, (inF_20 hF).2⟩
          rw [cI_cp20 this.1 this.2.1, if_pos this.2.2]
        · by_cases k3 : κ = 22
          · subst k3
            have : i < 24 ∧ k < 8 ∧ k < t.1 20 i := ⟨(inF_22 hF).1, (domP_22 hd).2, (inF_22 hF).2⟩
            rw [cI_cp22 this.1 this.2.1, if_pos this.2.2]
          · rw [cI_cp k1 k2 k3]
    · rw [if_neg (fun e => hF (sF_iff.mp e.2))]
      refine h1.1 κ i k v ?_
      rw [← e]
      by_cases k1 : κ = 18
      · subst k1
        have : i < 4 ∧ k < 24 ∧ ¬ k < t.1 22 i := ⟨(domP_18 hd).1, (domP_18 hd).2, fun e => hF (ccp_in ⟨(domP_18 hd).1, Or.inr (Or.inr (Or.inl ⟨rfl, e⟩))⟩)⟩
        rw [cI_cp18 this.1 this.2.1, if_neg this.2.2]
      · by_cases k2 : κ = 20
        · subst k2
          have : i < 4 ∧ k < 24 ∧ ¬ k < t.1 24 i := ⟨(domP_20 hd).1, (domP_20 hd).2, fun e => hF (ccp_in ⟨(domP_20 hd).1, Or.inr (Or.inr (Or.inr (Or.inr (Or.inl ⟨rfl, e⟩))))⟩)⟩
          rw [cI_cp20 this.1 this.2.1, if_neg this.2.2]
        · by_cases k3 : κ = 22
          · subst k3
            have : i < 24 ∧ k < 8 ∧ ¬ k < t.1 20 i := ⟨(domP_22 hd).1, (domP_22 hd).2, fun e => hF (Or.inr (Or.inl ⟨(domP_22 hd).1, Or.inl ⟨rfl, e⟩⟩))⟩
            rw [cI_cp22 this.1 this.2.1, if_neg this.2.2]
          · exact absurd (dom_in k1 k2 k3 hd) hF
  · rw [cpS_1]
    by_cases hB : b' = B
    · have hd : ¬ domP κ i k := fun hd => by
        rcases e with e | e
        · exact e hB
        · exact cI_dm.mpr hd e
      have hF : ¬ inF (t.1 22) (t.1 24) (t.1 20) κ i k := fun hF => hd (in_dom (fun h => hA i h) (fun h => (hG i h).1) hF)
      rw [if_neg (fun e => hF (sF_iff.mp e.2))]
    · rw [if_neg (fun e => hB e.1)]
  · rw [cpS_2]
    rw [cL_cp] at e
    have hd : ((κ = 7 ∨ κ = 8) ∧ i = 0 ∧ k < 32) ∨ (i < 4 ∧ κ = 14 ∧ k = 13) := by
      unfold cL at e
      split at e <;> (try split at e) <;> first | omega | (cases e; done)
    rw [if_pos ⟨rfl, sF2_iff.mpr hd⟩]
    exact h0.2 κ i k v e
  · rw [cpS_2]
    by_cases hB : b' = B
    · have hF : ¬ (((κ = 7 ∨ κ = 8) ∧ i = 0 ∧ k < 32) ∨ (i < 4 ∧ κ = 14 ∧ k = 13)) := fun hF => by
        rcases e with e | e
        · exact e hB
        · rcases hF with ⟨h1 | h1, h2, h3⟩ | ⟨h1, h2, h3⟩
          · subst h1; unfold cL at e; simp [h2, h3] at e
          · subst h1; unfold cL at e; simp [h2, h3] at e
          · subst h2; unfold cL at e; simp [h1, h3] at e
      rw [if_neg (fun e => hF (sF2_iff.mp e.2))]
    · rw [if_neg (fun e => hB e.1)]
theorem EQs.cp {s t t1 : xS} (h : EQs s t) (hI : INV s) : EQs s (sCp t t1) := by
  refine ⟨fun q j hm => ?_, h.2.1, h.2.2⟩
  have hR := hI.R
  have hf : jk t q j = false := by
    unfold mg at hm
    unfold jk
    by_cases h1 : q = 21
    · have hh : j < 192 ∧ j % 8 < s.1 20 (j / 8) := by omega
      subst h1
      rw [h.m (Or.inr rfl) (by omega), decide_eq_true hh.2]; rfl
    · by_cases h2 : q = 23
      · have hh : j / 24 < s.1 19 0 ∧ j % 24 < s.1 22 (j / 24) := by omega
        subst h2
        rw [h.d (q := 22) (Or.inl rfl) hh.1, decide_eq_true hh.2]; rfl
      · by_cases h3 : q = 25
        · have hh : j / 24 < s.1 19 0 ∧ j % 24 < s.1 24 (j / 24) := by omega
          subst h3
          rw [h.d (q := 24) (Or.inr rfl) hh.1, decide_eq_true hh.2]; rfl
        · rw [beq_eq_false_iff_ne.mpr h1, beq_eq_false_iff_ne.mpr h2, beq_eq_false_iff_ne.mpr h3]; rfl
  rw [sCp_1 hf]
  exact h.1 q j hm
theorem UC.cp {t t1 : xS} (h : UC t) : UC (sCp t t1) := fun c hc => by
  rw [sCp_n (by decide) (by decide) (by decide), sCp_n (by decide) (by decide) (by decide)]
  exact h c (by rw [sCp_n (by decide) (by decide) (by decide)] at hc; exact hc)
/-- the copy, of a depot that holds -/
theorem D_cpy {B b : Nat} {t t1 : xS} {M : xMem} (hW : XW M) (h : b ≠ B) (hb : b < 3) (hB : B < 3) (hI : INV t) (hU : UC t) (h0 : HB b t M) (h1 : HB B t1 M) : fD_copyFrom M (1, B, 0) (some (1, b, 0)) = some (cM B (sCp t t1) M) :=
  D_copy hW h hb hB (fun i hi => by
    by_cases hc : i < t.1 19 0
    · have := hI.R.c hc; omega
    · exact hU i (by omega)) (fun i hi => ⟨(hI.R.m hi).1, hI.M hi⟩) h0 h1
