/-! passes from what is kept: all -/
def inLK (a : xId) (x : Nat) : Prop := ∃ r, r ∈ LK ∧ a = (r.1, 0, 0) ∧ x < r.2
theorem M_allFr {w : Nat} {M K : xMem} (hW : XW M) (hw : w < 2) (hK : KPm w K M) : ∃ R, fM_passesAll M (44, 0, 0) (nI w) (nI 0) = some R
    ∧ (∀ r, r ∈ LK → ∀ x, x < r.2 → R.1 (r.1, 0, 0) x = K.1 (r.1, 0, 0) x) ∧ R.1 (44, 0, 0) 13 = K.1 (44, 0, 0) 13 ∧ R.1 (44, 0, 0) 14 = K.1 (44, 0, 0) 14
    ∧ (w = 1 → ∀ x, x < 26 → R.1 (71, 0, 0) x = K.1 (71, 0, 0) x) ∧ (∀ c, c < 4 → R.2.1 (57, 0, 0) c = K.2.1 (57, 0, 0) c)
    ∧ (∀ a x, ¬ inLK a x → ¬ (a = (44, 0, 0) ∧ (x = 13 ∨ x = 14 ∨ x = 33 ∨ x = 34)) → ¬ (w = 1 ∧ a = (71, 0, 0) ∧ x < 26) → R.1 a x = M.1 a x)
    ∧ (∀ a x, ¬ (a = (57, 0, 0) ∧ x < 4) → R.2.1 a x = M.2.1 a x) ∧ R.2.2 = M.2.2 := by
  have hN : ∀ a x, ¬ (a = (44, 0, 0) ∧ (x = 33 ∨ x = 34)) → (xsi (xsi M (44, 0, 0) 34 (nI (4600 * w))) (44, 0, 0) 33 (nI 0)).1 a x = M.1 a x := fun a x h => by
    rw [xsi_1, if_neg (fun e => h ⟨e.1, Or.inl e.2⟩), xsi_1, if_neg (fun e => h ⟨e.1, Or.inr e.2⟩)]
  have hW1 : XW (xsi M (44, 0, 0) 34 (nI (4600 * w))) := hW
  have hP : PS 0 (4600 * w) (xsi (xsi M (44, 0, 0) 34 (nI (4600 * w))) (44, 0, 0) 33 (nI 0)) := ⟨hW, by rw [xsi_1, if_pos ⟨rfl, rfl⟩], by rw [xsi_1, if_neg (by decide), xsi_1, if_pos ⟨rfl, rfl⟩]⟩
  unfold fM_passesAll
  rw [kl_4600, pk_mul, xpI_w hW sh_44, Option.bind_some, xpZ_w (v := nI 0) hW1 sh_44 (Or.inl rfl), Option.bind_some, M_all26F hP (by omega)]
  have e2 : (xsi (xsi M (44, 0, 0) 34 (nI (4600 * w))) (44, 0, 0) 33 (nI 0)).2 = M.2 := rfl
  generalize xsi (xsi M (44, 0, 0) 34 (nI (4600 * w))) (44, 0, 0) 33 (nI 0) = N at hN hP e2 ⊢
  have k3 : N.1 (72, 0, 0) (4600 * w + 4552) = K.1 (44, 0, 0) 13 := by rw [hN _ _ (fun e => absurd e.1 (by decide))]; exact hK.2.1
  have k4 : N.1 (72, 0, 0) (4600 * w + 4553) = K.1 (44, 0, 0) 14 := by rw [hN _ _ (fun e => absurd e.1 (by decide))]; exact hK.2.2.1
  rw [k3, k4]
  have hQ2 : (p26F (4600 * w) (K.1 (44, 0, 0) 13) (K.1 (44, 0, 0) 14) (pFrs LK (4600 * w) N)).2 = M.2 := (pFrs_2 (L := LK) (p := 4600 * w) (M := N)).trans e2
  have hQW : XW (p26F (4600 * w) (K.1 (44, 0, 0) 13) (K.1 (44, 0, 0) 14) (pFrs LK (4600 * w) N)) := by
    unfold XW at hW ⊢; rw [hQ2]; exact hW
  have hQ34 : PS 0 (4600 * w + 4554) (p26F (4600 * w) (K.1 (44, 0, 0) 13) (K.1 (44, 0, 0) 14) (pFrs LK (4600 * w) N)) := by
    have h6 : PS 0 (4600 * w + 4552) (pFrs LK (4600 * w) N) := PS.fro hP LK_ok
    exact ((h6.oneF.set (k := 13) (v := K.1 (44, 0, 0) 13) (by decide)).oneF).set (k := 14) (v := K.1 (44, 0, 0) 14) (by decide)
  have hQv : ∀ r, r ∈ LK → ∀ x, x < r.2 → (p26F (4600 * w) (K.1 (44, 0, 0) 13) (K.1 (44, 0, 0) 14) (pFrs LK (4600 * w) N)).1 (r.1, 0, 0) x = K.1 (r.1, 0, 0) x := fun r hr x hx => by
    have hn := LK_ok r hr
    rw [p26F_fr (fun e => hn.2 (Prod.mk.inj e.1).1)]
    obtain ⟨o, ho⟩ : ∃ o, (r.1, r.2, o) ∈ offs 0 LK := by
      have : ∀ L o, r ∈ L → ∃ o', (r.1, r.2, o') ∈ offs o L := by
        intro L
        induction L with
        | nil => intro o h; cases h
        | cons q L ih =>
          intro o h
          rcases List.mem_cons.mp h with h | h
          · subst h; exact ⟨o, List.mem_cons_self⟩
          · obtain ⟨o', h'⟩ := ih (o + q.2) h; exact ⟨o', List.mem_cons_of_mem _ h'⟩
      exact this LK 0 hr
    have h1 := pFrs_v (o := 0) (p := 4600 * w) (M := N) LK_ok LK_nd ho hx
    rw [Nat.add_zero] at h1
    rw [h1, hN _ _ (fun e => absurd e.1 (by decide))]
    exact hK.1 _ ho x hx
  have hQf : ∀ a x, ¬ inLK a x → ¬ (a = (44, 0, 0) ∧ (x = 13 ∨ x = 14 ∨ x = 33 ∨ x = 34)) → (p26F (4600 * w) (K.1 (44, 0, 0) 13) (K.1 (44, 0, 0) 14) (pFrs LK (4600 * w) N)).1 a x = M.1 a x := fun a x h1 h2 => by
    rw [p26F_fr (fun e => h2 ⟨e.1, by omega⟩), pFrs_fr (fun e => h2 ⟨e.1, by omega⟩) (fun r hr e => h1 ⟨r, hr, e⟩), hN _ _ (fun e => h2 ⟨e.1, by omega⟩)]
  have hQ13 := p26F_13 (P := 4600 * w) (v13 := K.1 (44, 0, 0) 13) (v14 := K.1 (44, 0, 0) 14) (N := pFrs LK (4600 * w) N)
  have hQ14 := p26F_14 (P := 4600 * w) (v13 := K.1 (44, 0, 0) 13) (v14 := K.1 (44, 0, 0) 14) (N := pFrs LK (4600 * w) N)
  generalize p26F (4600 * w) (K.1 (44, 0, 0) 13) (K.1 (44, 0, 0) 14) (pFrs LK (4600 * w) N) = Q at hQ2 hQW hQ34 hQf hQv hQ13 hQ14 ⊢
  have n71 : ∀ r, r ∈ LK → r.1 ≠ 71 := by decide
  by_cases h1 : w = 1
  · subst h1
    rw [if_pos (show nI 1 = (1 : Int32) from rfl)]
    have hA : ∀ a x, ¬ (a = (44, 0, 0) ∧ x = 34) → ¬ (a = (71, 0, 0) ∧ x < 26) → (tFr 1 4 (pFr 71 26 (4600 * 1 + 4554) Q)).1 a x = Q.1 a x := fun a x h1 h2 => by
      rw [tFr_f1]
      rw [pFr_at, if_neg h1, if_neg h2]
    refine ⟨tFr 1 4 (pFr 71 26 (4600 * 1 + 4554) Q), ?_, fun r hr x hx => ?_, ?_, ?_, fun _ x hx => ?_, fun c hc => ?_, fun a x h1 h2 h3 => ?_, fun a x h1 => ?_, ?_⟩
    · refine (stFr hQ34 sh_71 (by decide) (by decide) (by decide) (by decide) rfl).trans ?_
      have hW3 : XW (pFr 71 26 (4600 * 1 + 4554) Q) := hQW
      exact M_tFr hW3 (by decide)
    · rw [hA _ _ (fun e => (LK_ok r hr).2 (Prod.mk.inj e.1).1) (fun e => n71 r hr (Prod.mk.inj e.1).1)]; exact hQv r hr x hx
    · rw [hA _ _ (by decide) (fun e => absurd e.1 (by decide))]; exact hQ13
    · rw [hA _ _ (by decide) (fun e => absurd e.1 (by decide))]; exact hQ14
    · rw [tFr_f1]
      rw [pFr_at, if_neg (fun e => absurd e.1 (by decide)), if_pos ⟨rfl, hx⟩, hQf _ _ (fun e => by obtain ⟨r, hr, e, -⟩ := e; exact (LK_ok r hr).1 (Prod.mk.inj e).1.symm) (fun e => absurd e.1 (by decide))]
      exact hK.2.2.2.1 rfl x hx
    · rw [tFr_at, if_pos ⟨rfl, hc⟩]
      show Q.2.1 _ _ = _
      rw [hQ2]; exact hK.2.2.2.2 c hc
    · rw [hA _ _ (fun e => h2 ⟨e.1, by omega⟩) (fun e => h3 ⟨rfl, e⟩)]; exact hQf a x h1 h2
    · rw [tFr_at, if_neg h1]
      show Q.2.1 _ _ = _
      rw [hQ2]
    · show Q.2.2 = _
      rw [hQ2]
  · have h0 : w = 0 := by omega
    subst h0
    rw [if_neg (show ¬ nI 0 = (1 : Int32) by decide)]
    refine ⟨tFr 0 4 Q, M_tFr hQW (by decide), hQv, hQ13, hQ14, fun e => absurd e (by decide), fun c hc => ?_, fun a x h1 h2 _ => hQf a x h1 h2, fun a x h1 => ?_, by show Q.2.2 = _; rw [hQ2]⟩
    · rw [tFr_at, if_pos ⟨rfl, hc⟩, hQ2]; exact hK.2.2.2.2 c hc
    · rw [tFr_at, if_neg h1]
      show Q.2.1 _ _ = _
      rw [hQ2]
