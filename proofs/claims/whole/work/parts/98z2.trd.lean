/-! the whole reading -/
/-- what has come of a reading -/
def ROUT (j L : Nat) (τ : Nat → Int32) (M X : xMem) (rc rm : Option (Int32 × xMem)) : Prop :=
  (∃ M' X' R tp, rc = some (-1, M') ∧ rm = some (1, X') ∧ PG j M' τ L R tp ∧ M'.1 (26, 0, j) 6 = nI R ∧ FrT0 j M M' ∧ FrM X X')
  ∨ (∃ q M' X', rc = some (nI q, M') ∧ rm = some (0, X') ∧ X'.1 (44, 0, 0) 44 = nI q ∧ FrT0 j M M' ∧ FrM X X' ∧ q ≤ 105)
theorem ROUT.tr {j L : Nat} {τ : Nat → Int32} {M M1 X X1 : xMem} {rc rm : Option (Int32 × xMem)} (h : ROUT j L τ M1 X1 rc rm) (h1 : FrT0 j M M1) (h2 : FrM X X1) : ROUT j L τ M X rc rm := by
  rcases h with ⟨M', X', R, tp, a1, a2, a3, a4, a5, a6⟩ | ⟨q, M', X', a1, a2, a3, a4, a5, a6⟩
  · exact Or.inl ⟨M', X', R, tp, a1, a2, a3, a4, h1.tr a5, h2.tr a6⟩
  · exact Or.inr ⟨q, M', X', a1, a2, a3, h1.tr a4, h2.tr a5, a6⟩
theorem RDM_0 {g : Nat} {X : xMem} {L p k : Nat} (h : MT L p k X) (hL : L ≤ 100) (hp : p ≤ 200) (hk : k ≤ 5) : fM_readsTrace_12 (g + 1) X (some (44, 0, 0)) 0 = some (if p = L ∧ k = 0 then 1 else 0, X) := by
  unfold fM_readsTrace_12
  rw [if_pos rfl, h.gI, Option.bind_some, h.gI, Option.bind_some, h.2.1, h.2.2.1]
  by_cases c1 : p = L
  · rw [if_pos (by rw [c1]), h.gI, Option.bind_some, h.2.2.2]
    by_cases c2 : k = 0
    · rw [if_pos (by rw [c2]; rfl), if_pos ⟨c1, c2⟩]
    · rw [if_neg (show ¬ nI k = (0 : Int32) from by rw [kl_0, nI_eq (by omega) (by decide)]; exact c2), if_neg (fun e => c2 e.2)]
  · rw [if_neg (by rw [nI_eq (by omega) (by omega)]; exact c1), if_neg (fun e => c1 e.1)]
theorem READ {j L : Nat} {τ : Nat → Int32} : ∀ (m p R : Nat) (tp : Nat → Nat) (st : List Nat) (M X : xMem) (l f g : Nat), L - p ≤ m → TS j L p R st M → MT L p st.length X → (∀ q, sgm L X q = sg L M q) → M.1 (25, 0, 0) = τ → PGs j M τ L R tp st p true → l ≤ p → L - p + 3 < f → L - p + 3 < g → ROUT j L τ M X (fT_read_34 f M (some (26, 0, j)) (nI l)) (fM_readsTrace_12 g X (some (44, 0, 0)) 1) := by
  intro m
  induction m with
  | zero =>
    intro p R tp st M X l f g hm hT hM hτ hMτ hP hl hf hg
    obtain ⟨f, rfl⟩ : ∃ q, f = q + 1 := ⟨f - 1, by omega⟩
    obtain ⟨g, rfl⟩ : ∃ q, g = q + 1 := ⟨g - 1, by omega⟩
    have hL := hT.2.2.1
    have hpL : p = L := by have := hP.2.1; omega
    have h9 : M.1 (26, 0, j) 9 = nI L := hT.2.2.2.2.2.2.1
    have h10 : M.1 (26, 0, j) 10 = nI p := hT.2.2.2.2.2.2.2.1
    have hs : sgm L X p = -1 := by unfold sgm; rw [if_neg (by omega)]
    refine Or.inr ⟨p, M, mAt p X, ?_, ?_, (hM.at (p' := p)).2.2.1, ⟨fun _ _ _ => rfl, rfl⟩, FrM.rfl'.w (Or.inl rfl), by omega⟩
    · unfold fT_read_34 fT_read_136
      rw [hT.gI, Option.bind_some, h9]
      by_cases hl2 : nI L ≤ nI l
      · rw [if_pos hl2, hT.gI, Option.bind_some, h10]
      · rw [if_neg hl2, hT.gI (k := 10), Option.bind_some, Option.bind_some, h10, if_pos (show nI L ≤ nI p from by rw [hpL]; exact nI_le (Nat.le_refl _) (by omega)), Option.bind_some]
    · rw [show fM_readsTrace_12 (g + 1) X (some (44, 0, 0)) 1 = _ from by unfold fM_readsTrace_12; rfl]
      rw [if_neg (by decide), hM.ob, Option.bind_some, S_stm hM hL (by omega) (by rw [hs]; decide), hs, if_neg (by decide), if_neg (by decide), if_neg (by decide), if_neg (by decide), Option.bind_some]
      dsimp only
      rw [if_pos rfl]
  | succ m ih =>
    intro p R tp st M X l f g hm hT hM hτ hMτ hP hl hf hg
    by_cases hpL : p < L
    · obtain ⟨f, rfl⟩ : ∃ q, f = q + 1 := ⟨f - 1, by omega⟩
      obtain ⟨g, rfl⟩ : ∃ q, g = q + 1 := ⟨g - 1, by omega⟩
      have hL := hT.2.2.1
      have hj := hT.2.1
      have hRp := hP.1
      have hl5 := hT.2.2.2.2.1
      have h9 : M.1 (26, 0, j) 9 = nI L := hT.2.2.2.2.2.2.1
      have h10 : M.1 (26, 0, j) 10 = nI p := hT.2.2.2.2.2.2.2.1
      have r7 : ∀ M', XW M' → xgR M' (some (26, 0, j)) 6 7 = some (some (33, 0, j)) := fun M' hW => (xgR_w hW (sh_26 hj) (by decide) (by decide) rfl).trans rfl
      have hS := P_stm hT hM hτ hpL (show R < 100 by omega)
      have hcl : fT_read_34 (f + 1) M (some (26, 0, j)) (nI l) = (fT_readBegin M (26, 0, j)).bind fun q15 => if q15.1 = 0 then (xgI q15.2 (some (26, 0, j)) 6 10).bind fun v16 => some (v16, q15.2) else (xgR q15.2 (some (26, 0, j)) 6 7).bind fun v17 => (xgI q15.2 v17 4 1).bind fun v18 => if v18 ≤ nI st.length then (xob q15.2 (some (26, 0, j)) 6).bind fun u19 => (fT_readCloses q15.2 u19).bind fun q20 => (xgI q20 (some (26, 0, j)) 6 10).bind fun v21 => (xgI q20 (some (26, 0, j)) 6 9).bind fun v22 => if v21 < v22 then fT_read_116 (fun M l0 l3 => fT_read_34 f M l0 l3) q20 (some (26, 0, j)) (nI l) else (xgR q20 (some (26, 0, j)) 6 7).bind fun v23 => (xgI q20 v23 4 1).bind fun v24 => if v24 = 0 then some (-1, q20) else fT_read_116 (fun M l0 l3 => fT_read_34 f M l0 l3) q20 (some (26, 0, j)) (nI l) else fT_read_34 f q15.2 (some (26, 0, j)) (nI (l + 1)) := by
        rw [show fT_read_34 (f + 1) M (some (26, 0, j)) (nI l) = _ from by unfold fT_read_34 fT_read_130; rfl]
        rw [hT.gI (k := 9), Option.bind_some, h9, if_neg (show ¬ nI L ≤ nI l from by rw [nI_leI (by omega) (by omega)]; omega), hT.gI (k := 10), Option.bind_some, Option.bind_some, h10, if_neg (show ¬ nI L ≤ nI p from by rw [nI_leI (by omega) (by omega)]; omega), r7 M hT.1, Option.bind_some, xgI_w hT.1 (sh_33 hj), Option.bind_some, hT.2.2.2.2.2.2.2.2.2.1, hT.o6, Option.bind_some, nI_k1]
      have hml : fM_readsTrace_12 (g + 1) X (some (44, 0, 0)) 1 = (fM_readsStatement X (44, 0, 0)).bind fun q7 => if q7.1 = 0 then some (0, q7.2) else if q7.1 = (1 : Int32) then fM_readsTrace_12 g q7.2 (some (44, 0, 0)) 1 else (xob q7.2 (some (44, 0, 0)) 8).bind fun u8 => (fM_readsBetween q7.2 u8).bind fun q9 => if q9.1 = 0 then fM_readsTrace_12 g q9.2 (some (44, 0, 0)) 0 else fM_readsTrace_12 g q9.2 (some (44, 0, 0)) 1 := by
        rw [show fM_readsTrace_12 (g + 1) X (some (44, 0, 0)) 1 = _ from by unfold fM_readsTrace_12 fM_readsTrace_39 fM_readsTrace_44; rfl]
        rw [if_neg (by decide), hM.ob, Option.bind_some]
      rcases hS with ⟨q, M', X', a1, a2, a3, a4, a5, a6, a7⟩ | ⟨q, M', X', a1, a2, a3, a4, a5, a6, a7, a8, a9, a10⟩ | ⟨q, M', X', a1, a2, a3, a4, a5, a6, a7, a8, a9, a10⟩
      · -- it fails
        have hW' : XW M' := by have := hT.1; unfold XW at this ⊢; rw [a3.2.2]; exact this
        refine Or.inr ⟨q, M', X', ?_, ?_, a5, a3.z, a6, a7⟩
        · rw [hcl, a1, Option.bind_some]
          dsimp only
          rw [if_pos rfl, xgI_w hW' (sh_26 hj), Option.bind_some, a2]
        · rw [hml, a4, Option.bind_some]
          dsimp only
          rw [if_pos rfl]
      · -- a statement by itself
        have hpq : p < q := (RW_first a4 a6).1
        rw [hMτ] at a4
        have hP1 := hP.add a3 a4 a6 a7 hpq (by rw [a5, if_neg (by decide)]; exact hl5)
        rw [a5, if_neg (by decide)] at hP1
        have e33 : M'.1 (33, 0, j) 1 = nI st.length := a2.2.2.2.2.2.2.2.2.2.1
        have hMτ' : M'.1 (25, 0, 0) = M.1 (25, 0, 0) := a3.t25
        rw [hMτ] at hMτ'
        obtain ⟨p', R', tp', st', M2, X2, b1, b2, b3, b4, b5, b6, b7, b8⟩ := CLOSES (j := j) (L := L) (τ := τ) st q (R + 1) _ M' X' xF xF a2 a9 (fun q' => by rw [sgm_f a10, sg_fr a3, hτ]) hMτ' hP1 (by unfold xF; omega) (by unfold xF; omega)
        have hcs : fT_readCloses M' (26, 0, j) = some M2 := by
          unfold fT_readCloses
          rw [r7 M' a2.1, Option.bind_some, xgI_w a2.1 (sh_33 hj), Option.bind_some, e33]
          exact b1
        have hτ2 : ∀ q', sgm L X2 q' = sg L M2 q' := fun q' => by rw [sgm_f b7, sgm_f a10, sg_f0 b6, sg_fr a3, hτ]
        have hbt : fM_readsBetween X' (44, 0, 0) = some (if okI 59 59 (sgm L X2 p') = true then (1, mAt (p' + 1) X2) else (0, X2)) := by
          unfold fM_readsBetween
          rw [b2]
          unfold fM_readsBetween_31
          rw [b4.ob, Option.bind_some, show fM_reads X2 (44, 0, 0) (59 : Int32) (59 : Int32) = _ from S_reads b4 hL (by have := b5.2.1; omega), Option.bind_some]
          by_cases c : okI 59 59 (sgm L X2 p') = true
          · rw [if_pos c]; exact if_pos (Or.inr rfl)
          · rw [if_neg c]; exact if_pos (Or.inl rfl)
        have hcl2 : fT_read_34 (f + 1) M (some (26, 0, j)) (nI l) = if nI p' < nI L then fT_read_116 (fun M l0 l3 => fT_read_34 f M l0 l3) M2 (some (26, 0, j)) (nI l) else if nI st'.length = 0 then some (-1, M2) else fT_read_116 (fun M l0 l3 => fT_read_34 f M l0 l3) M2 (some (26, 0, j)) (nI l) := by
          rw [hcl, a1, Option.bind_some]
          dsimp only
          rw [if_neg (by decide), r7 M' a2.1, Option.bind_some, xgI_w a2.1 (sh_33 hj), Option.bind_some, e33, if_pos (nI_le (Nat.le_refl _) (by omega)), a2.o6, Option.bind_some, hcs, Option.bind_some, b3.gI (k := 10), Option.bind_some, b3.gI (k := 9), Option.bind_some, b3.2.2.2.2.2.2.1, b3.2.2.2.2.2.2.2.1, r7 M2 b3.1, Option.bind_some, xgI_w b3.1 (sh_33 hj), Option.bind_some, b3.2.2.2.2.2.2.2.2.2.1]
        have hml2 : fM_readsTrace_12 (g + 1) X (some (44, 0, 0)) 1 = if okI 59 59 (sgm L X2 p') = true then fM_readsTrace_12 g (mAt (p' + 1) X2) (some (44, 0, 0)) 1 else fM_readsTrace_12 g X2 (some (44, 0, 0)) 0 := by
          rw [hml, a8, Option.bind_some]
          dsimp only
          rw [if_neg (by decide), if_neg (by decide), a9.ob, Option.bind_some, hbt, Option.bind_some]
          by_cases c : okI 59 59 (sgm L X2 p') = true
          · rw [if_pos c, if_pos c]; exact if_neg (show ¬ (1 : Int32) = 0 by decide)
          · rw [if_neg c, if_neg c]; exact if_pos rfl
        have hp'L := b5.2.1
        have hb5 := b3.2.2.2.2.1
        have h116 : fT_read_116 (fun M l0 l3 => fT_read_34 f M l0 l3) M2 (some (26, 0, j)) (nI l) = if sg L M2 p' = nI 59 then fT_read_34 f (pAt j (p' + 1) M2) (some (26, 0, j)) (nI (l + 1)) else some (nI p', M2) := by
          unfold fT_read_116 fT_read_130
          rw [b3.o6, Option.bind_some, T_sign b3 (by omega), Option.bind_some]
          by_cases c : sg L M2 p' = nI 59
          · rw [if_pos (show sg L M2 p' = (59 : Int32) from c), if_pos c]
            dsimp only
            rw [if_neg (by decide), nI_k1]
          · rw [if_neg (show ¬ sg L M2 p' = (59 : Int32) from c), if_neg c]
            dsimp only
            rw [if_pos rfl, b3.gI, Option.bind_some, b3.2.2.2.2.2.2.2.1]
        have fr1 : FrT0 j M M2 := a3.z.tr b6
        have fr2 : FrM X X2 := a10.tr b7
        rw [hcl2, hml2]
        by_cases c59 : sg L M2 p' = nI 59
        · have hp2 : p' < L := by
            by_cases hh : p' < L
            · exact hh
            · unfold sg at c59; rw [if_neg hh] at c59; exact absurd c59 (by decide)
          have t59 : τ p' = nI 59 := by
            have : sg L M2 p' = M2.1 (25, 0, 0) p' := if_pos hp2
            rw [← hMτ, ← fr1.t25, ← this]; exact c59
          rw [if_pos (show nI p' < nI L from by rw [nI_ltI (by omega) (by omega)]; exact hp2), h116, if_pos c59, if_pos (okI_1 (a := 59) (by decide) (by rw [hτ2]; exact c59))]
          have hPs : PGs j (pAt j (p' + 1) M2) τ L R' tp' st' (p' + 1) true := (b5.semi t59 (by omega)).fr (fun k r k1 k2 => by unfold pAt; rw [xsi_1, if_neg (fun e => by have := (Prod.mk.inj e.1).1; omega)])
          have fa : FrT0 j M2 (pAt j (p' + 1) M2) := (FrT.rfl'.at (R := 0)).z
          have fb : FrM X2 (mAt (p' + 1) X2) := FrM.rfl'.w (Or.inl rfl)
          have := ih (p' + 1) R' tp' st' (pAt j (p' + 1) M2) (mAt (p' + 1) X2) (l + 1) f g (by omega) b3.at b4.at (fun q' => by rw [sgm_mAt, sg_pAt, hτ2]) (by rw [fa.t25, fr1.t25]; exact hMτ) hPs (by omega) (by omega) (by omega)
          exact this.tr (fr1.tr fa) (fr2.tr fb)
        · rw [if_neg (okI_0 (a := 59) (by decide) (by rw [hτ2]; exact c59))]
          obtain ⟨g, rfl⟩ : ∃ q, g = q + 1 := ⟨g - 1, by omega⟩
          rw [RDM_0 b4 hL (by omega) hb5]
          by_cases c1 : p' = L ∧ st'.length = 0
          · obtain ⟨c1, c2⟩ := c1
            rw [if_neg (show ¬ nI p' < nI L from by rw [c1, nI_ltI (by omega) (by omega)]; omega), if_pos (by rw [c2]; rfl), if_pos ⟨c1, c2⟩]
            have hst : st' = [] := by cases st' with
              | nil => rfl
              | cons a b => cases c2
            subst hst
            rw [c1] at b5
            exact Or.inl ⟨M2, X2, R', tp', rfl, rfl, b5.done b3.2.2.2.1 hL, b3.2.2.2.2.2.2.2.2.1, fr1, fr2⟩
          · rw [if_neg c1]
            have : (if nI p' < nI L then fT_read_116 (fun M l0 l3 => fT_read_34 f M l0 l3) M2 (some (26, 0, j)) (nI l) else if nI st'.length = 0 then some (-1, M2) else fT_read_116 (fun M l0 l3 => fT_read_34 f M l0 l3) M2 (some (26, 0, j)) (nI l)) = some (nI p', M2) := by
              by_cases c2 : p' < L
              · rw [if_pos (show nI p' < nI L from by rw [nI_ltI (by omega) (by omega)]; exact c2), h116, if_neg c59]
              · rw [if_neg (show ¬ nI p' < nI L from by rw [nI_ltI (by omega) (by omega)]; exact c2), if_neg (show ¬ nI st'.length = 0 from by rw [kl_0, nI_eq (by omega) (by decide)]; omega), h116, if_neg c59]
            rw [this]
            exact Or.inr ⟨p', M2, X2, rfl, rfl, b4.2.2.1, fr1, fr2, by omega⟩
      · -- a row that opens
        have hpq : p < q := (RW_first a4 a6).1
        rw [hMτ] at a4
        have hP1 := hP.add a3 a4 a6 a7 hpq (by rw [a5, if_pos rfl]; exact a2.2.2.2.2.1)
        rw [a5, if_pos rfl] at hP1
        have e33 : M'.1 (33, 0, j) 1 = nI (st.length + 1) := a2.2.2.2.2.2.2.2.2.2.1
        have hcl2 : fT_read_34 (f + 1) M (some (26, 0, j)) (nI l) = fT_read_34 f M' (some (26, 0, j)) (nI (l + 1)) := by
          rw [hcl, a1, Option.bind_some]
          dsimp only
          rw [if_neg (by decide), r7 M' a2.1, Option.bind_some, xgI_w a2.1 (sh_33 hj), Option.bind_some, e33, if_neg (show ¬ nI (st.length + 1) ≤ nI st.length from by rw [nI_leI (by omega) (by omega)]; omega)]
        have hml2 : fM_readsTrace_12 (g + 1) X (some (44, 0, 0)) 1 = fM_readsTrace_12 g X' (some (44, 0, 0)) 1 := by
          rw [hml, a8, Option.bind_some]
          dsimp only
          rw [if_neg (by decide), if_pos rfl]
        have hMτ' : M'.1 (25, 0, 0) = M.1 (25, 0, 0) := a3.t25
        rw [hMτ] at hMτ'
        rw [hcl2, hml2]
        have := ih q (R + 1) _ (R :: st) M' X' (l + 1) f g (by omega) a2 (by rw [List.length_cons]; exact a9) (fun q' => by rw [sgm_f a10, sg_fr a3, hτ]) hMτ' hP1 (by omega) (by omega) (by omega)
        exact this.tr a3.z a10
    · exact ih p R tp st M X l f g (by omega) hT hM hτ hMτ hP hl hf hg
