/-! all passes, and what they come to -/
theorem LK_ok : ∀ r, r ∈ LK → r.1 ≠ 72 ∧ r.1 ≠ 44 := by decide
theorem LK_nd : (LK.map (fun r => r.1)).Nodup := by decide
theorem tot_LK : tot LK = 4552 := by decide
def KPm (w : Nat) (K X : xMem) : Prop := (∀ r, r ∈ offs 0 LK → ∀ x, x < r.2.1 → X.1 (72, 0, 0) (4600 * w + r.2.2 + x) = K.1 (r.1, 0, 0) x)
  ∧ X.1 (72, 0, 0) (4600 * w + 4552) = K.1 (44, 0, 0) 13 ∧ X.1 (72, 0, 0) (4600 * w + 4553) = K.1 (44, 0, 0) 14
  ∧ (w = 1 → ∀ x, x < 26 → X.1 (72, 0, 0) (4600 * w + 4554 + x) = K.1 (71, 0, 0) x) ∧ ∀ c, c < 4 → X.2.1 (73, 0, 0) (4 * w + c) = K.2.1 (57, 0, 0) c
def p26 (P : Nat) (v13 v14 : Int32) (N : xMem) : xMem := xsi (qTo (P + 4553) v14 (xsi (qTo (P + 4552) v13 N) (44, 0, 0) 13 v13)) (44, 0, 0) 14 v14
theorem p26_fr {P : Nat} {v13 v14 : Int32} {N : xMem} {a : xId} {x : Nat} (h1 : ¬ (a = (44, 0, 0) ∧ (x = 13 ∨ x = 14 ∨ x = 34))) (h2 : ¬ (a = (72, 0, 0) ∧ (x = P + 4552 ∨ x = P + 4553))) : (p26 P v13 v14 N).1 a x = N.1 a x := by
  unfold p26 qTo
  rw [xsi_1, if_neg (fun e => h1 ⟨e.1, by omega⟩), xsi_1, if_neg (fun e => h1 ⟨e.1, by omega⟩), xsi_1, if_neg (fun e => h2 ⟨e.1, by omega⟩), xsi_1, if_neg (fun e => h1 ⟨e.1, by omega⟩), xsi_1, if_neg (fun e => h1 ⟨e.1, by omega⟩), xsi_1, if_neg (fun e => h2 ⟨e.1, by omega⟩)]
theorem p26_k3 {P : Nat} {v13 v14 : Int32} {N : xMem} : (p26 P v13 v14 N).1 (72, 0, 0) (P + 4552) = v13 := by
  unfold p26 qTo
  rw [xsi_1, if_neg (fun e => absurd e.1 (by decide)), xsi_1, if_neg (fun e => absurd e.1 (by decide)), xsi_1, if_neg (fun e => by omega), xsi_1, if_neg (fun e => absurd e.1 (by decide)), xsi_1, if_neg (fun e => absurd e.1 (by decide)), xsi_1, if_pos ⟨rfl, rfl⟩]
theorem p26_k4 {P : Nat} {v13 v14 : Int32} {N : xMem} : (p26 P v13 v14 N).1 (72, 0, 0) (P + 4553) = v14 := by
  unfold p26 qTo
  rw [xsi_1, if_neg (fun e => absurd e.1 (by decide)), xsi_1, if_neg (fun e => absurd e.1 (by decide)), xsi_1, if_pos ⟨rfl, rfl⟩]
theorem p26_13 {P : Nat} {v13 v14 : Int32} {N : xMem} : (p26 P v13 v14 N).1 (44, 0, 0) 13 = v13 := by
  unfold p26 qTo
  rw [xsi_1, if_neg (by decide), xsi_1, if_neg (by decide), xsi_1, if_neg (fun e => absurd e.1 (by decide)), xsi_1, if_pos ⟨rfl, rfl⟩]
theorem p26_14 {P : Nat} {v13 v14 : Int32} {N : xMem} : (p26 P v13 v14 N).1 (44, 0, 0) 14 = v14 := by
  unfold p26
  rw [xsi_1, if_pos ⟨rfl, rfl⟩]
theorem M_all26 {P : Nat} {M : xMem} {α : Type} {K : xMem → Option α} (h : PS 1 P M) (hP : P + 4600 ≤ 9200) :
    ((xob M (some (44, 0, 0)) 8).bind fun u3 => (fM_passesCaches M u3).bind fun q4 => (xob q4 (some (44, 0, 0)) 8).bind fun u5 => (fM_passesMagazines q4 u5).bind fun q6 => (xgR q6 (some (44, 0, 0)) 8 16).bind fun v7 => (xob q6 (some (44, 0, 0)) 8).bind fun u8 => (fM_passes q6 u8 v7).bind fun q9 =>
  (xgR q9 (some (44, 0, 0)) 8 17).bind fun v10 => (xob q9 (some (44, 0, 0)) 8).bind fun u11 => (fM_passes q9 u11 v10).bind fun q12 => (xgR q12 (some (44, 0, 0)) 8 18).bind fun v13 => (xob q12 (some (44, 0, 0)) 8).bind fun u14 => (fM_passes q12 u14 v13).bind fun q15 => (xgR q15 (some (44, 0, 0)) 8 19).bind fun v16 => (xob q15 (some (44, 0, 0)) 8).bind fun u17 => (fM_passes q15 u17 v16).bind fun q18 =>
  (xgI q18 (some (44, 0, 0)) 8 13).bind fun v19 => (xob q18 (some (44, 0, 0)) 8).bind fun u20 => (fM_passOne q18 u20 v19).bind fun q21 => (xpI q21.2 (some (44, 0, 0)) 8 13 q21.1).bind fun M22 => (xgI M22 (some (44, 0, 0)) 8 14).bind fun v23 => (xob M22 (some (44, 0, 0)) 8).bind fun u24 => (fM_passOne M22 u24 v23).bind fun q25 => (xpI q25.2 (some (44, 0, 0)) 8 14 q25.1).bind K)
    = K (p26 P (M.1 (44, 0, 0) 13) (M.1 (44, 0, 0) 14) (pTos LK P M)) := by
  rw [xob_w h.1 sh_44, Option.bind_some, M_passCTo h (by omega), Option.bind_some]
  have h1 : PS 1 (P + 48) (pTos L12 P M) := PS.too h (by decide)
  have hL9 : pTos L9 (P + 48) (pTos L12 P M) = pTos (L12 ++ L9) P M := pTos_ap (L := L12) (L' := L9) (p := P) (M := M)
  rw [xob_w h1.1 sh_44, Option.bind_some, M_passMTo h1 (by omega), Option.bind_some, hL9]
  have h2 : PS 1 (P + 520) (pTos (L12 ++ L9) P M) := PS.too h (by decide)
  have hL4 : pTos L4 (P + 520) (pTos (L12 ++ L9) P M) = pTos LK P M := pTos_ap (L := L12 ++ L9) (L' := L4) (p := P) (M := M)
  generalize pTos (L12 ++ L9) P M = N at h2 hL4 ⊢
  refine (stTo h2 sh_58 (by decide) (by decide) (by omega) (by decide) rfl).trans ?_
  have h3 := PS.to (κ := 58) (n := 32) h2 (by decide)
  refine (stTo h3 sh_59 (by decide) (by decide) (by omega) (by decide) rfl).trans ?_
  have h4 := PS.to (κ := 59) (n := 32) h3 (by decide)
  refine (stTo h4 sh_60 (by decide) (by decide) (by omega) (by decide) rfl).trans ?_
  have h5 := PS.to (κ := 60) (n := 1984) h4 (by decide)
  refine (stTo h5 sh_61 (by decide) (by decide) (by omega) (by decide) rfl).trans ?_
  have h6 := PS.to (κ := 61) (n := 1984) h5 (by decide)
  rw [show pTo 61 1984 (P + 520 + 32 + 32 + 1984) (pTo 60 1984 (P + 520 + 32 + 32) (pTo 59 32 (P + 520 + 32) (pTo 58 32 (P + 520) N))) = pTos LK P M from hL4] at h6 ⊢
  have e13 : (pTos LK P M).1 (44, 0, 0) 13 = M.1 (44, 0, 0) 13 := pTos_fr (by decide) (fun e => absurd e.1 (by decide))
  have e14 : (pTos LK P M).1 (44, 0, 0) 14 = M.1 (44, 0, 0) 14 := pTos_fr (by decide) (fun e => absurd e.1 (by decide))
  generalize pTos LK P M = Q at h6 e13 e14 ⊢
  rw [show P + 520 + 32 + 32 + 1984 + 1984 = P + 4552 from by omega] at h6
  rw [xgI_w h6.1 sh_44, Option.bind_some, e13, xob_w h6.1 sh_44, Option.bind_some, M_oneTo h6 (by omega), Option.bind_some]
  have h7 := h6.one (v := M.1 (44, 0, 0) 13)
  rw [xpI_w h7.1 sh_44, Option.bind_some]
  have h8 := h7.set (k := 13) (v := M.1 (44, 0, 0) 13) (by decide)
  have e8 : (xsi (qTo (P + 4552) (M.1 (44, 0, 0) 13) Q) (44, 0, 0) 13 (M.1 (44, 0, 0) 13)).1 (44, 0, 0) 14 = M.1 (44, 0, 0) 14 := by
    unfold qTo
    rw [xsi_1, if_neg (by decide), xsi_1, if_neg (by decide), xsi_1, if_neg (fun e => absurd e.1 (by decide)), e14]
  rw [xgI_w h8.1 sh_44, Option.bind_some, e8, xob_w h8.1 sh_44, Option.bind_some, M_oneTo h8 (by omega), Option.bind_some]
  have h9 := h8.one (v := M.1 (44, 0, 0) 14)
  rw [xpI_w h9.1 sh_44, Option.bind_some]
  rfl
def FrK (w : Nat) (M F : xMem) : Prop := (∀ a x, ¬ (a = (44, 0, 0) ∧ (x = 33 ∨ x = 34)) → ¬ (a = (72, 0, 0) ∧ 4600 * w ≤ x ∧ x < 4600 * w + 4600) → F.1 a x = M.1 a x) ∧ (∀ a x, ¬ (a = (73, 0, 0) ∧ 4 * w ≤ x ∧ x < 4 * w + 4) → F.2.1 a x = M.2.1 a x) ∧ F.2.2 = M.2.2
theorem KP_26 {w : Nat} {M N : xMem} (hN : ∀ a x, ¬ (a = (44, 0, 0) ∧ (x = 33 ∨ x = 34)) → N.1 a x = M.1 a x) {F : xMem} (hF : ∀ x, x < 4554 → F.1 (72, 0, 0) (4600 * w + x) = (p26 (4600 * w) (N.1 (44, 0, 0) 13) (N.1 (44, 0, 0) 14) (pTos LK (4600 * w) N)).1 (72, 0, 0) (4600 * w + x)) :
    (∀ r, r ∈ offs 0 LK → ∀ x, x < r.2.1 → F.1 (72, 0, 0) (4600 * w + r.2.2 + x) = M.1 (r.1, 0, 0) x) ∧ F.1 (72, 0, 0) (4600 * w + 4552) = M.1 (44, 0, 0) 13 ∧ F.1 (72, 0, 0) (4600 * w + 4553) = M.1 (44, 0, 0) 14 := by
  refine ⟨fun r hr x hx => ?_, ?_, ?_⟩
  · have hl := offs_le hr
    rw [tot_LK] at hl
    have hn := LK_ok _ hl.2.2
    rw [Nat.add_assoc, hF _ (by omega), p26_fr (fun e => absurd e.1 (by decide)) (fun e => by omega), ← Nat.add_assoc]
    have := pTos_v (o := 0) (p := 4600 * w) (M := N) LK_ok hr hx
    rw [Nat.add_zero] at this
    rw [this, hN _ _ (fun e => hn.2 (Prod.mk.inj e.1).1)]
  · rw [hF _ (by decide), p26_k3, hN _ _ (by decide)]
  · rw [hF _ (by decide), p26_k4, hN _ _ (by decide)]
theorem M_allTo {w : Nat} {M : xMem} (hW : XW M) (hw : w < 2) : ∃ F, fM_passesAll M (44, 0, 0) (nI w) (nI 1) = some F ∧ KPm w M F ∧ FrK w M F := by
  have hN : ∀ a x, ¬ (a = (44, 0, 0) ∧ (x = 33 ∨ x = 34)) → (xsi (xsi M (44, 0, 0) 34 (nI (4600 * w))) (44, 0, 0) 33 (nI 1)).1 a x = M.1 a x := fun a x h => by
    rw [xsi_1, if_neg (fun e => h ⟨e.1, Or.inl e.2⟩), xsi_1, if_neg (fun e => h ⟨e.1, Or.inr e.2⟩)]
  have hW1 : XW (xsi M (44, 0, 0) 34 (nI (4600 * w))) := hW
  have hP : PS 1 (4600 * w) (xsi (xsi M (44, 0, 0) 34 (nI (4600 * w))) (44, 0, 0) 33 (nI 1)) := ⟨hW, by rw [xsi_1, if_pos ⟨rfl, rfl⟩], by rw [xsi_1, if_neg (by decide), xsi_1, if_pos ⟨rfl, rfl⟩]⟩
  unfold fM_passesAll
  rw [kl_4600, pk_mul, xpI_w hW sh_44, Option.bind_some, xpZ_w (v := nI 1) hW1 sh_44 (Or.inr rfl), Option.bind_some, M_all26 hP (by omega)]
  have e2 : (xsi (xsi M (44, 0, 0) 34 (nI (4600 * w))) (44, 0, 0) 33 (nI 1)).2 = M.2 := rfl
  generalize xsi (xsi M (44, 0, 0) 34 (nI (4600 * w))) (44, 0, 0) 33 (nI 1) = N at hN hP e2 ⊢
  have hQ2 : (p26 (4600 * w) (N.1 (44, 0, 0) 13) (N.1 (44, 0, 0) 14) (pTos LK (4600 * w) N)).2 = M.2 := (pTos_2 (L := LK) (p := 4600 * w) (M := N)).trans e2
  have hQW : XW (p26 (4600 * w) (N.1 (44, 0, 0) 13) (N.1 (44, 0, 0) 14) (pTos LK (4600 * w) N)) := by
    unfold XW at hW ⊢; rw [hQ2]; exact hW
  have hQ34 : PS 1 (4600 * w + 4554) (p26 (4600 * w) (N.1 (44, 0, 0) 13) (N.1 (44, 0, 0) 14) (pTos LK (4600 * w) N)) := by
    have h6 : PS 1 (4600 * w + 4552) (pTos LK (4600 * w) N) := PS.too hP LK_ok
    exact (((h6.one (v := N.1 (44, 0, 0) 13)).set (k := 13) (v := N.1 (44, 0, 0) 13) (by decide)).one (v := N.1 (44, 0, 0) 14)).set (k := 14) (v := N.1 (44, 0, 0) 14) (by decide)
  have hQf : ∀ a x, ¬ (a = (44, 0, 0) ∧ (x = 33 ∨ x = 34)) → ¬ (a = (72, 0, 0) ∧ 4600 * w ≤ x ∧ x < 4600 * w + 4554) → (p26 (4600 * w) (N.1 (44, 0, 0) 13) (N.1 (44, 0, 0) 14) (pTos LK (4600 * w) N)).1 a x = M.1 a x := fun a x h1 h2 => by
    by_cases h13 : a = (44, 0, 0) ∧ x = 13
    · rw [h13.1, h13.2, p26_13, hN _ _ (by decide)]
    · by_cases h14 : a = (44, 0, 0) ∧ x = 14
      · rw [h14.1, h14.2, p26_14, hN _ _ (by decide)]
      · rw [p26_fr (fun e => by
          rcases e.2 with e2 | e2 | e2
          · exact h13 ⟨e.1, e2⟩
          · exact h14 ⟨e.1, e2⟩
          · exact h1 ⟨e.1, Or.inr e2⟩) (fun e => h2 ⟨e.1, by omega⟩), pTos_fr (fun e => h1 ⟨e.1, Or.inr e.2⟩) (fun e => h2 ⟨e.1, by rw [tot_LK] at e; omega⟩), hN _ _ h1]
  have hK := fun F h => KP_26 (w := w) hN (F := F) h
  generalize p26 (4600 * w) (N.1 (44, 0, 0) 13) (N.1 (44, 0, 0) 14) (pTos LK (4600 * w) N) = Q at hQ2 hQW hQ34 hQf hK ⊢
  by_cases h1 : w = 1
  · subst h1
    rw [if_pos (show nI 1 = (1 : Int32) from rfl)]
    refine ⟨tTo 1 4 (pTo 71 26 (4600 * 1 + 4554) Q), ?_, ?_, ?_⟩
    · refine (stTo hQ34 sh_71 (by decide) (by decide) (by decide) (by decide) rfl).trans ?_
      have hW3 : XW (pTo 71 26 (4600 * 1 + 4554) Q) := hQW
      exact M_tTo hW3 (by decide)
    · have hF : ∀ x, x < 4554 → (tTo 1 4 (pTo 71 26 (4600 * 1 + 4554) Q)).1 (72, 0, 0) (4600 * 1 + x) = Q.1 (72, 0, 0) (4600 * 1 + x) := fun x hx => by
        rw [tTo_f1]
        rw [pTo_at, if_neg (fun e => absurd e.1 (by decide)), if_neg (fun e => by omega)]
      have := hK _ hF
      refine ⟨this.1, this.2.1, this.2.2, fun _ x hx => ?_, fun c hc => ?_⟩
      · rw [tTo_f1]
        rw [pTo_at, if_neg (fun e => absurd e.1 (by decide)), if_pos ⟨rfl, by omega, by omega⟩, Nat.add_sub_cancel_left, hQf _ _ (fun e => absurd e.1 (by decide)) (fun e => absurd e.1 (by decide))]
      · rw [tTo_at, if_pos ⟨rfl, by omega, by omega⟩, Nat.add_sub_cancel_left]
        show Q.2.1 _ _ = _
        rw [hQ2]
    · refine ⟨fun a x h1 h2 => ?_, fun a x h1 => ?_, ?_⟩
      · rw [tTo_f1]
        rw [pTo_at, if_neg (fun e => h1 ⟨e.1, Or.inr e.2⟩), if_neg (fun e => h2 ⟨e.1, by omega⟩), hQf _ _ h1 (fun e => h2 ⟨e.1, by omega⟩)]
      · rw [tTo_at, if_neg h1]
        show Q.2.1 _ _ = _
        rw [hQ2]
      · show Q.2.2 = _
        rw [hQ2]
  · have h0 : w = 0 := by omega
    subst h0
    rw [if_neg (show ¬ nI 0 = (1 : Int32) by decide)]
    refine ⟨tTo 0 4 Q, M_tTo hQW (by decide), ?_, ?_⟩
    · have := hK (tTo 0 4 Q) (fun x hx => rfl)
      refine ⟨this.1, this.2.1, this.2.2, fun e => absurd e (by decide), fun c hc => ?_⟩
      rw [tTo_at, if_pos ⟨rfl, by omega, by omega⟩, Nat.add_sub_cancel_left, hQ2]
    · refine ⟨fun a x h1 h2 => hQf _ _ h1 (fun e => h2 ⟨e.1, by omega⟩), fun a x h1 => ?_, by show Q.2.2 = _; rw [hQ2]⟩
      rw [tTo_at, if_neg h1, hQ2]
