/-! passes from what is kept -/
def p26F (P : Nat) (v13 v14 : Int32) (N : xMem) : xMem := xsi (qFr (P + 4553) (xsi (qFr (P + 4552) N) (44, 0, 0) 13 v13)) (44, 0, 0) 14 v14
theorem p26F_fr {P : Nat} {v13 v14 : Int32} {N : xMem} {a : xId} {x : Nat} (h1 : ¬ (a = (44, 0, 0) ∧ (x = 13 ∨ x = 14 ∨ x = 34))) : (p26F P v13 v14 N).1 a x = N.1 a x := by
  unfold p26F qFr
  rw [xsi_1, if_neg (fun e => h1 ⟨e.1, by omega⟩), xsi_1, if_neg (fun e => h1 ⟨e.1, by omega⟩), xsi_1, if_neg (fun e => h1 ⟨e.1, by omega⟩), xsi_1, if_neg (fun e => h1 ⟨e.1, by omega⟩)]
theorem p26F_13 {P : Nat} {v13 v14 : Int32} {N : xMem} : (p26F P v13 v14 N).1 (44, 0, 0) 13 = v13 := by
  unfold p26F qFr
  rw [xsi_1, if_neg (by decide), xsi_1, if_neg (by decide), xsi_1, if_pos ⟨rfl, rfl⟩]
theorem p26F_14 {P : Nat} {v13 v14 : Int32} {N : xMem} : (p26F P v13 v14 N).1 (44, 0, 0) 14 = v14 := by
  unfold p26F
  rw [xsi_1, if_pos ⟨rfl, rfl⟩]
theorem pFrs_L4 {p : Nat} {N : xMem} : pFrs L4 p N = pFr 61 1984 (p + 32 + 32 + 1984) (pFr 60 1984 (p + 32 + 32) (pFr 59 32 (p + 32) (pFr 58 32 p N))) := rfl
theorem e8_F {P : Nat} {v w : Int32} {Q : xMem} (e4 : Q.1 (72, 0, 0) (P + 4553) = w) : (xsi (qFr (P + 4552) Q) (44, 0, 0) 13 v).1 (72, 0, 0) (P + 4552 + 1) = w := by
  unfold qFr
  rw [xsi_1, if_neg (fun e => absurd e.1 (by decide)), xsi_1, if_neg (fun e => absurd e.1 (by decide))]
  rw [Nat.add_assoc]
  exact e4
theorem p26F_i {P : Nat} {v13 v14 : Int32} {N : xMem} : xsi (qFr (P + 4552 + 1) (xsi (qFr (P + 4552) N) (44, 0, 0) 13 v13)) (44, 0, 0) 14 v14 = p26F P v13 v14 N := by
  unfold p26F
  rw [Nat.add_assoc]
theorem M_all26F {P : Nat} {M : xMem} {α : Type} {K : xMem → Option α} (h : PS 0 P M) (hP : P + 4600 ≤ 9200) :
    ((xob M (some (44, 0, 0)) 8).bind fun u3 => (fM_passesCaches M u3).bind fun q4 => (xob q4 (some (44, 0, 0)) 8).bind fun u5 => (fM_passesMagazines q4 u5).bind fun q6 => (xgR q6 (some (44, 0, 0)) 8 16).bind fun v7 => (xob q6 (some (44, 0, 0)) 8).bind fun u8 => (fM_passes q6 u8 v7).bind fun q9 =>
  (xgR q9 (some (44, 0, 0)) 8 17).bind fun v10 => (xob q9 (some (44, 0, 0)) 8).bind fun u11 => (fM_passes q9 u11 v10).bind fun q12 => (xgR q12 (some (44, 0, 0)) 8 18).bind fun v13 => (xob q12 (some (44, 0, 0)) 8).bind fun u14 => (fM_passes q12 u14 v13).bind fun q15 => (xgR q15 (some (44, 0, 0)) 8 19).bind fun v16 => (xob q15 (some (44, 0, 0)) 8).bind fun u17 => (fM_passes q15 u17 v16).bind fun q18 =>
  (xgI q18 (some (44, 0, 0)) 8 13).bind fun v19 => (xob q18 (some (44, 0, 0)) 8).bind fun u20 => (fM_passOne q18 u20 v19).bind fun q21 => (xpI q21.2 (some (44, 0, 0)) 8 13 q21.1).bind fun M22 => (xgI M22 (some (44, 0, 0)) 8 14).bind fun v23 => (xob M22 (some (44, 0, 0)) 8).bind fun u24 => (fM_passOne M22 u24 v23).bind fun q25 => (xpI q25.2 (some (44, 0, 0)) 8 14 q25.1).bind K)
    = K (p26F P (M.1 (72, 0, 0) (P + 4552)) (M.1 (72, 0, 0) (P + 4553)) (pFrs LK P M)) := by
  rw [xob_w h.1 sh_44, Option.bind_some, M_passCFr h (by omega), Option.bind_some]
  have h1 : PS 0 (P + 48) (pFrs L12 P M) := PS.fro h (by decide)
  have hL9 : pFrs L9 (P + 48) (pFrs L12 P M) = pFrs (L12 ++ L9) P M := pFrs_ap (L := L12) (L' := L9) (p := P) (M := M)
  rw [xob_w h1.1 sh_44, Option.bind_some, M_passMFr h1 (by omega), Option.bind_some, hL9]
  have h2 : PS 0 (P + 520) (pFrs (L12 ++ L9) P M) := PS.fro h (by decide)
  have hL4 : pFrs L4 (P + 520) (pFrs (L12 ++ L9) P M) = pFrs LK P M := pFrs_ap (L := L12 ++ L9) (L' := L4) (p := P) (M := M)
  generalize pFrs (L12 ++ L9) P M = N at h2 hL4 ⊢
  refine (stFr h2 sh_58 (by decide) (by decide) (by omega) (by decide) rfl).trans ?_
  have h3 := PS.fr (κ := 58) (n := 32) h2 (by decide)
  refine (stFr h3 sh_59 (by decide) (by decide) (by omega) (by decide) rfl).trans ?_
  have h4 := PS.fr (κ := 59) (n := 32) h3 (by decide)
  refine (stFr h4 sh_60 (by decide) (by decide) (by omega) (by decide) rfl).trans ?_
  have h5 := PS.fr (κ := 60) (n := 1984) h4 (by decide)
  refine (stFr h5 sh_61 (by decide) (by decide) (by omega) (by decide) rfl).trans ?_
  have h6 := PS.fr (κ := 61) (n := 1984) h5 (by decide)
  rw [pFrs_L4] at hL4
  rw [hL4] at h6 ⊢
  have e3 : (pFrs LK P M).1 (72, 0, 0) (P + 4552) = M.1 (72, 0, 0) (P + 4552) := pFrs_fr (fun e => absurd e.1 (by decide)) (fun r hr e => (LK_ok r hr).1 (Prod.mk.inj e.1).1.symm)
  have e4 : (pFrs LK P M).1 (72, 0, 0) (P + 4553) = M.1 (72, 0, 0) (P + 4553) := pFrs_fr (fun e => absurd e.1 (by decide)) (fun r hr e => (LK_ok r hr).1 (Prod.mk.inj e.1).1.symm)
  generalize pFrs LK P M = Q at h6 e3 e4 ⊢
  rw [show P + 520 + 32 + 32 + 1984 + 1984 = P + 4552 from by omega] at h6
  rw [xgI_w h6.1 sh_44, Option.bind_some, xob_w h6.1 sh_44, Option.bind_some, M_oneFr h6 (by omega), Option.bind_some, e3]
  have h7 := h6.oneF
  rw [xpI_w h7.1 sh_44, Option.bind_some]
  have h8 := h7.set (k := 13) (v := M.1 (72, 0, 0) (P + 4552)) (by decide)
  have e8 := e8_F (v := M.1 (72, 0, 0) (P + 4552)) e4
  rw [xgI_w h8.1 sh_44, Option.bind_some, xob_w h8.1 sh_44, Option.bind_some, M_oneFr h8 (by omega), Option.bind_some, e8]
  have h9 := h8.oneF
  rw [xpI_w h9.1 sh_44, Option.bind_some, p26F_i]
