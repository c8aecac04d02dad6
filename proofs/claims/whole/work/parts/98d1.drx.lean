/-! drawn, the class's -/
theorem C_drawn {M : xMem} {t t1 : xS} {a0 a1 a2 : Int32} (hW : XW M) (hI : INV t) (hU : UC t) (h0 : HB 0 t M) (h1 : HB 1 t1 M) : ∃ u N', fX_drawn M (0, 0, 0) a0 a1 a2 = some (rDrawn t a0 a1 a2, cM 1 u N') ∧ FrN M N' := by
  have no : ∃ u N', (some ((-1 : Int32), M) : Option (Int32 × xMem)) = some (m1, cM 1 u N') ∧ FrN M N' := ⟨t1, M, by rw [h1.eq]; rfl, FrN.rfl'⟩
  unfold fX_drawn rDrawn
  by_cases c1 : a1 < (1 : Int32)
  · rw [if_pos c1, if_neg (by unfold okI; rw [if_pos (show a1 < nI 1 from c1)]; decide)]; exact no
  · rw [if_neg c1]
    by_cases c2 : (400 : Int32) < a1
    · rw [if_pos c2, if_neg (by unfold okI; rw [if_neg (show ¬ a1 < nI 1 from c1), if_pos (show nI 400 < a1 from c2)]; decide)]; exact no
    · have hok : okI 1 400 a1 = true := by unfold okI; rw [if_neg (show ¬ a1 < nI 1 from c1), if_neg (show ¬ nI 400 < a1 from c2)]
      rw [if_neg c2, if_pos hok]
      by_cases c3 : a2 < 0
      · rw [if_pos c3, if_neg (by unfold okI; rw [if_pos (show a2 < nI 0 from c3)]; decide)]; exact no
      · rw [if_neg c3]
        by_cases c4 : a2 ≤ 3
        · have hok2 : okI 0 3 a2 = true := by
            have c4' : a2 ≤ nI 3 := c4
            unfold okI
            rw [if_neg (show ¬ a2 < nI 0 from c3), if_neg (fun h5 => by
              rw [Int32.lt_iff_toInt_lt] at h5
              rw [Int32.le_iff_toInt_le] at c4'
              omega)]
          obtain ⟨a, rfl, ha1, ha⟩ := okI_v (by decide) (by decide) hok
          rw [if_pos c4, if_pos hok2, cN_nI (show a < 401 by omega) (by decide), tR_1 hW, Option.bind_some, tR_0 hW, Option.bind_some, xob_w hW (sh_1 (by decide)), Option.bind_some, D_cpy hW (by decide) (by decide) (by decide) hI hU h0 h1, Option.bind_some]
          have hE : EQs t (sCp t t1) := EQs.cp EQs.rfl' hI
          have hW2 : XW (cM 1 (sCp t t1) M) := hW
          rw [tR_4 hW2, Option.bind_some, xob_w hW2 sh_23, Option.bind_some, D_clear hW, Option.bind_some]
          have hP : PL [] (pPop 0 M) := ⟨by unfold pPop; rw [xsi_1, if_pos ⟨rfl, rfl⟩]; rfl, trivial⟩
          obtain ⟨N', g1, g2⟩ := C_drawnL dG_e (a := a) (a2 := a2) (t := t) ha a 0 xF a0 (sCp t t1) (pPop 0 M) [] 0 hW (FrN.pop.HB h0) (hE.inv hI) LV_nil hP (by omega) (by rw [List.length_nil]; omega) (Nat.le_refl _) (by unfold xF; omega)
          refine ⟨(dR dG a a0 (sCp t t1) [] 0).1, N', ?_, FrN.pop.tr g2⟩
          rw [kl_0]
          rw [g1]
          have hd := dR_ok (G := dG) (n := a) (g := a0) (k := 0) hE hI LV_nil
          have ed : drA a2 (dR dG a a0 (sCp t t1) [] 0) t = drA a2 (dR dG a a0 t [] 0) t := by
            unfold drA
            rw [hd.2.1.n (j := 2) (by decide), hd.2.1.made18, hd.1, hd.2.1.how hd.2.2.R]
          rw [ed]
        · rw [if_neg c4, if_neg (fun h5 => by
            obtain ⟨w, rfl, -, hw⟩ := okI_v (by decide) (by decide) h5
            exact absurd (show nI w ≤ nI 3 from nI_le hw (by decide)) c4)]; exact no
