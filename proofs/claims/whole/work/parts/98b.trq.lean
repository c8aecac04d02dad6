/-! trip, the rest -/
def rTrip (s : xS) (a0 a1 a2 a3 : Int32) : Int32 := if okTk s a0 a1 a2 = true then (if a3 < 0 then -2000000000 else if a3 ≤ 2 then
  trA a3 (tpT (cN (s.1 19 0) a0) (cN 4 a1) (cN 41 a2) [] s).1.length (tpG (cN 4 a1) (tpT (cN (s.1 19 0) a0) (cN 4 a1) (cN 41 a2) [] s).1 (tpT (cN (s.1 19 0) a0) (cN 4 a1) (cN 41 a2) [] s).2) s else -2000000000) else -2000000000
theorem LV_nil {s : xS} : LV s [] := ⟨List.nodup_nil, fun y hy => by cases hy⟩
theorem cN41 {v : Nat} (h : v ≤ 40) : cN 41 (nI v) = v := cN_nI (by omega) (by decide)
theorem trA_ok {a3 : Int32} {T : Nat} {u u' t t' : xS} (h : EQs u u') (h2 : EQs t t') : trA a3 T u' t' = trA a3 T u t := by
  unfold trA
  rw [h.n (j := 2) (by decide), h2.n (j := 2) (by decide), h.made18, h2.made18]
theorem C_trip {M : xMem} {t t1 : xS} {a0 a1 a2 a3 : Int32} (hW : XW M) (hI : INV t) (hU : UC t) (h0 : HB 0 t M) (h1 : HB 1 t1 M) : ∃ u N', fX_trip M (0, 0, 0) a0 a1 a2 a3 = some (rTrip t a0 a1 a2 a3, cM 1 u N') ∧ FrN M N' := by
  have hn := hI.R.n
  have hk := C_isForTakes (a0 := a0) (a1 := a1) (a2 := a2) (t := t) hW hI
  rw [h0.eq] at hk
  have no : ∃ u N', (some ((-2000000000 : Int32), M) : Option (Int32 × xMem)) = some (-2000000000, cM 1 u N') ∧ FrN M N' := ⟨t1, M, by rw [h1.eq], FrN.rfl'⟩
  unfold fX_trip rTrip
  rw [xob_w hW sh_0, Option.bind_some, hk, Option.bind_some]
  dsimp only
  by_cases hok : okTk t a0 a1 a2 = true
  · rw [if_neg (by rw [hok]; decide), if_pos hok]
    by_cases h3 : a3 < 0
    · rw [if_pos h3, if_pos h3]; exact no
    · rw [if_neg h3, if_neg h3]
      by_cases h4 : a3 ≤ 2
      · rw [if_pos h4, if_pos h4]
        obtain ⟨c, p, v, hc, hp, -, hv, rfl, rfl, rfl, e1, e2⟩ := okTk_v hn hok
        rw [e1, e2, cN41 hv, tR_1 hW, Option.bind_some, tR_0 hW, Option.bind_some, xob_w hW (sh_1 (by decide)), Option.bind_some, D_cpy hW (by decide) (by decide) (by decide) hI hU h0 h1, Option.bind_some]
        have hE : EQs t (sCp t t1) := EQs.cp EQs.rfl' hI
        have hc' : c < (sCp t t1).1 19 0 := by rw [hE.n (by decide)]; exact hc
        have hW2 : XW (cM 1 (sCp t t1) M) := hW
        rw [tR_4 hW2, Option.bind_some, xob_w hW2 sh_23, Option.bind_some, D_clear hW, Option.bind_some]
        have hP : PL [] (pPop 0 M) := ⟨by unfold pPop; rw [xsi_1, if_pos ⟨rfl, rfl⟩]; rfl, trivial⟩
        obtain ⟨N', g1, g2⟩ := C_tripL (c := c) (p := p) (v := v) (a3 := a3) (t := t) hp hv v 0 xF [] (sCp t t1) (pPop 0 M) hW (FrN.pop.HB h0) (hE.inv hI) hc' LV_nil hP (by omega) (by rw [List.length_nil]; omega) (by unfold xF; omega)
        refine ⟨tpG p (tpT c p v [] (sCp t t1)).1 (tpT c p v [] (sCp t t1)).2, N', ?_, FrN.pop.tr g2⟩
        rw [kl_0, g1]
        have hA := tpT_ok (n := v) (L := []) hE hI LV_nil hc hp
        have hG := tpG_ok hA.2.1 hA.2.2.1 hA.2.2.2.1 hp
        rw [hA.1, trA_ok hG.1 EQs.rfl']
      · rw [if_neg h4, if_neg h4]; exact no
  · rw [if_pos (by rw [bfal hok]; rfl), if_neg hok]; exact no
theorem i_sub_sub (a b d : Int32) : (a + d) - (b + d) = a - b := by
  have h : a + d = (a - b) + (b + d) := by rw [← Int32.add_assoc, Int32.sub_add_cancel]
  rw [h, Int32.add_sub_cancel]
/-- the model's row of those taken -/
theorem M_tripG {p T : Nat} {a2 a3 d : Int32} {s : xS} {X0 : xMem} (hW : XW X0) (hI0 : INV s) (hp : p < 4) (hT : T ≤ 40) : ∀ (L : List Nat) f u F, AgX X0 F → KPm 1 (mM d s X0) F → (∀ x, F.1 (71, 0, 0) x = X0.1 (71, 0, 0) x) → INV u → LV u L → plL (F.1 (74, 0, 0)) L → L.length ≤ T → L.length < f → ∃ d' R, fM_trip_107 f (mM d u F) (some (44, 0, 0)) (nI p) a3 (nI (qMade s)) (nI (s.1 19 2) + d) (nI T) (if L.length = 0 then m1 else nI (L.length - 1)) = some (trA a3 T (tpG p L u) s, mM d' s R) ∧ AgX X0 R ∧ ∀ x, x < 26 → R.1 (71, 0, 0) x = X0.1 (71, 0, 0) x := by
  intro L
  induction L with
  | nil =>
    intro f u F hA hK h71 hI hL hP hT' hf
    obtain ⟨f, rfl⟩ : ∃ m, f = m + 1 := ⟨f - 1, by omega⟩
    have hWF : XW F := hA.W hW
    have hW' : XW (mM d u F) := hWF
    obtain ⟨R, hf1, hf2, hf3, -⟩ := M_forgets (d2 := d) (s2 := u) hW hA hK
    have hWR : XW (mM (nI (u.1 19 2) + d - nI (s.1 19 2)) s R) := hf2.W hW
    refine ⟨nI (u.1 19 2) + d - nI (s.1 19 2), R, ?_, hf2, hf3⟩
    unfold fM_trip_107 trA
    rw [List.length_nil, if_pos (show (0 : Nat) = 0 from rfl), if_pos (show m1 < (0 : Int32) by decide), xob_w hW' sh_44, Option.bind_some, M_manyMade hWF, Option.bind_some, xob_w hW' sh_44, Option.bind_some, hf1, Option.bind_some]
    dsimp only
    by_cases h1 : a3 = 0
    · rw [if_pos h1, if_pos h1, xgI_w hWR sh_44, Option.bind_some, mM_15, sub_add_i, i_sub_sub]
      rfl
    · rw [if_neg h1, if_neg h1]
      by_cases h2 : a3 = 1
      · rw [if_pos h2, if_pos h2]
      · rw [if_neg h2, if_neg h2]; rfl
  | cons x L ih =>
    intro f u F hA hK h71 hI hL hP hT' hf
    obtain ⟨f, rfl⟩ : ∃ m, f = m + 1 := ⟨f - 1, by omega⟩
    rw [List.length_cons] at hT' hf
    have hWF : XW F := hA.W hW
    have hW' : XW (mM d u F) := hWF
    have hx := hL.2 x List.mem_cons_self
    have hV := hI.V hx.1 (by omega)
    have hr : xgR (mM d u F) (some (44, 0, 0)) 8 35 = some (some (74, 0, 0)) := (xgR_w hW' sh_44 (by decide) (by decide) rfl).trans rfl
    have e74 : (mM d u F).1 (74, 0, 0) L.length = nI x := (mM_out (by decide) (by decide) (by decide)).trans hP.1
    obtain ⟨d', R, g1, g2⟩ := ih f (sGives u x p) F hA hK h71 (hI.gives hx.1 hx.2 hp) hL.give hP.2 (by omega) (by omega)
    refine ⟨d', R, ?_, g2⟩
    unfold fM_trip_107
    rw [List.length_cons, if_neg (show ¬ L.length + 1 = 0 by omega), Nat.add_sub_cancel, if_neg (show ¬ nI L.length < (0 : Int32) from nI_pos (by omega)), hr, Option.bind_some, xaI_w hW' sh_74 (by omega) (by decide), Option.bind_some, e74, xob_w hW' sh_44, Option.bind_some, M_gives hWF hI.R hx.1 hV.1 hp (hI.preG (hI.R.pg (p := x / 62) (by have := hx.1; omega) hV.1).1 hp), Option.bind_some]
    have e1 : nI L.length + -1 = (if L.length = 0 then m1 else nI (L.length - 1)) := by
      split
      next h => rw [h]; rfl
      next h => rw [show L.length = (L.length - 1) + 1 from by omega, pk_m1, Nat.add_sub_cancel]
    rw [e1]
    exact g1
theorem M_tripL {c p v : Nat} {a3 d : Int32} {s : xS} {X0 : xMem} (hW : XW X0) (hI0 : INV s) (hp : p < 4) (hv : v ≤ 40) : ∀ e i f L u F, AgX X0 F → KPm 1 (mM d s X0) F → (∀ x, F.1 (71, 0, 0) x = X0.1 (71, 0, 0) x) → INV u → c < u.1 19 0 → LV u L → plL (F.1 (74, 0, 0)) L → i + e = v → L.length + e ≤ 40 → e < f → ∃ d' R, fM_trip_61 f (mM d u F) (some (44, 0, 0)) (nI c) (nI p) (nI v) a3 (nI (qMade s)) (nI (s.1 19 2) + d) (nI L.length) (nI i) = some (trA a3 (tpT c p e L u).1.length (tpG p (tpT c p e L u).1 (tpT c p e L u).2) s, mM d' s R) ∧ AgX X0 R ∧ ∀ x, x < 26 → R.1 (71, 0, 0) x = X0.1 (71, 0, 0) x := by
  intro e
  induction e with
  | zero =>
    intro i f L u F hA hK h71 hI hc hL hP hi hl hf
    obtain ⟨f, rfl⟩ : ∃ m, f = m + 1 := ⟨f - 1, by omega⟩
    have hi : i = v := by omega
    subst hi
    obtain ⟨d', R, g1, g2⟩ := M_tripG (p := p) (T := L.length) (a2 := nI i) (a3 := a3) (d := d) (s := s) hW hI0 hp (by omega) L xF u F hA hK h71 hI hL hP (Nat.le_refl _) (by unfold xF; omega)
    refine ⟨d', R, ?_, g2⟩
    unfold fM_trip_61
    have e1 : nI L.length - 1 = (if L.length = 0 then m1 else nI (L.length - 1)) := by
      split
      next h => rw [h]; rfl
      next h => rw [kl_1, pk_sub (by omega)]
    rw [if_pos (nI_le (Nat.le_refl _) (by omega)), e1]
    exact g1
  | succ e ih =>
    intro i f L u F hA hK h71 hI hc hL hP hi hl hf
    obtain ⟨f, rfl⟩ : ∃ m, f = m + 1 := ⟨f - 1, by omega⟩
    have hWF : XW F := hA.W hW
    have hW' : XW (mM d u F) := hWF
    have hT := hL.take hI hc hp
    have hI' := hI.takes hc hp
    have hc' : c < (sTakes u c p).2.1 19 0 := by rw [takes_19 hc]; exact hc
    have hW2 : XW (mM d (sTakes u c p).2 F) := hWF
    unfold fM_trip_61 tpT
    rw [if_neg (by rw [nI_leI (by omega) (by omega)]; omega), xob_w hW' sh_44, Option.bind_some, M_takes hWF hI.R (fun b hb => hI.S hb) hc hp (hI.preT hc hp), Option.bind_some]
    dsimp only
    by_cases h1 : (sTakes u c p).1 < 1984
    · rw [if_pos h1] at hT ⊢
      have hr : xgR (mM d (sTakes u c p).2 F) (some (44, 0, 0)) 8 35 = some (some (74, 0, 0)) := (xgR_w hW2 sh_44 (by decide) (by decide) rfl).trans rfl
      have hA' : AgX X0 (xsi F (74, 0, 0) L.length (nI (sTakes u c p).1)) := ⟨fun a x hk => by
        rw [xsi_1, if_neg (fun e => by
          have e1 : a.1 = 74 := by rw [e.1]
          unfold kpX at hk; omega)]
        exact hA.1 a x hk, hA.2.1, hA.2.2⟩
      have hK' : KPm 1 (mM d s X0) (xsi F (74, 0, 0) L.length (nI (sTakes u c p).1)) := hK.to (fun x _ _ => by rw [xsi_1, if_neg (fun e => absurd e.1 (by decide))]) (fun _ _ _ => rfl)
      have hP' : plL ((xsi F (74, 0, 0) L.length (nI (sTakes u c p).1)).1 (74, 0, 0)) ((sTakes u c p).1 :: L) := ⟨by rw [xsi_1, if_pos ⟨rfl, rfl⟩], plL_w hP (fun i hi => by rw [xsi_1, if_neg (fun e => by omega)])⟩
      obtain ⟨d', R, g1, g2⟩ := ih (i + 1) f ((sTakes u c p).1 :: L) (sTakes u c p).2 (xsi F (74, 0, 0) L.length (nI (sTakes u c p).1)) hA' hK' (fun x => by rw [xsi_1, if_neg (fun e => absurd e.1 (by decide))]; exact h71 x) hI' hc' hT hP' (by omega) (by rw [List.length_cons]; omega) (by omega)
      refine ⟨d', R, ?_, g2⟩
      rw [en_lt h1, if_pos (show (0 : Int32) ≤ nI (sTakes u c p).1 from nI_pos' (by omega)), hr, Option.bind_some, xuI_w hW2 sh_74 (by omega) (by decide), Option.bind_some, mM_out' (by decide) (by decide) (by decide)]
      unfold fM_trip_95
      rw [kl_1, nI_add, nI_add]
      exact g1
    · rw [if_neg h1] at hT ⊢
      obtain ⟨d', R, g1, g2⟩ := ih (i + 1) f L (sTakes u c p).2 F hA hK h71 hI' hc' hT hP (by omega) (by omega) (by omega)
      refine ⟨d', R, ?_, g2⟩
      rw [en_ge h1, if_neg (show ¬ (0 : Int32) ≤ -9 by decide)]
      unfold fM_trip_95
      rw [kl_1, nI_add]
      exact g1
theorem M_trip {d : Int32} {s : xS} {M : xMem} {a0 a1 a2 a3 : Int32} (hW : XW M) (hI : INV s) (hM : mM d s M = M) : ∃ d' R, fM_trip M (44, 0, 0) a0 a1 a2 a3 = some (rTrip s a0 a1 a2 a3, mM d' s R) ∧ AgX M R ∧ ∀ x, x < 26 → R.1 (71, 0, 0) x = M.1 (71, 0, 0) x := by
  have hn := hI.R.n
  have hca := M_isCache (d := d) (s := s) (X := M) (v := a0) hW hn
  rw [hM] at hca
  have hmm := M_manyMade (d := d) (s := s) (X := M) hW
  rw [hM] at hmm
  have h15 : M.1 (44, 0, 0) 15 = nI (s.1 19 2) + d := by rw [← hM]; rfl
  unfold fM_trip rTrip
  rw [xob_w hW sh_44, Option.bind_some, hca, Option.bind_some]
  dsimp only
  clear hca
  have no : ∃ d' R, (some ((-2000000000 : Int32), M) : Option (Int32 × xMem)) = some (-2000000000, mM d' s R) ∧ AgX M R ∧ ∀ x, x < 26 → R.1 (71, 0, 0) x = M.1 (71, 0, 0) x := ⟨d, M, by rw [hM], AgX.rfl', fun _ _ => rfl⟩
  by_cases k0 : cN (s.1 19 0) a0 < s.1 19 0
  · rw [decide_eq_true k0, if_neg (by decide), M_isProc, Option.bind_some]
    dsimp only
    by_cases k1 : cN 4 a1 < 4
    · rw [decide_eq_true k1, if_neg (by decide), isIn_140, Option.bind_some]
      dsimp only
      by_cases k2 : okI 1 40 a2 = true
      · have hok : okTk s a0 a1 a2 = true := by unfold okTk; rw [decide_eq_true k0, decide_eq_true k1, k2]; rfl
        rw [if_neg (by rw [k2]; decide), if_pos hok]
        obtain ⟨c, p, v, hc, hp, hv1, hv, rfl, rfl, rfl, e1, e2⟩ := okTk_v hn hok
        rw [isIn_02, Option.bind_some]
        dsimp only
        by_cases h3 : a3 < 0
        · rw [if_pos h3, if_pos (by unfold okI; rw [if_pos (show a3 < nI 0 from h3)]; rfl)]; exact no
        · rw [if_neg h3]
          by_cases h4 : a3 ≤ 2
          · have hin : okI 0 2 a3 = true := by
              have h4' : a3 ≤ nI 2 := h4
              unfold okI
              rw [if_neg (show ¬ a3 < nI 0 from h3), if_neg (fun h5 => by
                rw [Int32.lt_iff_toInt_lt] at h5
                rw [Int32.le_iff_toInt_le] at h4'
                omega)]
            rw [if_neg (by rw [hin]; decide), if_pos h4, e1, e2, cN41 hv]
            obtain ⟨F, hF1, hF2, hF3, hF4⟩ := M_thinks (d := d) (s := s) (X := M) hW
            rw [hM] at hF1
            rw [xob_w hW sh_44, Option.bind_some, hmm, Option.bind_some, xgI_w hW sh_44, Option.bind_some, h15, xob_w hW sh_44, Option.bind_some, hF1, Option.bind_some]
            exact M_tripL (c := c) (p := p) (v := v) (a3 := a3) hW hI hp hv v 0 xF [] s F hF2 hF3 hF4 hI hc LV_nil trivial (by omega) (by rw [List.length_nil]; omega) (by unfold xF; omega)
          · rw [if_neg h4, if_pos (by
              have : okI 0 2 a3 = false := by
                by_cases hh : okI 0 2 a3 = true
                · obtain ⟨w, rfl, -, hw⟩ := okI_v (by decide) (by decide) hh
                  exact absurd (show nI w ≤ nI 2 from nI_le hw (by decide)) h4
                · exact bfal hh
              rw [this]; rfl)]
            exact no
      · rw [if_pos (by rw [bfal k2]; rfl), if_neg (by unfold okTk; rw [bfal k2]; simp)]; exact no
    · rw [decide_eq_false k1, if_pos (by decide), if_neg (by unfold okTk; rw [decide_eq_false k1]; simp)]; exact no
  · rw [decide_eq_false k0, if_pos (by decide), if_neg (by unfold okTk; rw [decide_eq_false k0]; simp)]; exact no
theorem rTrip_ok {s t : xS} (h : EQs s t) (hI : INV s) {a0 a1 a2 a3 : Int32} : rTrip t a0 a1 a2 a3 = rTrip s a0 a1 a2 a3 := by
  unfold rTrip
  rw [okTk_ok h, h.n (j := 0) (by decide)]
  by_cases hok : okTk s a0 a1 a2 = true
  · rw [if_pos hok, if_pos hok]
    obtain ⟨c, p, v, hc, hp, -, hv, rfl, rfl, rfl, e1, e2⟩ := okTk_v hI.R.n hok
    rw [e1, e2]
    have hA := tpT_ok (n := cN 41 (nI v)) (L := []) h hI LV_nil hc hp
    have hG := tpG_ok hA.2.1 hA.2.2.1 hA.2.2.2.1 hp
    rw [hA.1, trA_ok hG.1 h]
  · rw [if_neg hok, if_neg hok]
