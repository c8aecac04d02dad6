/-! run; and runs in thought -/
def TRp (j : Nat) (M X : xMem) : Prop := ∃ L R tp, PG j M (X.1 (76, 0, 0)) L R tp ∧ M.1 (26, 0, j) 6 = nI R ∧ X.1 (44, 0, 0) 43 = nI L
/-- what a run leaves, of the class's memory -/
def RFr (κn : Nat) (M N : xMem) : Prop := (∀ a x, a ≠ (36, 0, 0) → a ≠ (37, 0, 0) → a ≠ (κn, 0, 0) → N.1 a x = M.1 a x) ∧ N.2.1 = M.2.1 ∧ XW N ∧ (∀ a x, a ≠ (36, 0, 0) → N.2.2.1 a x = M.2.2.1 a x) ∧ N.2.2.2 = M.2.2.2
theorem RFr_of {j b κn : Nat} {M N : xMem} (hW : XW M) (h : FrR κn (n0 j b κn M) N) : RFr κn M N :=
  ⟨fun a x h1 h2 h3 => by rw [h.1 a x h1 h2 h3, n0_1 h1], by rw [h.2]; rfl, by have := n0_W (j := j) (b := b) (κn := κn) hW; unfold XW at this ⊢; rw [h.2]; exact this, fun a x h1 => by rw [h.2]; exact n0_3 h1, by rw [h.2]; rfl⟩
theorem FrX_of {X X' : xMem} (h : FrX (x0 X) X') : FrX X X' := ⟨fun a x h1 h2 h3 h4 => by rw [h.1 a x h1 h2 h3 h4, x0_1 h1], h.2⟩
theorem tR_11 {M : xMem} (hW : XW M) : xgR M (some (0, 0, 0)) 7 11 = some (some (38, 0, 0)) := (xgR_w hW sh_0 (by decide) (by decide) rfl).trans rfl
theorem tR_12 {M : xMem} (hW : XW M) : xgR M (some (0, 0, 0)) 7 12 = some (some (39, 0, 0)) := (xgR_w hW sh_0 (by decide) (by decide) rfl).trans rfl
theorem tR_10 {M : xMem} (hW : XW M) : xgR M (some (0, 0, 0)) 7 10 = some (some (36, 0, 0)) := (xgR_w hW sh_0 (by decide) (by decide) rfl).trans rfl
theorem RUNc {j : Nat} {d : Int32} {M X : xMem} {s t : xS} {nm : Nat → Nat} (hW : XW M) (hWX : XW X) (hj : j < 2) (h7 : M.2.2.1 (0, 0, 0) 7 = some (26, 0, j)) (h0 : HB 0 t M) (hM : mM d s X = X) (hE : EQs s t) (hI : INV s) (hU : UC t) (hN : NMr 38 nm M X) (hf : M.1 (0, 0, 0) 9 = 1) (hf2 : X.1 (44, 0, 0) 46 = 1) (hT : TRp j M X) :
    ∃ v w s' u' N' X' nm', fX_run M (0, 0, 0) = some (v, xsi (cM 0 u' N') (0, 0, 0) 13 w) ∧ fM_run X (44, 0, 0) = some (v, mM d s' (xsi X' (44, 0, 0) 49 w)) ∧ EQs s' u' ∧ INV s' ∧ UC u' ∧ NMr 38 nm' N' X' ∧ RFr 38 M N' ∧ FrX X X' := by
  obtain ⟨L, R, tp, hP, h6, h43⟩ := hT
  obtain ⟨s', u', N', X', nm', σ', w', c1, c2, c3⟩ := RUN0 (b := 0) (d := d) hW hWX hj (by decide) (Or.inl rfl) hE hI hU hN hP h6 h43
  have fr := RFr_of hW c3.1
  have fx := FrX_of c3.2.1
  have hWN : XW (cM 0 u' N') := fr.2.2.1
  have hWN2 : XW (xsi (cM 0 u' N') (0, 0, 0) 13 w') := fr.2.2.1
  have hWX' : XW X' := by unfold XW at hWX ⊢; rw [fx.2]; exact hWX
  have hWX2 : XW (xsi X' (44, 0, 0) 49 w') := hWX'
  have e1 : (cM 0 u' N').1 (36, 0, 0) 1 = w' := (cM_out (Or.inr (Or.inr (by decide)))).trans c3.2.2.2.2.2.2.2.2.2.1
  have e0 : (cM 0 u' N').1 (36, 0, 0) 0 = nI σ' := (cM_out (Or.inr (Or.inr (by decide)))).trans c3.2.2.2.2.2.2.1
  refine ⟨nI σ', w', s', u', N', X', nm', ?_, ?_, c3.2.2.1, c3.2.2.2.1, c3.2.2.2.2.1, c3.2.2.2.2.2.1, fr, fx⟩
  · rw [h0.eq] at c1
    unfold fX_run
    rw [xgI_w hW sh_0, Option.bind_some, hf, if_neg (by decide), tR_10 hW, Option.bind_some, xgR_v hW sh_0, Option.bind_some, h7, tR_0 hW, Option.bind_some, tR_11 hW, Option.bind_some, xob_w hW sh_36, Option.bind_some, c1, Option.bind_some, tR_10 hWN, Option.bind_some, xgI_w hWN sh_36, Option.bind_some, e1, xpI_w hWN sh_0, Option.bind_some, tR_10 hWN2, Option.bind_some, xgI_w hWN2 sh_36, Option.bind_some, xsi_1, if_neg (fun e => absurd e.1 (by decide)), e0]
  · rw [hM] at c2
    have x48 : X'.1 (44, 0, 0) 48 = w' := c3.2.2.2.2.2.2.2.2.2.2
    have x47 : X'.1 (44, 0, 0) 47 = nI σ' := c3.2.2.2.2.2.2.2.1
    unfold fM_run
    rw [xgI_w hWX sh_44, Option.bind_some, hf2, if_neg (by decide), xob_w hWX sh_44, Option.bind_some, c2, Option.bind_some, ngI hWX' (by decide), Option.bind_some, x48, npI hWX' (by decide), Option.bind_some, ngI hWX2 (by decide), Option.bind_some, xsi_1, if_neg (by decide), x47]
theorem RUNc0 {M X : xMem} (hW : XW M) (hWX : XW X) (hf : M.1 (0, 0, 0) 9 = 0) (hf2 : X.1 (44, 0, 0) 46 = 0) : fX_run M (0, 0, 0) = some (-5, M) ∧ fM_run X (44, 0, 0) = some (-5, X) := by
  constructor
  · unfold fX_run
    rw [xgI_w hW sh_0, Option.bind_some, hf, if_pos rfl]
  · unfold fM_run
    rw [xgI_w hWX sh_44, Option.bind_some, hf2, if_pos rfl]
/-- the names, copied for a thought -/
def nCp (M : xMem) : xMem := xsri M (39, 0, 0) (va_cpy (M.1 (38, 0, 0)) (M.1 (39, 0, 0)) 0 0 26)
theorem nCp_1 {M : xMem} {a : xId} {x : Nat} (h : a ≠ (39, 0, 0)) : (nCp M).1 a x = M.1 a x := by
  unfold nCp; rw [xsri_1, if_neg h]
theorem nCp_39 {M : xMem} {x : Nat} (h : x < 26) : (nCp M).1 (39, 0, 0) x = M.1 (38, 0, 0) x := by
  unfold nCp
  rw [xsri_1, if_pos rfl]
  show (if 0 ≤ x ∧ x < 0 + 26 then M.1 (38, 0, 0) (0 + (x - 0)) else _) = _
  rw [if_pos ⟨Nat.zero_le _, by omega⟩, Nat.zero_add, Nat.sub_zero]
theorem D_nCp {u : xS} {M : xMem} (hW : XW M) : xcpy (cM 1 u M) (26 : Int32) (0 : Int32) (0 : Int32) (some (39, 0, 0)) (some (38, 0, 0)) = some (cM 1 u (nCp M)) := by
  rw [kl_26, kl_0, xcpy_w (M := cM 1 u M) hW sh_38 sh_39 (by decide) (by decide) (by decide) (by decide)]
  refine congrArg some (Prod.ext ?_ rfl)
  funext a x
  rw [xsri_1]
  by_cases h : a = (39, 0, 0)
  · subst h
    rw [if_pos rfl, cM_out (Or.inr (Or.inr (by decide)))]
    unfold nCp
    rw [xsri_1, if_pos rfl]
    have e38 : (cM 1 u M).1 (38, 0, 0) = M.1 (38, 0, 0) := by funext q; exact cM_out (Or.inr (Or.inr (by decide)))
    have e39 : (cM 1 u M).1 (39, 0, 0) = M.1 (39, 0, 0) := by funext q; exact cM_out (Or.inr (Or.inr (by decide)))
    rw [e38, e39]
  · rw [if_neg h]
    have : (nCp M).1 a = M.1 a := by funext q; exact nCp_1 h
    unfold cM
    dsimp only
    rw [this]
/-- the class's run in thought, from a state t0 of the thought -/
theorem TH_c {j b : Nat} {α : Type} {K : xMem → Option α} {M N' : xMem} {t0 u' : xS} (hW : XW M) (hj : j < 2) (h7 : M.2.2.1 (0, 0, 0) 7 = some (26, 0, j)) (hb : b = 1) (hr : fR_goThrough (cM 1 t0 (nCp M)) (36, 0, 0) (some (26, 0, j)) (some (1, 1, 0)) (some (39, 0, 0)) = some (cM 1 u' N')) :
    ((xgR (cM 1 t0 M) (some (0, 0, 0)) 7 11).bind fun v6 => (xgR (cM 1 t0 M) (some (0, 0, 0)) 7 12).bind fun v7 => (xcpy (cM 1 t0 M) (26 : Int32) (0 : Int32) (0 : Int32) v7 v6).bind fun M8 => (xgR M8 (some (0, 0, 0)) 7 10).bind fun v9 => (xgR M8 (some (0, 0, 0)) 7 7).bind fun v10 => (xgR M8 (some (0, 0, 0)) 7 1).bind fun v11 => (xgR M8 (some (0, 0, 0)) 7 12).bind fun v12 => (xob M8 v9 5).bind fun u13 => (fR_goThrough M8 u13 v10 v11 v12).bind K) = K (cM 1 u' N') := by
  have w1 : XW (cM 1 t0 M) := hW
  have w2 : XW (cM 1 t0 (nCp M)) := hW
  rw [tR_11 w1, Option.bind_some, tR_12 w1, Option.bind_some, D_nCp hW, Option.bind_some, tR_10 w2, Option.bind_some, xgR_v w2 sh_0, Option.bind_some, show (cM 1 t0 (nCp M)).2.2.1 (0, 0, 0) 7 = some (26, 0, j) from h7, tR_1 w2, Option.bind_some, tR_12 w2, Option.bind_some, xob_w w2 sh_36, Option.bind_some, hr, Option.bind_some]
/-- a run in thought with r rounds told, or none -/
def sTh (r : Nat) (s : xS) : xS := if r = 0 then s else sAnew s r (s.1 19 0) 0
theorem anew_1 {r : Nat} : ∀ {d c : Nat} {s : xS}, (sAnew s r d c).1 19 = s.1 19 := by
  intro d
  induction d with
  | zero => intro c s; rfl
  | succ d ih => intro c s; unfold sAnew; rw [ih, sAn1_19]
theorem sTh_ok {r : Nat} {s t : xS} (hr : r ≤ 8) (h : EQs s t) (hI : INV s) : EQs (sTh r s) (sTh r t) ∧ INV (sTh r s) ∧ (sTh r s).1 19 = s.1 19 := by
  unfold sTh
  by_cases h0 : r = 0
  · rw [if_pos h0, if_pos h0]; exact ⟨h, hI, rfl⟩
  · rw [if_neg h0, if_neg h0, h.n (j := 0) (by decide)]
    exact ⟨EQs.anew (by omega) hr h hI (by omega), INV.anew (by omega) hr hI (by omega), anew_1⟩
theorem sTh_U {r : Nat} {t : xS} (hU : UC t) : UC (sTh r t) := by
  unfold sTh
  split
  · exact hU
  · exact hU.k (UF.anew UF.rfl' (by omega))
/-- the model's unmakings, before a run in thought -/
theorem M_thU {r : Nat} {d : Int32} {F : xMem} (hW : XW F) (h1 : 1 ≤ r) (h8 : r ≤ 8) : ∀ e c f (u : xS), INV u → c + e = u.1 19 0 → e < f → fM_runsInThought_6 f (mM d u F) (some (44, 0, 0)) (nI r) (nI c) = fM_runsInThought_50 (mM d (sAnew u r e c) F) (some (44, 0, 0)) := by
  intro e
  induction e with
  | zero =>
    intro c f u hI hc hf
    obtain ⟨f, rfl⟩ : ∃ q, f = q + 1 := ⟨f - 1, by omega⟩
    have hW' : XW (mM d u F) := hW
    have hn := hI.R.n
    rw [show fM_runsInThought_6 (f + 1) (mM d u F) (some (44, 0, 0)) (nI r) (nI c) = _ from by unfold fM_runsInThought_6; rfl]
    rw [xgI_w hW' sh_44, Option.bind_some, mM_13, if_pos (nI_le (by omega) (by omega))]
    rfl
  | succ e ih =>
    intro c f u hI hc hf
    obtain ⟨f, rfl⟩ : ∃ q, f = q + 1 := ⟨f - 1, by omega⟩
    have hW' : XW (mM d u F) := hW
    have hn := hI.R.n
    have hcn : c < u.1 19 0 := by omega
    have hc4 : c < 4 := by omega
    have hW2 : XW (mM d (sUA u c) F) := hW
    have hW3 : XW (mM d (sA (sUA u c) 4 c r) F) := hW
    have hW4 : XW (mM d (sA (sA (sUA u c) 4 c r) 8 c 0) F) := hW
    rw [show fM_runsInThought_6 (f + 1) (mM d u F) (some (44, 0, 0)) (nI r) (nI c) = _ from by unfold fM_runsInThought_6; rfl]
    rw [xgI_w hW' sh_44, Option.bind_some, mM_13, if_neg (show ¬ nI (u.1 19 0) ≤ nI c from by rw [nI_leI (by omega) (by omega)]; omega), if_neg (show ¬ nI r ≤ (0 : Int32) from by rw [kl_0, nI_leI (by omega) (by decide)]; omega), xob_w hW' sh_44, Option.bind_some, M_unmakesAll hW hI.R hcn, Option.bind_some, show xgR (mM d (sUA u c) F) (some (44, 0, 0)) 8 3 = some (some (48, 0, 0)) from (xgR_w hW2 sh_44 (by decide) (by decide) rfl).trans rfl, Option.bind_some, xuI_w hW2 sh_48 hc4 (by decide), Option.bind_some, mM_w0 (κ := 48) (q := 4) (B := 4) rfl hc4, show xgR (mM d (sA (sUA u c) 4 c r) F) (some (44, 0, 0)) 8 7 = some (some (52, 0, 0)) from (xgR_w hW3 sh_44 (by decide) (by decide) rfl).trans rfl, Option.bind_some, kl_0, xuI_w hW3 sh_52 hc4 (by decide), Option.bind_some, mM_w0 (κ := 52) (q := 8) (B := 4) rfl hc4, show xgR (mM d (sA (sA (sUA u c) 4 c r) 8 c 0) F) (some (44, 0, 0)) 8 8 = some (some (53, 0, 0)) from (xgR_w hW4 sh_44 (by decide) (by decide) rfl).trans rfl, Option.bind_some, xuI_w hW4 sh_53 hc4 (by decide), Option.bind_some, mM_w0 (κ := 53) (q := 9) (B := 4) rfl hc4, nI_k1]
    have hu : (sAn1 u c r).1 19 0 = u.1 19 0 := by rw [sAn1_19]
    exact ih (c + 1) f (sAn1 u c r) (hI.an1 hcn h1 h8) (by rw [hu]; omega) (by omega)
theorem M_thB {r : Nat} {d : Int32} {s : xS} {F : xMem} (hW : XW F) (hr : r ≤ 8) (hI : INV s) : fM_runsInThought_6 xF (mM d s F) (some (44, 0, 0)) (nI r) (nI 0) = fM_runsInThought_50 (mM d (sTh r s) F) (some (44, 0, 0)) := by
  unfold sTh
  by_cases h0 : r = 0
  · subst h0
    have hW' : XW (mM d s F) := hW
    rw [if_pos rfl]
    obtain ⟨q, hq⟩ : ∃ q, xF = q + 1 := ⟨1999999, rfl⟩
    rw [hq]
    rw [show fM_runsInThought_6 (q + 1) (mM d s F) (some (44, 0, 0)) (nI 0) (nI 0) = _ from by unfold fM_runsInThought_6; rfl]
    rw [xgI_w hW' sh_44, Option.bind_some]
    split
    · rfl
    · rw [if_pos (by decide)]
  · rw [if_neg h0]
    exact M_thU hW (by omega) hr (s.1 19 0) 0 xF s hI (by omega) (by have := hI.R.n; unfold xF; omega)
/-- a run in thought, on both sides -/
theorem THINK {j r : Nat} {d : Int32} {M X : xMem} {s t t1 : xS} {nm : Nat → Nat} (hW : XW M) (hWX : XW X) (hj : j < 2) (hM : mM d s X = X) (hE : EQs s t) (hI : INV s) (hU : UC t) (hN : NMr 38 nm M X) (hT : TRp j M X) (hr : r ≤ 8) :
    ∃ s' u' N' σ' w' d' R, fR_goThrough (cM 1 (sTh r (sCp t t1)) (nCp M)) (36, 0, 0) (some (26, 0, j)) (some (1, 1, 0)) (some (39, 0, 0)) = some (cM 1 u' N') ∧ RFr 39 (nCp M) N' ∧ EQs s' u' ∧ INV s' ∧ N'.1 (36, 0, 0) 0 = nI σ' ∧ N'.1 (36, 0, 0) 1 = w'
      ∧ fM_runsInThought X (44, 0, 0) (nI r) = some (mM d' s R) ∧ AgX X R ∧ (∀ x, x < 26 → R.1 (71, 0, 0) x = X.1 (71, 0, 0) x) ∧ R.1 (44, 0, 0) 47 = nI σ' ∧ R.1 (44, 0, 0) 48 = w' ∧ R.1 (44, 0, 0) 50 = nI (s'.1 19 2) - nI (s.1 19 2) ∧ R.1 (44, 0, 0) 51 = nI (qHow s' (fun _ => true) 1) := by
  obtain ⟨L, Rr, tp, hP, h6, h43⟩ := hT
  obtain ⟨F, f1, f2, f3, f4⟩ := M_thinks (d := d) (s := s) (X := X) hWX
  rw [hM] at f1
  have hWF : XW F := f2.W hWX
  have hWn : XW (nCp M) := hW
  have hE1 : EQs s (sCp t t1) := hE.cp hI
  have hth := sTh_ok hr hE1 hI
  have hUt := sTh_U (r := r) (hU.cp (t1 := t1))
  have t76 : F.1 (76, 0, 0) = X.1 (76, 0, 0) := by funext q; exact f2.1 _ _ (Or.inr (Or.inr (Or.inl rfl)))
  have hPn : PG j (nCp M) (F.1 (76, 0, 0)) L Rr tp := hP.to (fun k q k1 k2 => nCp_1 (fun e => by have := (Prod.mk.inj e).1; omega)) t76
  obtain ⟨s', u', N', X', nm', σ', w', c1, c2, c3⟩ := RUN0 (b := 1) (κn := 39) (d := d) (M := nCp M) (X := F) (nm := nm) hWn hWF hj (by decide) (Or.inr rfl) hth.1 hth.2.1 hUt (fun k hk => ⟨by rw [nCp_39 hk]; exact (hN k hk).1, by rw [f4]; exact (hN k hk).2⟩) hPn (by rw [nCp_1 (fun e => absurd (Prod.mk.inj e).1 (by decide))]; exact h6) (by rw [f2.1 _ _ (Or.inr (Or.inr (Or.inr (Or.inr (Or.inr (Or.inl ⟨rfl, by omega⟩))))))]; exact h43)
  have fx := FrX_of c3.2.1
  have hWX' : XW X' := by unfold XW at hWF ⊢; rw [fx.2]; exact hWF
  have hI' := c3.2.2.2.1
  have fa : AgX X X' := ⟨fun a x hk => by
    rw [fx.1 a x (fun e => by
      have e1 : a.1 = 44 := by rw [e.1]
      unfold kpX at hk; omega) (fun e => by
      have e1 : a.1 = 71 := by rw [e]
      unfold kpX at hk; omega) (fun e => by
      have e1 : a.1 = 77 := by rw [e]
      unfold kpX at hk; omega) (fun e => by
      have e1 : a.1 = 78 := by rw [e]
      unfold kpX at hk; omega)]
    exact f2.1 a x hk, fun a x hk => by rw [fx.2]; exact f2.2.1 a x hk, by rw [fx.2]; exact f2.2.2⟩
  have hv : nI (s'.1 19 2) + d - (nI (s.1 19 2) + d) = nI (s'.1 19 2) - nI (s.1 19 2) := i_sub_sub _ _ _
  have fa2 : ∀ v w, AgX X (xsi (xsi X' (44, 0, 0) 50 v) (44, 0, 0) 51 w) := fun v w => ⟨fun a x hk => by
    rw [xsi_1, if_neg (fun e => by
      have e1 : a.1 = 44 := by rw [e.1]
      unfold kpX at hk; omega), xsi_1, if_neg (fun e => by
      have e1 : a.1 = 44 := by rw [e.1]
      unfold kpX at hk; omega)]
    exact fa.1 a x hk, fa.2.1, fa.2.2⟩
  have fk : ∀ v w, KPm 1 (mM d s X) (xsi (xsi X' (44, 0, 0) 50 v) (44, 0, 0) 51 w) := fun v w => f3.to (fun x _ _ => by
    rw [xsi_1, if_neg (fun e => absurd e.1 (by decide)), xsi_1, if_neg (fun e => absurd e.1 (by decide)), fx.1 _ _ (fun e => absurd e.1 (by decide)) (by decide) (by decide) (by decide)]) (fun x _ _ => by
    show X'.2.1 _ _ = _
    rw [fx.2])
  obtain ⟨R, g1, g2, g3, g4⟩ := M_forgets (d2 := d) (s2 := s') hWX (fa2 (nI (s'.1 19 2) - nI (s.1 19 2)) (nI (qHow s' (fun _ => true) 1))) (fk _ _)
  refine ⟨s', u', N', σ', w', nI (s'.1 19 2) + d - nI (s.1 19 2), R, c1, RFr_of hWn c3.1, c3.2.2.1, hI', c3.2.2.2.2.2.2.1, c3.2.2.2.2.2.2.2.2.2.1, ?_, g2, g3, ?_, ?_, ?_, ?_⟩
  · have hWF' : XW (mM d (sTh r s) F) := hWF
    have hWX1 : XW (mM d s' X') := hWX'
    have hWX2 : XW (xsi X' (44, 0, 0) 50 (nI (s'.1 19 2) - nI (s.1 19 2))) := hWX'
    have hWX3 : XW (xsi (xsi X' (44, 0, 0) 50 (nI (s'.1 19 2) - nI (s.1 19 2))) (44, 0, 0) 51 (nI (qHow s' (fun _ => true) 1))) := hWX'
    unfold fM_runsInThought
    rw [xob_w hWX sh_44, Option.bind_some, f1, Option.bind_some, kl_0, M_thB hWF hr hI]
    unfold fM_runsInThought_50
    rw [xgI_w hWF' sh_44, Option.bind_some, mM_15, hth.2.2, xob_w hWF' sh_44, Option.bind_some, c2, Option.bind_some, xgI_w hWX1 sh_44, Option.bind_some, mM_15, hv, npI hWX' (by decide), Option.bind_some, nob hWX2, Option.bind_some, M_liveNow hWX2 hI', Option.bind_some]
    dsimp only
    rw [npI hWX2 (by decide), Option.bind_some, nob hWX3, Option.bind_some, g1, Option.bind_some]
  · rw [g4 47 (by decide) (by decide) (by decide), xsi_1, if_neg (by decide), xsi_1, if_neg (by decide)]; exact c3.2.2.2.2.2.2.2.1
  · rw [g4 48 (by decide) (by decide) (by decide), xsi_1, if_neg (by decide), xsi_1, if_neg (by decide)]; exact c3.2.2.2.2.2.2.2.2.2.2
  · rw [g4 50 (by decide) (by decide) (by decide), xsi_1, if_neg (by decide), xsi_1, if_pos ⟨rfl, rfl⟩]
  · rw [g4 51 (by decide) (by decide) (by decide), xsi_1, if_pos ⟨rfl, rfl⟩]
