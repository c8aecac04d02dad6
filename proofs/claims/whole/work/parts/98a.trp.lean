/-! trip -/
def tpT (c p : Nat) : Nat → List Nat → xS → List Nat × xS
  | 0, L, s => (L, s)
  | n + 1, L, s => tpT c p n (if (sTakes s c p).1 < 1984 then (sTakes s c p).1 :: L else L) (sTakes s c p).2
def tpG (p : Nat) : List Nat → xS → xS
  | [], s => s
  | x :: L, s => tpG p L (sGives s x p)
theorem tpT_ok {c p : Nat} : ∀ {n : Nat} {L : List Nat} {s t : xS}, EQs s t → INV s → LV s L → c < s.1 19 0 → p < 4 → (tpT c p n L t).1 = (tpT c p n L s).1 ∧ EQs (tpT c p n L s).2 (tpT c p n L t).2 ∧ INV (tpT c p n L s).2 ∧ LV (tpT c p n L s).2 (tpT c p n L s).1 ∧ (tpT c p n L s).1.length ≤ L.length + n := by
  intro n
  induction n with
  | zero => intro L s t h hI hL _ _; exact ⟨rfl, h, hI, hL, Nat.le_refl _⟩
  | succ n ih =>
    intro L s t h hI hL hc hp
    have hE := h.takes hI hc hp
    have hi := ih hE.2 (hI.takes hc hp) (hL.take hI hc hp) (by rw [takes_19 hc]; exact hc) hp
    unfold tpT
    rw [hE.1]
    refine ⟨hi.1, hi.2.1, hi.2.2.1, hi.2.2.2.1, Nat.le_trans hi.2.2.2.2 ?_⟩
    split
    · rw [List.length_cons]; omega
    · omega
theorem tpG_ok {p : Nat} : ∀ {L : List Nat} {s t : xS}, EQs s t → INV s → LV s L → p < 4 → EQs (tpG p L s) (tpG p L t) ∧ INV (tpG p L s) := by
  intro L
  induction L with
  | nil => intro s t h hI _ _; exact ⟨h, hI⟩
  | cons x L ih =>
    intro s t h hI hL hp
    have hx := hL.2 x List.mem_cons_self
    unfold tpG
    exact ih (h.gives hI hx.1 hx.2 hp) (hI.gives hx.1 hx.2 hp) hL.give hp
def plL (f : Nat → Int32) : List Nat → Prop
  | [] => True
  | x :: L => f L.length = nI x ∧ plL f L
theorem plL_w {f g : Nat → Int32} : ∀ {L : List Nat}, plL f L → (∀ i, i < L.length → g i = f i) → plL g L := by
  intro L
  induction L with
  | nil => intro _ _; trivial
  | cons x L ih => intro h hg; exact ⟨(hg _ (by rw [List.length_cons]; omega)).trans h.1, ih h.2 (fun i hi => hg i (by rw [List.length_cons]; omega))⟩
/-- the class's pile of those taken -/
def PL (L : List Nat) (N : xMem) : Prop := N.1 (23, 0, 0) 1 = nI L.length ∧ plL (N.1 (24, 0, 0)) L
def pPut (n x : Nat) (N : xMem) : xMem := xsi (xsi N (24, 0, 0) n (nI x)) (23, 0, 0) 1 (nI (n + 1))
def pPop (n : Nat) (N : xMem) : xMem := xsi N (23, 0, 0) 1 (nI n)
def FrN (N N' : xMem) : Prop := (∀ a x, a.1 ≠ 23 → a.1 ≠ 24 → N'.1 a x = N.1 a x) ∧ N'.2 = N.2
theorem FrN.rfl' {N : xMem} : FrN N N := ⟨fun _ _ _ _ => rfl, rfl⟩
theorem FrN.tr {N N' N'' : xMem} (h : FrN N N') (h2 : FrN N' N'') : FrN N N'' := ⟨fun a x a1 a2 => (h2.1 a x a1 a2).trans (h.1 a x a1 a2), h2.2.trans h.2⟩
theorem FrN.W {N N' : xMem} (h : FrN N N') (hW : XW N) : XW N' := by
  unfold XW at hW ⊢; rw [h.2]; exact hW
theorem FrN.HB {b : Nat} {t : xS} {N N' : xMem} (h : FrN N N') (hB : HB b t N) : HB b t N' := hB.to (fun κ i k hk => Or.inl (h.1 _ _ (by show κ ≠ 23; omega) (by show κ ≠ 24; omega))) (fun κ i k _ => by rw [h.2])
theorem FrN.put {n x : Nat} {N : xMem} : FrN N (pPut n x N) := ⟨fun a y a1 a2 => by
  unfold pPut
  rw [xsi_1, if_neg (fun e => a1 (by rw [e.1])), xsi_1, if_neg (fun e => a2 (by rw [e.1]))], rfl⟩
theorem FrN.pop {n : Nat} {N : xMem} : FrN N (pPop n N) := ⟨fun a y a1 a2 => by
  unfold pPop
  rw [xsi_1, if_neg (fun e => a1 (by rw [e.1]))], rfl⟩
theorem PL.put {L : List Nat} {x : Nat} {N : xMem} (h : PL L N) : PL (x :: L) (pPut L.length x N) := by
  unfold pPut
  refine ⟨by rw [xsi_1, if_pos ⟨rfl, rfl⟩, List.length_cons], ?_, plL_w h.2 (fun i hi => ?_)⟩
  · rw [xsi_1, if_neg (fun e => absurd e.1 (by decide)), xsi_1, if_pos ⟨rfl, rfl⟩]
  · rw [xsi_1, if_neg (fun e => absurd e.1 (by decide)), xsi_1, if_neg (fun e => by omega)]
theorem PL.pop {L : List Nat} {x : Nat} {N : xMem} (h : PL (x :: L) N) : PL L (pPop L.length N) := by
  unfold pPop
  refine ⟨by rw [xsi_1, if_pos ⟨rfl, rfl⟩], plL_w h.2.2 (fun i hi => ?_)⟩
  rw [xsi_1, if_neg (fun e => absurd e.1 (by decide))]
theorem pR_23 {M : xMem} (hW : XW M) : xgR M (some (23, 0, 0)) 4 0 = some (some (24, 0, 0)) := (xgR_w hW sh_23 (by decide) (by decide) rfl).trans rfl
theorem D_clear {u : xS} {N : xMem} (hW : XW N) : fP_clear (cM 1 u N) (23, 0, 0) = some (cM 1 u (pPop 0 N)) := by
  have hW' : XW (cM 1 u N) := hW
  unfold fP_clear
  rw [xpI_w hW' sh_23, Option.bind_some, cM_out' (Or.inr (Or.inr (Or.inr (by decide))))]
  rfl
theorem D_put {u : xS} {N : xMem} {L : List Nat} {x : Nat} (hW : XW N) (hP : PL L N) (hL : L.length < 400) : fP_put (cM 1 u N) (23, 0, 0) (nI x) = some (cM 1 u (pPut L.length x N)) := by
  have hW' : XW (cM 1 u N) := hW
  have e1 : (cM 1 u N).1 (23, 0, 0) 1 = nI L.length := (cM_out (Or.inr (Or.inr (by decide)))).trans hP.1
  have hW2 : XW (xsi (cM 1 u N) (24, 0, 0) L.length (nI x)) := hW
  unfold fP_put
  rw [xgI_w hW' sh_23, Option.bind_some, e1, pR_23 hW', Option.bind_some, xal_w hW' sh_24 (by decide) (by decide), Option.bind_some, if_neg (by rw [nI_leI (by decide) (by omega)]; omega), Option.bind_some, Option.bind_some, xuI_w hW' sh_24 hL (by decide), Option.bind_some, xgI_w hW2 sh_23, Option.bind_some, xsi_1, if_neg (fun e => absurd e.1 (by decide)), e1, kl_1, nI_add, xpI_w hW2 sh_23, Option.bind_some, cM_out' (Or.inr (Or.inr (Or.inr (by decide)))), cM_out' (Or.inr (Or.inr (Or.inr (by decide))))]
  rfl
theorem D_pop {u : xS} {N : xMem} {L : List Nat} {x : Nat} (hW : XW N) (hP : PL (x :: L) N) (hL : L.length < 400) : fP_takeLatest (cM 1 u N) (23, 0, 0) = some (nI x, cM 1 u (pPop L.length N)) := by
  have hW' : XW (cM 1 u N) := hW
  have e1 : (cM 1 u N).1 (23, 0, 0) 1 = nI (L.length + 1) := (cM_out (Or.inr (Or.inr (by decide)))).trans hP.1
  have hW2 : XW (xsi (cM 1 u N) (23, 0, 0) 1 (nI L.length)) := hW
  have e2 : (cM 1 u N).1 (24, 0, 0) L.length = nI x := (cM_out (Or.inr (Or.inr (by decide)))).trans hP.2.1
  unfold fP_takeLatest
  rw [xgI_w hW' sh_23, Option.bind_some, e1, if_neg (show ¬ nI (L.length + 1) = 0 from by rw [kl_0, nI_eq (by omega) (by decide)]; omega), Option.bind_some, kl_1, pk_sub (by omega), Nat.add_sub_cancel, xpI_w hW' sh_23, Option.bind_some, pR_23 hW2, Option.bind_some, xgI_w hW2 sh_23, Option.bind_some, xsi_1, if_pos ⟨rfl, rfl⟩, xaI_w hW2 sh_24 (by omega) (by decide), Option.bind_some, xsi_1, if_neg (fun e => absurd e.1 (by decide)), e2, cM_out' (Or.inr (Or.inr (Or.inr (by decide))))]
  rfl
def trA (a3 : Int32) (T : Nat) (u t : xS) : Int32 := if a3 = 0 then nI (u.1 19 2) - nI (t.1 19 2) else if a3 = 1 then nI T else nI (qMade u) - nI (qMade t)
theorem C_tripG {p T : Nat} {a3 : Int32} {t : xS} (hp : p < 4) (hT : T < 400) : ∀ (L : List Nat) f j u N, XW N → HB 0 t N → INV u → LV u L → PL L N → j + L.length = T → L.length < f → ∃ N', fX_trip_95 f (cM 1 u N) (some (0, 0, 0)) (nI p) a3 (nI T) (nI j) = some (trA a3 T (tpG p L u) t, cM 1 (tpG p L u) N') ∧ FrN N N' := by
  intro L
  induction L with
  | nil =>
    intro f j u N hW h0 hI hL hP hj hf
    obtain ⟨f, rfl⟩ : ∃ m, f = m + 1 := ⟨f - 1, by omega⟩
    have hj : j = T := hj
    subst hj
    have hW' : XW (cM 1 u N) := hW
    have g7 : (cM 1 u N).1 (1, 1, 0) 7 = nI (u.1 19 2) := cM_rT (e := 0) rfl
    have g5 : (cM 1 u N).1 (1, 1, 0) 5 = nI (qMade u) := cM_rD rfl rfl
    have k7 : (cM 1 u N).1 (1, 0, 0) 7 = nI (t.1 19 2) := (cM_o (Or.inl (by decide))).trans (h0.1 1 0 7 _ (cI_T (e := 0) rfl))
    have k5 : (cM 1 u N).1 (1, 0, 0) 5 = nI (qMade t) := (cM_o (Or.inl (by decide))).trans (h0.1 1 0 5 _ ((cI_D rfl).trans rfl))
    refine ⟨N, ?_, FrN.rfl'⟩
    unfold fX_trip_95 trA
    rw [if_pos (nI_le (Nat.le_refl _) (by omega))]
    by_cases h1 : a3 = 0
    · rw [if_pos h1, if_pos h1, tR_1 hW', Option.bind_some, xgI_w hW' (sh_1 (by decide)), Option.bind_some, g7, tR_0 hW', Option.bind_some, xgI_w hW' (sh_1 (by decide)), Option.bind_some, k7]
      rfl
    · rw [if_neg h1, if_neg h1]
      by_cases h2 : a3 = 1
      · rw [if_pos h2, if_pos h2]; rfl
      · rw [if_neg h2, if_neg h2, tR_1 hW', Option.bind_some, xgI_w hW' (sh_1 (by decide)), Option.bind_some, g5, tR_0 hW', Option.bind_some, xgI_w hW' (sh_1 (by decide)), Option.bind_some, k5]
        rfl
  | cons x L ih =>
    intro f j u N hW h0 hI hL hP hj hf
    obtain ⟨f, rfl⟩ : ∃ m, f = m + 1 := ⟨f - 1, by omega⟩
    rw [List.length_cons] at hj hf
    have hW' : XW (cM 1 u N) := hW
    have hx := hL.2 x List.mem_cons_self
    have hW2 : XW (pPop L.length N) := hW
    have hW3 : XW (cM 1 u (pPop L.length N)) := hW
    obtain ⟨N', h1, h2⟩ := ih f (j + 1) (sGives u x p) (pPop L.length N) hW2 (FrN.pop.HB h0) (hI.gives hx.1 hx.2 hp) hL.give hP.pop (by omega) (by omega)
    refine ⟨N', ?_, FrN.pop.tr h2⟩
    unfold fX_trip_95
    rw [if_neg (by rw [nI_leI (by omega) (by omega)]; omega), tR_1 hW', Option.bind_some, tR_4 hW', Option.bind_some, xob_w hW' sh_23, Option.bind_some, D_pop hW hP (by omega), Option.bind_some, xob_w hW3 (sh_1 (by decide)), Option.bind_some, D_giveBy hW2 (by decide) hI hx.1 hx.2 hp, Option.bind_some, kl_1, nI_add]
    exact h1
theorem C_tripL {c p v : Nat} {a3 : Int32} {t : xS} (hp : p < 4) (hv : v ≤ 40) : ∀ e i f L u N, XW N → HB 0 t N → INV u → c < u.1 19 0 → LV u L → PL L N → i + e = v → L.length + e ≤ 40 → e < f → ∃ N', fX_trip_45 f (cM 1 u N) (some (0, 0, 0)) (nI c) (nI p) (nI v) a3 (nI i) = some (trA a3 (tpT c p e L u).1.length (tpG p (tpT c p e L u).1 (tpT c p e L u).2) t, cM 1 (tpG p (tpT c p e L u).1 (tpT c p e L u).2) N') ∧ FrN N N' := by
  intro e
  induction e with
  | zero =>
    intro i f L u N hW h0 hI hc hL hP hi hl hf
    obtain ⟨f, rfl⟩ : ∃ m, f = m + 1 := ⟨f - 1, by omega⟩
    have hi : i = v := by omega
    subst hi
    have hW' : XW (cM 1 u N) := hW
    have e1 : (cM 1 u N).1 (23, 0, 0) 1 = nI L.length := (cM_out (Or.inr (Or.inr (by decide)))).trans hP.1
    obtain ⟨N', h1, h2⟩ := C_tripG (p := p) (T := L.length) (a3 := a3) hp (by omega) L xF 0 u N hW h0 hI hL hP (by omega) (by unfold xF; omega)
    refine ⟨N', ?_, h2⟩
    unfold fX_trip_45
    rw [if_pos (nI_le (Nat.le_refl _) (by omega)), tR_4 hW', Option.bind_some, xgI_w hW' sh_23, Option.bind_some, e1, kl_0]
    exact h1
  | succ e ih =>
    intro i f L u N hW h0 hI hc hL hP hi hl hf
    obtain ⟨f, rfl⟩ : ∃ m, f = m + 1 := ⟨f - 1, by omega⟩
    have hW' : XW (cM 1 u N) := hW
    have hT := hL.take hI hc hp
    have hI' := hI.takes hc hp
    have hc' : c < (sTakes u c p).2.1 19 0 := by rw [takes_19 hc]; exact hc
    have hW2 : XW (cM 1 (sTakes u c p).2 N) := hW
    unfold fX_trip_45 tpT
    rw [if_neg (by rw [nI_leI (by omega) (by omega)]; omega), tR_1 hW', Option.bind_some, xob_w hW' (sh_1 (by decide)), Option.bind_some, D_takeBy hW (by decide) hI hc hp, Option.bind_some]
    dsimp only
    by_cases h1 : (sTakes u c p).1 < 1984
    · rw [if_pos h1] at hT ⊢
      obtain ⟨N', g1, g2⟩ := ih (i + 1) f ((sTakes u c p).1 :: L) (sTakes u c p).2 (pPut L.length (sTakes u c p).1 N) hW (FrN.put.HB h0) hI' hc' hT hP.put (by omega) (by rw [List.length_cons]; omega) (by omega)
      refine ⟨N', ?_, FrN.put.tr g2⟩
      rw [en_lt h1, if_neg (show ¬ nI (sTakes u c p).1 = (-1 : Int32) from fun e => nI_pos (show (sTakes u c p).1 < 2 ^ 31 by omega) (e ▸ (by decide))), tR_4 hW2, Option.bind_some, xob_w hW2 sh_23, Option.bind_some, D_put hW hP (by omega), Option.bind_some]
      unfold fX_trip_77
      rw [kl_1, nI_add]
      exact g1
    · rw [if_neg h1] at hT ⊢
      obtain ⟨N', g1, g2⟩ := ih (i + 1) f L (sTakes u c p).2 N hW h0 hI' hc' hT hP (by omega) (by omega) (by omega)
      refine ⟨N', ?_, g2⟩
      rw [en_ge h1, if_pos (show m1 = (-1 : Int32) from rfl)]
      unfold fX_trip_77
      rw [kl_1, nI_add]
      exact g1
