/-! drawn: one act -/
def dX (r : Int32) : Int32 := (xushr r (16 : Int32)) - (xushr r (16 : Int32)) / (5 : Int32) * (5 : Int32)
def dN (r : Int32) : Nat := r.toBitVec.toNat / 2 ^ 10
def dP (r : Int32) : Nat := (xushr r (8 : Int32)).toBitVec.toNat % 2 ^ 2
theorem dP_lt {r : Int32} : dP r < 4 := Nat.mod_lt _ (by decide)
theorem us_8 {r : Int32} : (xushr r (8 : Int32)) &&& (3 : Int32) = nI (dP r) := pk_and _ 2 (by decide)
theorem dN_lt {r : Int32} : dN r < 2 ^ 31 := by
  unfold dN
  have := r.toBitVec.isLt
  omega
theorem us_10 {r : Int32} : xushr r (10 : Int32) = nI (dN r) := by
  apply Int32.toBitVec_inj.mp
  apply BitVec.eq_of_toNat_eq
  rw [pk_tn (by have := dN_lt (r := r); omega)]
  exact pk_ushr r 10 10 (by decide)
def dTk (u : xS) (L : List Nat) (k c p : Nat) : xS × List Nat × Nat := ((sTakes u c p).2, if (sTakes u c p).1 < 1984 then (sTakes u c p).1 :: L else L, if (sTakes u c p).1 < 1984 then k else k + 1)
def dGv (u : xS) (k p : Nat) : List Nat → xS × List Nat × Nat
  | [] => (u, [], k)
  | x :: L => (sGives u x p, L, k)
def dS (r : Int32) (u : xS) (L : List Nat) (k : Nat) : xS × List Nat × Nat :=
  if dX r = 0 then (sTick u, L, k) else if 2 < dX r then (if u.1 19 0 = 0 then (u, L, k) else dTk u L k (dN r % u.1 19 0) (dP r)) else dGv u k (dP r) L
theorem dS_ok {r : Int32} {s t : xS} {L : List Nat} {k : Nat} (h : EQs s t) (hI : INV s) (hL : LV s L) : (dS r t L k).2 = (dS r s L k).2 ∧ EQs (dS r s L k).1 (dS r t L k).1 ∧ INV (dS r s L k).1 ∧ LV (dS r s L k).1 (dS r s L k).2.1 ∧ (dS r s L k).2.1.length ≤ L.length + 1 ∧ (dS r s L k).2.2 ≤ k + 1 := by
  unfold dS
  rw [h.n (j := 0) (by decide)]
  by_cases h1 : dX r = 0
  · rw [if_pos h1, if_pos h1]
    exact ⟨rfl, h.tick hI, hI.tick, hL.tick (fun y _ hy => tick_17 hI hy), by show L.length ≤ _; omega, Nat.le_succ _⟩
  · rw [if_neg h1, if_neg h1]
    by_cases h2 : 2 < dX r
    · rw [if_pos h2, if_pos h2]
      by_cases h3 : s.1 19 0 = 0
      · rw [if_pos h3, if_pos h3]
        exact ⟨rfl, h, hI, hL, by show L.length ≤ _; omega, Nat.le_succ _⟩
      · rw [if_neg h3, if_neg h3]
        have hc : dN r % s.1 19 0 < s.1 19 0 := Nat.mod_lt _ (by omega)
        have hE := h.takes hI hc (dP_lt (r := r))
        unfold dTk
        rw [hE.1]
        refine ⟨rfl, hE.2, hI.takes hc dP_lt, hL.take hI hc dP_lt, ?_, ?_⟩
        · dsimp only; split
          · rw [List.length_cons]; omega
          · omega
        · dsimp only; split <;> omega
    · rw [if_neg h2, if_neg h2]
      cases L with
      | nil => exact ⟨rfl, h, hI, hL, Nat.le_succ _, Nat.le_succ _⟩
      | cons x L =>
        have hx := hL.2 x List.mem_cons_self
        exact ⟨rfl, h.gives hI hx.1 hx.2 dP_lt, hI.gives hx.1 hx.2 dP_lt, hL.give, by show L.length ≤ (L.length + 1) + 1; omega, Nat.le_succ _⟩
theorem nI_k1 (k : Nat) : nI k + (1 : Int32) = nI (k + 1) := by rw [kl_1, nI_add]
theorem nI_k0 (k : Nat) : nI k + (0 : Int32) = nI k := by rw [kl_0, nI_add]; rfl
theorem C_draw1 {r : Int32} {u : xS} {N : xMem} {L : List Nat} {k : Nat} (hW : XW N) (hI : INV u) (hL : LV u L) (hP : PL L N) (h4 : L.length < 400) : ∃ N' v, fX_drawAct (cM 1 u N) (0, 0, 0) r = some (v, cM 1 (dS r u L k).1 N') ∧ nI k + v = nI (dS r u L k).2.2 ∧ PL (dS r u L k).2.1 N' ∧ FrN N N' := by
  have hW' : XW (cM 1 u N) := hW
  have hn := hI.R.n
  have g4 : (cM 1 u N).1 (1, 1, 0) 4 = nI (u.1 19 0) := cM_rT (e := 0) rfl
  unfold fX_drawAct dS
  dsimp only
  by_cases h1 : dX r = 0
  · have h1' : (xushr r (16 : Int32)) - (xushr r (16 : Int32)) / (5 : Int32) * (5 : Int32) = 0 := h1
    rw [if_pos h1', if_pos h1, tR_1 hW', Option.bind_some, xob_w hW' (sh_1 (by decide)), Option.bind_some, D_endInterval hW (by decide) hI, Option.bind_some]
    exact ⟨N, 0, rfl, nI_k0 k, hP, FrN.rfl'⟩
  · have h1' : ¬ (xushr r (16 : Int32)) - (xushr r (16 : Int32)) / (5 : Int32) * (5 : Int32) = 0 := h1
    rw [if_neg h1', if_neg h1]
    by_cases h2 : 2 < dX r
    · have h2' : (2 : Int32) < (xushr r (16 : Int32)) - (xushr r (16 : Int32)) / (5 : Int32) * (5 : Int32) := h2
      rw [if_pos h2', if_pos h2, tR_1 hW', Option.bind_some, xgI_w hW' (sh_1 (by decide)), Option.bind_some, g4]
      by_cases h3 : u.1 19 0 = 0
      · rw [if_pos h3, if_pos (by rw [h3]; decide)]
        exact ⟨N, 0, rfl, nI_k0 k, hP, FrN.rfl'⟩
      · have hc : dN r % u.1 19 0 < u.1 19 0 := Nat.mod_lt _ (by omega)
        have hT := hL.take hI hc (dP_lt (r := r))
        have hW2 : XW (cM 1 (sTakes u (dN r % u.1 19 0) (dP r)).2 N) := hW
        rw [if_neg h3, if_neg (show ¬ nI (u.1 19 0) ≤ 0 from by rw [kl_0, nI_leI (by omega) (by decide)]; omega), Option.bind_some, Option.bind_some, xgI_w hW' (sh_1 (by decide)), g4, Option.bind_some, if_neg (show ¬ nI (u.1 19 0) = 0 from by rw [kl_0, nI_eq (by omega) (by decide)]; exact h3), xob_w hW' (sh_1 (by decide)), Option.bind_some, us_8, us_10, pk_rem dN_lt (by omega) (by omega), D_takeBy hW (by decide) hI hc dP_lt, Option.bind_some]
        unfold dTk
        dsimp only
        by_cases hl : (sTakes u (dN r % u.1 19 0) (dP r)).1 < 1984
        · rw [en_lt hl, if_pos hl, if_pos hl, if_neg (show ¬ nI (sTakes u (dN r % u.1 19 0) (dP r)).1 = (-1 : Int32) from fun e => nI_pos (show (sTakes u (dN r % u.1 19 0) (dP r)).1 < 2 ^ 31 by omega) (e ▸ (by decide))), tR_4 hW2, Option.bind_some, xob_w hW2 sh_23, Option.bind_some, D_put hW hP h4, Option.bind_some]
          exact ⟨_, 0, rfl, nI_k0 k, hP.put, FrN.put⟩
        · rw [en_ge hl, if_neg hl, if_neg hl, if_pos (show m1 = (-1 : Int32) from rfl)]
          exact ⟨N, 1, rfl, nI_k1 k, hP, FrN.rfl'⟩
    · have h2' : ¬ (2 : Int32) < (xushr r (16 : Int32)) - (xushr r (16 : Int32)) / (5 : Int32) * (5 : Int32) := h2
      have e1 : (cM 1 u N).1 (23, 0, 0) 1 = nI L.length := (cM_out (Or.inr (Or.inr (by decide)))).trans hP.1
      rw [if_neg h2', if_neg h2, tR_4 hW', Option.bind_some, xgI_w hW' sh_23, Option.bind_some, e1]
      cases L with
      | nil =>
        rw [List.length_nil, if_pos (by decide)]
        exact ⟨N, 0, rfl, nI_k0 k, hP, FrN.rfl'⟩
      | cons x L =>
        have hx := hL.2 x List.mem_cons_self
        rw [List.length_cons] at h4 ⊢
        have hW2 : XW (pPop L.length N) := hW
        have hW3 : XW (cM 1 u (pPop L.length N)) := hW
        rw [if_neg (show ¬ nI (L.length + 1) ≤ 0 from by rw [kl_0, nI_leI (by omega) (by decide)]; omega), tR_1 hW', Option.bind_some, Option.bind_some, xob_w hW' sh_23, Option.bind_some, D_pop hW hP (by omega), Option.bind_some, xob_w hW3 (sh_1 (by decide)), Option.bind_some, us_8, D_giveBy hW2 (by decide) hI hx.1 hx.2 dP_lt, Option.bind_some]
        exact ⟨_, 0, rfl, nI_k0 k, hP.pop, FrN.pop⟩
/-! the model's -/
def DM (L : List Nat) (k : Nat) (F : xMem) : Prop := plL (F.1 (74, 0, 0)) L ∧ F.1 (44, 0, 0) 36 = nI L.length ∧ F.1 (44, 0, 0) 37 = nI k
def FrD (F F' : xMem) : Prop := (∀ a x, a.1 ≠ 74 → ¬ (a.1 = 44 ∧ (x = 36 ∨ x = 37)) → F'.1 a x = F.1 a x) ∧ F'.2 = F.2
theorem FrD.rfl' {F : xMem} : FrD F F := ⟨fun _ _ _ _ => rfl, rfl⟩
theorem FrD.tr {N N' N'' : xMem} (h : FrD N N') (h2 : FrD N' N'') : FrD N N'' := ⟨fun a x a1 a2 => (h2.1 a x a1 a2).trans (h.1 a x a1 a2), h2.2.trans h.2⟩
theorem FrD.W {N N' : xMem} (h : FrD N N') (hW : XW N) : XW N' := by
  unfold XW at hW ⊢; rw [h.2]; exact hW
theorem FrD.ag {X F F' : xMem} (h : FrD F F') (hA : AgX X F) : AgX X F' := ⟨fun a x hk => by
  rw [h.1 a x (by unfold kpX at hk; omega) (by unfold kpX at hk; omega)]; exact hA.1 a x hk, fun a x hk => by rw [h.2]; exact hA.2.1 a x hk, by rw [h.2]; exact hA.2.2⟩
theorem FrD.kp {w : Nat} {K F F' : xMem} (h : FrD F F') (hK : KPm w K F) : KPm w K F' := hK.to (fun x _ _ => h.1 _ _ (show (72 : Nat) ≠ 74 by decide) (fun e => absurd e.1 (show ¬ (72 : Nat) = 44 by decide))) (fun x _ _ => by rw [h.2])
theorem tM_35 {M : xMem} (hW : XW M) : xgR M (some (44, 0, 0)) 8 35 = some (some (74, 0, 0)) := (xgR_w hW sh_44 (by decide) (by decide) rfl).trans rfl
theorem M_draw1 {r d : Int32} {u : xS} {F : xMem} {L : List Nat} {k : Nat} (hW : XW F) (hI : INV u) (hL : LV u L) (hD : DM L k F) (h4 : L.length < 400) : ∃ F', fM_draws (mM d u F) (44, 0, 0) r = some (mM d (dS r u L k).1 F') ∧ DM (dS r u L k).2.1 (dS r u L k).2.2 F' ∧ FrD F F' := by
  have hW' : XW (mM d u F) := hW
  have hn := hI.R.n
  have g36 : ∀ u', (mM d u' F).1 (44, 0, 0) 36 = nI L.length := fun u' => (mM_oF (by decide)).trans hD.2.1
  have g37 : ∀ u', (mM d u' F).1 (44, 0, 0) 37 = nI k := fun u' => (mM_oF (by decide)).trans hD.2.2
  unfold fM_draws dS
  dsimp only
  by_cases h1 : dX r = 0
  · have h1' : (xushr r (16 : Int32)) - (xushr r (16 : Int32)) / (5 : Int32) * (5 : Int32) = 0 := h1
    rw [if_pos h1', if_pos h1, xob_w hW' sh_44, Option.bind_some, M_endsInterval hW hI.R hI.preI, Option.bind_some]
    exact ⟨F, rfl, hD, FrD.rfl'⟩
  · have h1' : ¬ (xushr r (16 : Int32)) - (xushr r (16 : Int32)) / (5 : Int32) * (5 : Int32) = 0 := h1
    rw [if_neg h1', if_neg h1]
    by_cases h2 : 2 < dX r
    · have h2' : (3 : Int32) ≤ (xushr r (16 : Int32)) - (xushr r (16 : Int32)) / (5 : Int32) * (5 : Int32) := by
        have h2' : (2 : Int32) < (xushr r (16 : Int32)) - (xushr r (16 : Int32)) / (5 : Int32) * (5 : Int32) := h2
        rw [Int32.lt_iff_toInt_lt] at h2'
        rw [Int32.le_iff_toInt_le]
        have e2 : (2 : Int32).toInt = 2 := by decide
        have e3 : (3 : Int32).toInt = 3 := by decide
        omega
      rw [if_pos h2', if_pos h2, xgI_w hW' sh_44, Option.bind_some, mM_13]
      by_cases h3 : u.1 19 0 = 0
      · rw [if_pos h3, if_pos (by rw [h3]; decide)]
        exact ⟨F, rfl, hD, FrD.rfl'⟩
      · have hc : dN r % u.1 19 0 < u.1 19 0 := Nat.mod_lt _ (by omega)
        have hT := hL.take hI hc (dP_lt (r := r))
        have hW2 : XW (mM d (sTakes u (dN r % u.1 19 0) (dP r)).2 F) := hW
        rw [if_neg h3, if_neg (show ¬ nI (u.1 19 0) ≤ 0 from by rw [kl_0, nI_leI (by omega) (by decide)]; omega), Option.bind_some, if_neg (show ¬ nI (u.1 19 0) = 0 from by rw [kl_0, nI_eq (by omega) (by decide)]; exact h3), xob_w hW' sh_44, Option.bind_some, us_8, us_10, pk_rem dN_lt (by omega) (by omega), M_takes hW hI.R (fun b hb => hI.S hb) hc dP_lt (hI.preT hc dP_lt), Option.bind_some]
        unfold dTk
        dsimp only
        by_cases hl : (sTakes u (dN r % u.1 19 0) (dP r)).1 < 1984
        · rw [en_lt hl, if_pos hl, if_pos hl, if_pos (show (0 : Int32) ≤ nI (sTakes u (dN r % u.1 19 0) (dP r)).1 from nI_pos' (by omega)), tM_35 hW2, Option.bind_some, xgI_w hW2 sh_44, Option.bind_some, g36, xuI_w hW2 sh_74 h4 (by decide), Option.bind_some]
          have hW3 : XW (xsi (mM d (sTakes u (dN r % u.1 19 0) (dP r)).2 F) (74, 0, 0) L.length (nI (sTakes u (dN r % u.1 19 0) (dP r)).1)) := hW
          rw [xgI_w hW3 sh_44, Option.bind_some, xsi_1, if_neg (fun e => absurd e.1 (by decide)), g36, kl_1, nI_add, xpI_w hW3 sh_44, Option.bind_some, mM_out' (by decide) (by decide) (by decide), mM_oF' (by decide)]
          refine ⟨_, rfl, ⟨⟨?_, plL_w hD.1 (fun i hi => ?_)⟩, ?_, ?_⟩, ⟨fun a x a1 a2 => ?_, rfl⟩⟩
          · rw [xsi_1, if_neg (fun e => absurd e.1 (by decide)), xsi_1, if_pos ⟨rfl, rfl⟩]
          · rw [xsi_1, if_neg (fun e => absurd e.1 (by decide)), xsi_1, if_neg (fun e => by omega)]
          · rw [xsi_1, if_pos ⟨rfl, rfl⟩, List.length_cons]
          · rw [xsi_1, if_neg (by decide), xsi_1, if_neg (fun e => absurd e.1 (by decide))]; exact hD.2.2
          · rw [xsi_1, if_neg (fun e => a2 ⟨by rw [e.1], Or.inl e.2⟩), xsi_1, if_neg (fun e => a1 (by rw [e.1]))]
        · rw [en_ge hl, if_neg hl, if_neg hl, if_neg (show ¬ (0 : Int32) ≤ -9 by decide), xgI_w hW2 sh_44, Option.bind_some, g37, kl_1, nI_add, xpI_w hW2 sh_44, Option.bind_some, mM_oF' (by decide)]
          refine ⟨_, rfl, ⟨plL_w hD.1 (fun i hi => ?_), ?_, ?_⟩, ⟨fun a x a1 a2 => ?_, rfl⟩⟩
          · rw [xsi_1, if_neg (fun e => absurd e.1 (by decide))]
          · rw [xsi_1, if_neg (by decide)]; exact hD.2.1
          · rw [xsi_1, if_pos ⟨rfl, rfl⟩]
          · rw [xsi_1, if_neg (fun e => a2 ⟨by rw [e.1], Or.inr e.2⟩)]
    · have h2' : ¬ (3 : Int32) ≤ (xushr r (16 : Int32)) - (xushr r (16 : Int32)) / (5 : Int32) * (5 : Int32) := fun h3 => h2 (by
        show (2 : Int32) < (xushr r (16 : Int32)) - (xushr r (16 : Int32)) / (5 : Int32) * (5 : Int32)
        rw [Int32.lt_iff_toInt_lt]
        rw [Int32.le_iff_toInt_le] at h3
        have e2 : (2 : Int32).toInt = 2 := by decide
        have e3 : (3 : Int32).toInt = 3 := by decide
        omega)
      rw [if_neg h2', if_neg h2, xgI_w hW' sh_44, Option.bind_some, g36]
      cases L with
      | nil =>
        rw [List.length_nil, if_pos (by decide)]
        exact ⟨F, rfl, hD, FrD.rfl'⟩
      | cons x L =>
        have hx := hL.2 x List.mem_cons_self
        have hV := hI.V hx.1 (by omega)
        rw [List.length_cons] at h4 ⊢
        have hW2 : XW (xsi F (44, 0, 0) 36 (nI L.length)) := hW
        have hW3 : XW (mM d u (xsi F (44, 0, 0) 36 (nI L.length))) := hW
        have e36 : (mM d u (xsi F (44, 0, 0) 36 (nI L.length))).1 (44, 0, 0) 36 = nI L.length := (mM_oF (by decide)).trans (by rw [xsi_1, if_pos ⟨rfl, rfl⟩])
        have e74 : (mM d u (xsi F (44, 0, 0) 36 (nI L.length))).1 (74, 0, 0) L.length = nI x := (mM_out (by decide) (by decide) (by decide)).trans (by rw [xsi_1, if_neg (fun e => absurd e.1 (by decide))]; exact hD.1.1)
        rw [if_neg (show ¬ nI (L.length + 1) = 0 from by rw [kl_0, nI_eq (by omega) (by decide)]; omega), Option.bind_some, kl_1, pk_sub (by omega), Nat.add_sub_cancel, xpI_w hW' sh_44, Option.bind_some, mM_oF' (by decide), tM_35 hW3, Option.bind_some, xgI_w hW3 sh_44, Option.bind_some, e36, xaI_w hW3 sh_74 (by omega) (by decide), Option.bind_some, e74, xob_w hW3 sh_44, Option.bind_some, us_8, M_gives hW2 hI.R hx.1 hV.1 dP_lt (hI.preG (hI.R.pg (p := x / 62) (by have := hx.1; omega) hV.1).1 dP_lt), Option.bind_some]
        refine ⟨_, rfl, ⟨plL_w hD.1.2 (fun i hi => ?_), ?_, ?_⟩, ⟨fun a x a1 a2 => ?_, rfl⟩⟩
        · rw [xsi_1, if_neg (fun e => absurd e.1 (by decide))]
        · rw [xsi_1, if_pos ⟨rfl, rfl⟩]; rfl
        · rw [xsi_1, if_neg (by decide)]; exact hD.2.2
        · rw [xsi_1, if_neg (fun e => a2 ⟨by rw [e.1], Or.inl e.2⟩)]
