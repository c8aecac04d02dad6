/-! a run's statements: the class's -/
def CS (j b κn : Nat) (N : xMem) : Prop := XW N ∧ N.2.2.1 (36, 0, 0) 3 = some (26, 0, j) ∧ N.2.2.1 (36, 0, 0) 4 = some (1, b, 0) ∧ N.2.2.1 (36, 0, 0) 5 = some (κn, 0, 0) ∧ j < 2 ∧ b < 3 ∧ (κn = 38 ∨ κn = 39)
theorem CS.r3 {j b κn b' : Nat} {u : xS} {N : xMem} (h : CS j b κn N) : xgR (cM b' u N) (some (36, 0, 0)) 5 3 = some (some (26, 0, j)) := (xgR_v (M := cM b' u N) h.1 sh_36).trans (congrArg some h.2.1)
theorem CS.r4 {j b κn b' : Nat} {u : xS} {N : xMem} (h : CS j b κn N) : xgR (cM b' u N) (some (36, 0, 0)) 5 4 = some (some (1, b, 0)) := (xgR_v (M := cM b' u N) h.1 sh_36).trans (congrArg some h.2.2.1)
theorem CS.r5 {j b κn b' : Nat} {u : xS} {N : xMem} (h : CS j b κn N) : xgR (cM b' u N) (some (36, 0, 0)) 5 5 = some (some (κn, 0, 0)) := (xgR_v (M := cM b' u N) h.1 sh_36).trans (congrArg some h.2.2.2.1)
theorem CS.r2 {j b κn b' : Nat} {u : xS} {N : xMem} (h : CS j b κn N) : xgR (cM b' u N) (some (36, 0, 0)) 5 2 = some (some (37, 0, 0)) := (xgR_w (M := cM b' u N) h.1 sh_36 (by decide) (by decide) rfl).trans rfl
theorem CS.tr {j b κn b' k : Nat} {u : xS} {N : xMem} (h : CS j b κn N) (hk : k < 6) : xgR (cM b' u N) (some (26, 0, j)) 6 k = some (some (27 + k, 0, j)) := by
  rw [xgR_w (M := cM b' u N) h.1 (sh_26 h.2.2.2.2.1) (by decide) (by omega) (by unfold xmut; simp; omega)]
  congr 1
  rcases (show k = 0 ∨ k = 1 ∨ k = 2 ∨ k = 3 ∨ k = 4 ∨ k = 5 by omega) with rfl | rfl | rfl | rfl | rfl | rfl <;> rfl
theorem CS.shr {j b κn k : Nat} {N : xMem} (h : CS j b κn N) (hk : k < 6) : xsh (27 + k, 0, j) = some (20, 100) := by
  have hj := h.2.2.2.2.1
  rcases (show k = 0 ∨ k = 1 ∨ k = 2 ∨ k = 3 ∨ k = 4 ∨ k = 5 by omega) with rfl | rfl | rfl | rfl | rfl | rfl
  · exact sh_27 hj
  · exact sh_28 hj
  · exact sh_29 hj
  · exact sh_30 hj
  · exact sh_31 hj
  · exact sh_32 hj
/-- one of a row's numbers -/
theorem CS.ra {j b κn b' k r : Nat} {v : Int32} {u : xS} {N : xMem} (h : CS j b κn N) (hk : k < 6) (hr : r < 100) (hv : N.1 (27 + k, 0, j) r = v) : xaI (cM b' u N) (some (27 + k, 0, j)) (nI r) = some v := by
  rw [xaI_w (M := cM b' u N) h.1 (h.shr hk) hr (by decide), cM_out (Or.inr (Or.inr (by omega))), hv]
theorem CS.nsh {j b κn : Nat} {N : xMem} (h : CS j b κn N) : xsh (κn, 0, 0) = some (20, 26) := by
  rcases h.2.2.2.2.2.2 with e | e
  · rw [e]; exact sh_38
  · rw [e]; exact sh_39
theorem CS.nal {j b κn b' : Nat} {u : xS} {N : xMem} (h : CS j b κn N) : xal (cM b' u N) (some (κn, 0, 0)) = some (nI 26) := xal_w (M := cM b' u N) h.1 h.nsh (by decide) (by decide)
theorem CS.gI {j b κn b' k : Nat} {u : xS} {N : xMem} (h : CS j b κn N) : xgI (cM b' u N) (some (36, 0, 0)) 5 k = some (N.1 (36, 0, 0) k) := by
  rw [xgI_w (M := cM b' u N) h.1 sh_36, cM_out (Or.inr (Or.inr (by decide)))]
theorem CS.pI {j b κn b' k : Nat} {v : Int32} {u : xS} {N : xMem} (h : CS j b κn N) : xpI (cM b' u N) (some (36, 0, 0)) 5 k v = some (cM b' u (xsi N (36, 0, 0) k v)) := by
  rw [xpI_w (M := cM b' u N) h.1 sh_36, cM_out' (Or.inr (Or.inr (Or.inr (by decide))))]
theorem CS.nr {j b κn b' v : Nat} {u : xS} {N : xMem} (h : CS j b κn N) (hv : v < 26) : xaI (cM b' u N) (some (κn, 0, 0)) (nI v) = some (N.1 (κn, 0, 0) v) := by
  rw [xaI_w (M := cM b' u N) h.1 h.nsh hv (by decide), cM_out (by have := h.2.2.2.2.2.2; omega)]
theorem CS.nw {j b κn b' v : Nat} {z : Int32} {u : xS} {N : xMem} (h : CS j b κn N) (hv : v < 26) : xuI (cM b' u N) (some (κn, 0, 0)) (nI v) z = some (cM b' u (xsi N (κn, 0, 0) v z)) := by
  rw [xuI_w (M := cM b' u N) h.1 h.nsh hv (by decide), cM_out' (by have := h.2.2.2.2.2.2; omega)]
theorem CS.set {j b κn k : Nat} {v : Int32} {a : xId} {N : xMem} (h : CS j b κn N) : CS j b κn (xsi N a k v) := h
theorem CS.dR {j b κn b' : Nat} {u : xS} {N : xMem} (h : CS j b κn N) : xgR (cM b' u N) (some (1, b, 0)) 3 0 = some (some (2, b, 0)) := tR_p (M := cM b' u N) h.1 h.2.2.2.2.2.1
theorem CS.o1 {j b κn b' : Nat} {u : xS} {N : xMem} (h : CS j b κn N) : xob (cM b' u N) (some (1, b, 0)) 3 = some (1, b, 0) := xob_w (M := cM b' u N) h.1 (sh_1 h.2.2.2.2.2.1)
theorem CS.o2 {j b κn b' : Nat} {u : xS} {N : xMem} (h : CS j b κn N) : xob (cM b' u N) (some (2, b, 0)) 0 = some (2, b, 0) := xob_w (M := cM b' u N) h.1 (sh_2 h.2.2.2.2.2.1)
theorem CS.o5 {j b κn b' : Nat} {u : xS} {N : xMem} (h : CS j b κn N) : xob (cM b' u N) (some (36, 0, 0)) 5 = some (36, 0, 0) := xob_w (M := cM b' u N) h.1 sh_36
theorem D_cacheS {b : Nat} {t : xS} {Y : xMem} {c : Nat} (hW : XW Y) (hb : b < 3) (hn : t.1 19 0 ≤ 4) (hc : c < 4) : fD_cacheAt (cM b t Y) (1, b, 0) (nI c) = some (if c < t.1 19 0 then some (14, b, c) else none, cM b t Y) := by
  by_cases h : c < t.1 19 0
  · rw [D_cacheN hW hb hn h, if_pos h]
  · rw [D_cacheAt hW hb hn, if_neg h]
    have : ¬ cN (t.1 19 0) (nI c) < t.1 19 0 := by
      unfold cN
      rw [if_pos (Or.inr (nI_le (by omega) (by omega)))]
      omega
    rw [if_neg this]
theorem qAddr_lt {s : xS} (hI : INV s) {x : Nat} (hx : x < 1984) (h0 : s.1 17 x ≠ 0) : qAddr s x < 32768 := by
  have hV := hI.V hx h0
  have hp := (hI.R.p (p := x / 62) (by omega)).2 hV.1
  have h1 : x % 62 * s.1 1 (s.1 13 (x / 62)) + s.1 1 (s.1 13 (x / 62)) ≤ qPer s (s.1 13 (x / 62)) * s.1 1 (s.1 13 (x / 62)) := by
    have := Nat.mul_le_mul_right (s.1 1 (s.1 13 (x / 62))) (show x % 62 + 1 ≤ qPer s (s.1 13 (x / 62)) from hV.2)
    rwa [Nat.add_mul, Nat.one_mul] at this
  have h2 := (hI.R.c hp.1).2.1
  unfold qAddr
  omega
def rTk (b κn v c p : Nat) (u : xS) (N : xMem) : xMem :=
  if c < u.1 19 0 then (if (sTakes u c p).1 < 1984 then cM b (sTakes u c p).2 (xsi N (κn, 0, 0) v (nI (qAddr (sTakes u c p).2 (sTakes u c p).1))) else cM b (sTakes u c p).2 (xsi N (36, 0, 0) 1 (-3))) else cM b u (xsi N (36, 0, 0) 1 (-1))
theorem R_take {j b κn r v c p : Nat} {u : xS} {N : xMem} (h : CS j b κn N) (hI : INV u) (hr : r < 100) (hv : v < 26) (hc : c < 4) (hp : p < 4) (e1 : N.1 (28, 0, j) r = nI v) (e2 : N.1 (29, 0, j) r = nI c) (e3 : N.1 (30, 0, j) r = nI p) : fR_takeNamed (cM b u N) (36, 0, 0) (nI r) = some (rTk b κn v c p u N) := by
  have hb := h.2.2.2.2.2.1
  have hn := hI.R.n
  unfold fR_takeNamed rTk
  rw [h.r3, Option.bind_some, h.tr (k := 1) (by decide), Option.bind_some, h.ra (k := 1) (by decide) hr e1, Option.bind_some, h.r4, Option.bind_some, Option.bind_some, h.tr (k := 2) (by decide), Option.bind_some, h.ra (k := 2) (by decide) hr e2, Option.bind_some, h.o1, Option.bind_some, D_cacheS h.1 hb hn hc, Option.bind_some]
  dsimp only
  by_cases h1 : c < u.1 19 0
  · rw [if_pos h1, if_pos h1, if_neg (by simp), if_neg (show ¬ nI v < (0 : Int32) from nI_pos (by omega)), h.r5, Option.bind_some, h.nal, Option.bind_some, if_pos (show nI v < nI 26 from by rw [nI_ltI (by omega) (by decide)]; exact hv), h.r4, Option.bind_some, h.r3, Option.bind_some, h.tr (k := 2) (by decide), Option.bind_some, h.ra (k := 2) (by decide) hr e2, Option.bind_some, Option.bind_some, h.tr (k := 3) (by decide), Option.bind_some, h.ra (k := 3) (by decide) hr e3, Option.bind_some, h.o1, Option.bind_some, D_takeBy h.1 hb hI h1 hp, Option.bind_some]
    dsimp only
    by_cases hl : (sTakes u c p).1 < 1984
    · have h17 := takes_live hI h1 hp hl
      have hV := (hI.takes h1 hp).V hl (by omega)
      rw [en_lt hl, if_neg (show ¬ nI (sTakes u c p).1 = (-1 : Int32) from fun e => nI_pos (show (sTakes u c p).1 < 2 ^ 31 by omega) (e ▸ (by decide))), h.r5, Option.bind_some, h.r4, Option.bind_some, h.dR, Option.bind_some, h.o2, Option.bind_some, D_addressOf h.1 hb hl hV.1, Option.bind_some, h.nw hv, Option.bind_some, if_pos hl]
    · rw [en_ge hl, if_pos (show m1 = (-1 : Int32) from rfl), h.pI, Option.bind_some, if_neg hl]
  · rw [if_neg h1, if_neg h1, if_pos rfl]
    unfold fR_takeNamed_42
    rw [h.pI, Option.bind_some]
/-- the live one of a name -/
theorem R_live {j b κn v nv : Nat} {u : xS} {N : xMem} (h : CS j b κn N) (hI : INV u) (hv : v < 26) (e1 : N.1 (κn, 0, 0) v = en 32768 m1 nv) : fR_liveSlotOf (cM b u N) (36, 0, 0) (nI v) = some (if nv < 32768 then (if qLive u (nI nv) < 1984 then (nI (qLive u (nI nv)), cM b u N) else (-1, cM b u (xsi N (36, 0, 0) 1 (-1)))) else (-1, cM b u (xsi N (36, 0, 0) 1 (-11)))) := by
  have hb := h.2.2.2.2.2.1
  have hn := hI.R.n
  unfold fR_liveSlotOf
  rw [if_neg (show ¬ nI v < (0 : Int32) from nI_pos (by omega)), h.r5, Option.bind_some, h.nal, Option.bind_some, if_neg (show ¬ nI 26 ≤ nI v from by rw [nI_leI (by decide) (by omega)]; omega), Option.bind_some, h.nr hv, Option.bind_some, e1]
  by_cases h1 : nv < 32768
  · rw [en_lt h1, if_neg (show ¬ nI nv = (-1 : Int32) from fun e => nI_pos (show nv < 2 ^ 31 by omega) (e ▸ (by decide))), h.r4, Option.bind_some, h.dR, Option.bind_some, Option.bind_some, h.nr hv, Option.bind_some, e1, en_lt h1, h.o2, Option.bind_some, D_slotOf h.1 hb hI.R, Option.bind_some]
    dsimp only
    rw [h.r4, Option.bind_some, h.dR, Option.bind_some, h.o2, Option.bind_some, D_isLive h.1 hb (fun hx => (beg_ok hI.R hx).2.2) (fun hx => hI.S hx), Option.bind_some, if_pos h1]
    dsimp only
    by_cases h2 : qBeI u (nI nv) < 1984 ∧ u.1 17 (qBeI u (nI nv)) = 1
    · have e2 : qLive u (nI nv) = qBeI u (nI nv) := if_pos h2
      rw [decide_eq_true h2, if_neg (by decide), e2, if_pos h2.1, en_lt h2.1]
    · have e2 : qLive u (nI nv) = 1984 := if_neg h2
      rw [decide_eq_false h2, if_pos (by decide), e2, if_neg (by decide), h.pI, Option.bind_some]
  · rw [en_ge h1, if_pos (show m1 = (-1 : Int32) from rfl), if_neg h1]
    unfold fR_liveSlotOf_23
    rw [h.pI, Option.bind_some]
