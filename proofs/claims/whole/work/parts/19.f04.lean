/-! shallow functions of the methods (by program, out of the bytecode), and that a run is what they say -/
-- 103: MagazineDepot.drawAct(I)I
def fX_drawAct (M : xMem) (this : xId) (a0 : Int32) : Option (Int32 × xMem) :=
  let x1 : Int32 := ((xushr a0 (16 : Int32)) - (xushr a0 (16 : Int32)) / (5 : Int32) * (5 : Int32))
  if x1 = 0 then (
    (xgR M (some this) 7 1).bind fun v2 =>
    (xob M v2 3).bind fun u3 =>
    (fD_endInterval M u3 ).bind fun q4 =>
    some ((0 : Int32), q4.2))
  else
  if (2 : Int32) < x1 then (
    (xgR M (some this) 7 1).bind fun v5 =>
    (xgI M v5 3 4).bind fun v6 =>
    if v6 ≤ 0 then (
      some ((0 : Int32), M))
    else
    (xgR M (some this) 7 1).bind fun v7 =>
    (xgR M (some this) 7 1).bind fun v8 =>
    (xgI M v8 3 4).bind fun v9 =>
    if v9 = 0 then none else
    (xob M v7 3).bind fun u10 =>
    (fD_takeBy M u10 ((xushr a0 (10 : Int32)) - (xushr a0 (10 : Int32)) / v9 * v9) ((xushr a0 (8 : Int32)) &&& (3 : Int32))).bind fun q11 =>
    if q11.1 = (-1 : Int32) then (
      some ((1 : Int32), q11.2))
    else
    (xgR q11.2 (some this) 7 4).bind fun v12 =>
    (xob q11.2 v12 4).bind fun u13 =>
    (fP_put q11.2 u13 q11.1).bind fun q14 =>
    some ((0 : Int32), q14))
  else
  (xgR M (some this) 7 4).bind fun v15 =>
  (xgI M v15 4 1).bind fun v16 =>
  if v16 ≤ 0 then (
    some ((0 : Int32), M))
  else
  (xgR M (some this) 7 1).bind fun v17 =>
  (xgR M (some this) 7 4).bind fun v18 =>
  (xob M v18 4).bind fun u19 =>
  (fP_takeLatest M u19 ).bind fun q20 =>
  (xob q20.2 v17 3).bind fun u21 =>
  (fD_giveBy q20.2 u21 q20.1 ((xushr a0 (8 : Int32)) &&& (3 : Int32))).bind fun q22 =>
  some ((0 : Int32), q22)
set_option maxRecDepth 20000 in
theorem TfX_drawAct {M M' : xMem} {r : Int32} (this : xId) (a0 : Int32) (h : fX_drawAct M this a0 = some (r, M')) : xrun none 5 103 0 ([some (.inr (.inr (some this))), some (.inl a0), none, none, none]) ([]) M (some (.inl r), M') := by
  unfold fX_drawAct at h
  refine xr_iload_n (pc' := 1) rfl rfl rfl ?_
  refine xr_bipush (v := 8) (pc' := 3) rfl (by decide) rfl ?_
  refine xr_iushr (pc' := 4) rfl rfl ?_
  refine xr_iconst (v := 3) (pc' := 5) rfl (by decide) rfl ?_
  refine xr_iand (pc' := 6) rfl rfl ?_
  refine xr_istore_n (pc' := 7) rfl rfl rfl ?_
  refine xr_iload_n (pc' := 8) rfl rfl rfl ?_
  refine xr_bipush (v := 16) (pc' := 10) rfl (by decide) rfl ?_
  refine xr_iushr (pc' := 11) rfl rfl ?_
  refine xr_iconst (v := 5) (pc' := 12) rfl (by decide) rfl ?_
  refine xr_irem (pc' := 13) rfl (by decide) rfl ?_
  refine xr_istore_n (pc' := 14) rfl rfl rfl ?_
  refine xr_iload_n (pc' := 15) rfl rfl rfl ?_
  rcases xite h with ⟨hc, h⟩ | ⟨hc, h⟩
  · refine xr_if_ne_f (pc' := 18) rfl hc rfl ?_
    refine xr_aload_n (pc' := 19) rfl rfl rfl ?_
    obtain ⟨v2, hv2, h⟩ := xbind h
    refine xr_getR (pc' := 22) rfl (by decide) hv2 rfl ?_
    obtain ⟨u3, hu3, h⟩ := xbind h
    obtain ⟨q4, hq4, h⟩ := xbind h
    refine xr_callV (pc' := 25) (C := 3) (As := []) (rest := _) rfl hu3 mC_67 mL_67 rfl (Nat.le_of_ble_eq_true rfl) rfl (Nat.le_of_ble_eq_true rfl) (TfD_endInterval _  hq4) rfl ?_
    refine xr_pop_i (pc' := 26) rfl rfl ?_
    refine xr_goto (t := 111) rfl ?_
    refine xr_iconst (v := 0) (pc' := 112) rfl (by decide) rfl ?_
    obtain ⟨rfl, rfl⟩ := xsome2 h
    exact xr_iret rfl mR_103
  · refine xr_if_ne_t (t := 29) rfl hc ?_
    refine xr_iload_n (pc' := 30) rfl rfl rfl ?_
    refine xr_iconst (v := 2) (pc' := 31) rfl (by decide) rfl ?_
    rcases xite h with ⟨hc, h⟩ | ⟨hc, h⟩
    · refine xr_icmp_gt_t (t := 62) rfl hc ?_
      refine xr_aload_n (pc' := 63) rfl rfl rfl ?_
      obtain ⟨v5, hv5, h⟩ := xbind h
      refine xr_getR (pc' := 66) rfl (by decide) hv5 rfl ?_
      obtain ⟨v6, hv6, h⟩ := xbind h
      refine xr_getI (pc' := 69) rfl (by decide) hv6 rfl ?_
      rcases xite h with ⟨hc, h⟩ | ⟨hc, h⟩
      · refine xr_if_le_t (t := 111) rfl hc ?_
        refine xr_iconst (v := 0) (pc' := 112) rfl (by decide) rfl ?_
        obtain ⟨rfl, rfl⟩ := xsome2 h
        exact xr_iret rfl mR_103
      · refine xr_if_le_f (pc' := 72) rfl hc rfl ?_
        refine xr_aload_n (pc' := 73) rfl rfl rfl ?_
        obtain ⟨v7, hv7, h⟩ := xbind h
        refine xr_getR (pc' := 76) rfl (by decide) hv7 rfl ?_
        refine xr_iload_n (pc' := 77) rfl rfl rfl ?_
        refine xr_bipush (v := 10) (pc' := 79) rfl (by decide) rfl ?_
        refine xr_iushr (pc' := 80) rfl rfl ?_
        refine xr_aload_n (pc' := 81) rfl rfl rfl ?_
        obtain ⟨v8, hv8, h⟩ := xbind h
        refine xr_getR (pc' := 84) rfl (by decide) hv8 rfl ?_
        obtain ⟨v9, hv9, h⟩ := xbind h
        refine xr_getI (pc' := 87) rfl (by decide) hv9 rfl ?_
        rcases xite h with ⟨hc, h⟩ | ⟨hc, h⟩
        · cases h
        refine xr_irem (pc' := 88) rfl hc rfl ?_
        refine xr_iload_n (pc' := 89) rfl rfl rfl ?_
        obtain ⟨u10, hu10, h⟩ := xbind h
        obtain ⟨q11, hq11, h⟩ := xbind h
        refine xr_callV (pc' := 92) (C := 3) (As := [_, _]) (rest := _) rfl hu10 mC_21 mL_21 rfl (Nat.le_of_ble_eq_true rfl) rfl (Nat.le_of_ble_eq_true rfl) (TfD_takeBy _ _ _ hq11) rfl ?_
        refine xr_istore (pc' := 94) rfl rfl rfl ?_
        refine xr_iload (pc' := 96) rfl rfl rfl ?_
        refine xr_iconst (v := -1) (pc' := 97) rfl (by decide) rfl ?_
        rcases xite h with ⟨hc, h⟩ | ⟨hc, h⟩
        · refine xr_icmp_ne_f (pc' := 100) rfl hc rfl ?_
          refine xr_iconst (v := 1) (pc' := 101) rfl (by decide) rfl ?_
          obtain ⟨rfl, rfl⟩ := xsome2 h
          exact xr_iret rfl mR_103
        · refine xr_icmp_ne_t (t := 102) rfl hc ?_
          refine xr_aload_n (pc' := 103) rfl rfl rfl ?_
          obtain ⟨v12, hv12, h⟩ := xbind h
          refine xr_getR (pc' := 106) rfl (by decide) hv12 rfl ?_
          refine xr_iload (pc' := 108) rfl rfl rfl ?_
          obtain ⟨u13, hu13, h⟩ := xbind h
          obtain ⟨q14, hq14, h⟩ := xbind h
          refine xr_callV (pc' := 111) (C := 4) (As := [_]) (rest := _) rfl hu13 mC_27 mL_27 rfl (Nat.le_of_ble_eq_true rfl) rfl (Nat.le_of_ble_eq_true rfl) (TfP_put _ _ hq14) rfl ?_
          refine xr_iconst (v := 0) (pc' := 112) rfl (by decide) rfl ?_
          obtain ⟨rfl, rfl⟩ := xsome2 h
          exact xr_iret rfl mR_103
    · refine xr_icmp_gt_f (pc' := 34) rfl hc rfl ?_
      refine xr_aload_n (pc' := 35) rfl rfl rfl ?_
      obtain ⟨v15, hv15, h⟩ := xbind h
      refine xr_getR (pc' := 38) rfl (by decide) hv15 rfl ?_
      obtain ⟨v16, hv16, h⟩ := xbind h
      refine xr_getI (pc' := 41) rfl (by decide) hv16 rfl ?_
      rcases xite h with ⟨hc, h⟩ | ⟨hc, h⟩
      · refine xr_if_le_t (t := 111) rfl hc ?_
        refine xr_iconst (v := 0) (pc' := 112) rfl (by decide) rfl ?_
        obtain ⟨rfl, rfl⟩ := xsome2 h
        exact xr_iret rfl mR_103
      · refine xr_if_le_f (pc' := 44) rfl hc rfl ?_
        refine xr_aload_n (pc' := 45) rfl rfl rfl ?_
        obtain ⟨v17, hv17, h⟩ := xbind h
        refine xr_getR (pc' := 48) rfl (by decide) hv17 rfl ?_
        refine xr_aload_n (pc' := 49) rfl rfl rfl ?_
        obtain ⟨v18, hv18, h⟩ := xbind h
        refine xr_getR (pc' := 52) rfl (by decide) hv18 rfl ?_
        obtain ⟨u19, hu19, h⟩ := xbind h
        obtain ⟨q20, hq20, h⟩ := xbind h
        refine xr_callV (pc' := 55) (C := 4) (As := []) (rest := _) rfl hu19 mC_29 mL_29 rfl (Nat.le_of_ble_eq_true rfl) rfl (Nat.le_of_ble_eq_true rfl) (TfP_takeLatest _  hq20) rfl ?_
        refine xr_iload_n (pc' := 56) rfl rfl rfl ?_
        obtain ⟨u21, hu21, h⟩ := xbind h
        obtain ⟨q22, hq22, h⟩ := xbind h
        refine xr_callV (pc' := 59) (C := 3) (As := [_, _]) (rest := _) rfl hu21 mC_51 mL_51 rfl (Nat.le_of_ble_eq_true rfl) rfl (Nat.le_of_ble_eq_true rfl) (TfD_giveBy _ _ _ hq22) rfl ?_
        refine xr_goto (t := 111) rfl ?_
        refine xr_iconst (v := 0) (pc' := 112) rfl (by decide) rfl ?_
        obtain ⟨rfl, rfl⟩ := xsome2 h
        exact xr_iret rfl mR_103
-- 102: MagazineDepot.drawn(III)I
def fX_drawn_50  : Nat → xMem → Option xId → Int32 → Int32 → Int32 → Int32 → Int32 → Option (Int32 × xMem)
  | 0, _, _, _, _, _, _, _ => none
  | n + 1, M, l0, l2, l3, l4, l5, l6 =>
    if l2 ≤ l6 then (
      if l3 = 0 then (
        (xgR M l0 7 1).bind fun v8 =>
        (xgI M v8 3 7).bind fun v9 =>
        (xgR M l0 7 0).bind fun v10 =>
        (xgI M v10 3 7).bind fun v11 =>
        some ((v9 - v11), M))
      else
      if l3 = 1 then (
        (xgR M l0 7 1).bind fun v12 =>
        (xgI M v12 3 5).bind fun v13 =>
        some (v13, M))
      else
      if l3 = 2 then (
        some (l4, M))
      else
      (xgR M l0 7 1).bind fun v14 =>
      (xgR M v14 3 0).bind fun v15 =>
      (xob M v15 0).bind fun u16 =>
      (fA_howMany M u16 (-1 : Int32) (1 : Int32)).bind fun q17 =>
      some (q17.1, q17.2))
    else
    (xob M l0 7).bind fun u18 =>
    (fX_drawAct M u18 ((l5 * (1103515245 : Int32)) + (12345 : Int32))).bind fun q19 =>
    fX_drawn_50  n q19.2 l0 l2 l3 (l4 + q19.1) ((l5 * (1103515245 : Int32)) + (12345 : Int32)) (l6 + 1)
set_option maxRecDepth 20000 in
theorem TfX_drawn_50 {M' : xMem} {r : Int32}  : ∀ (n : Nat) (M : xMem) (l0 : Option xId) (l2 : Int32) (l3 : Int32) (l4 : Int32) (l5 : Int32) (l6 : Int32) (o1 : Int32), fX_drawn_50  n M l0 l2 l3 l4 l5 l6 = some (r, M') → xrun none 6 102 50 ([some (.inr (.inr l0)), some (.inl o1), some (.inl l2), some (.inl l3), some (.inl l4), some (.inl l5), some (.inl l6)]) ([]) M (some (.inl r), M') := by
  intro n
  induction n with
  | zero => intro M l0 l2 l3 l4 l5 l6 o1 h; unfold fX_drawn_50 at h; cases h
  | succ n ih =>
    intro M l0 l2 l3 l4 l5 l6 o1 h
    unfold fX_drawn_50 at h
    refine xr_iload (pc' := 52) rfl rfl rfl ?_
    refine xr_iload_n (pc' := 53) rfl rfl rfl ?_
    rcases xite h with ⟨hc, h⟩ | ⟨hc, h⟩
    · refine xr_icmp_ge_t (t := 84) rfl hc ?_
      refine xr_iload_n (pc' := 85) rfl rfl rfl ?_
      rcases xite h with ⟨hc85_0, h⟩ | ⟨hc85_0, h⟩
      · refine xr_tsw_in (t := 112) rfl (by rw [hc85_0]; decide) (by rw [hc85_0]; rfl) (by decide) ?_
        refine xr_aload_n (pc' := 113) rfl rfl rfl ?_
        obtain ⟨v8, hv8, h⟩ := xbind h
        refine xr_getR (pc' := 116) rfl (by decide) hv8 rfl ?_
        obtain ⟨v9, hv9, h⟩ := xbind h
        refine xr_getI (pc' := 119) rfl (by decide) hv9 rfl ?_
        refine xr_aload_n (pc' := 120) rfl rfl rfl ?_
        obtain ⟨v10, hv10, h⟩ := xbind h
        refine xr_getR (pc' := 123) rfl (by decide) hv10 rfl ?_
        obtain ⟨v11, hv11, h⟩ := xbind h
        refine xr_getI (pc' := 126) rfl (by decide) hv11 rfl ?_
        refine xr_isub (pc' := 127) rfl rfl ?_
        obtain ⟨rfl, rfl⟩ := xsome2 h
        exact xr_iret rfl mR_102
      rcases xite h with ⟨hc85_1, h⟩ | ⟨hc85_1, h⟩
      · refine xr_tsw_in (t := 128) rfl (by rw [hc85_1]; decide) (by rw [hc85_1]; rfl) (by decide) ?_
        refine xr_aload_n (pc' := 129) rfl rfl rfl ?_
        obtain ⟨v12, hv12, h⟩ := xbind h
        refine xr_getR (pc' := 132) rfl (by decide) hv12 rfl ?_
        obtain ⟨v13, hv13, h⟩ := xbind h
        refine xr_getI (pc' := 135) rfl (by decide) hv13 rfl ?_
        obtain ⟨rfl, rfl⟩ := xsome2 h
        exact xr_iret rfl mR_102
      rcases xite h with ⟨hc85_2, h⟩ | ⟨hc85_2, h⟩
      · refine xr_tsw_in (t := 136) rfl (by rw [hc85_2]; decide) (by rw [hc85_2]; rfl) (by decide) ?_
        refine xr_iload (pc' := 138) rfl rfl rfl ?_
        obtain ⟨rfl, rfl⟩ := xsome2 h
        exact xr_iret rfl mR_102
      have hc85_0 := lv_neT hc85_0 (by decide : (0 : Int32).toInt = 0)
      have hc85_1 := lv_neT hc85_1 (by decide : (1 : Int32).toInt = 1)
      have hc85_2 := lv_neT hc85_2 (by decide : (2 : Int32).toInt = 2)
      refine xr_tsw_out (t := 139) rfl (by omega) (by decide) ?_
      refine xr_aload_n (pc' := 140) rfl rfl rfl ?_
      obtain ⟨v14, hv14, h⟩ := xbind h
      refine xr_getR (pc' := 143) rfl (by decide) hv14 rfl ?_
      obtain ⟨v15, hv15, h⟩ := xbind h
      refine xr_getR (pc' := 146) rfl (by decide) hv15 rfl ?_
      refine xr_iconst (v := -1) (pc' := 147) rfl (by decide) rfl ?_
      refine xr_iconst (v := 1) (pc' := 148) rfl (by decide) rfl ?_
      obtain ⟨u16, hu16, h⟩ := xbind h
      obtain ⟨q17, hq17, h⟩ := xbind h
      refine xr_callV (pc' := 151) (C := 0) (As := [_, _]) (rest := _) rfl hu16 mC_58 mL_58 rfl (Nat.le_of_ble_eq_true rfl) rfl (Nat.le_of_ble_eq_true rfl) (TfA_howMany _ _ _ hq17) rfl ?_
      obtain ⟨rfl, rfl⟩ := xsome2 h
      exact xr_iret rfl mR_102
    · refine xr_icmp_ge_f (pc' := 56) rfl hc rfl ?_
      refine xr_iload (pc' := 58) rfl rfl rfl ?_
      refine xr_ldc (v := 1103515245) (pc' := 60) rfl (by decide) rfl ?_
      refine xr_imul (pc' := 61) rfl rfl ?_
      refine xr_sipush (v := 12345) (pc' := 64) rfl (by decide) rfl ?_
      refine xr_iadd (pc' := 65) rfl rfl ?_
      refine xr_istore (pc' := 67) rfl rfl rfl ?_
      refine xr_iload (pc' := 69) rfl rfl rfl ?_
      refine xr_aload_n (pc' := 70) rfl rfl rfl ?_
      refine xr_iload (pc' := 72) rfl rfl rfl ?_
      obtain ⟨u18, hu18, h⟩ := xbind h
      obtain ⟨q19, hq19, h⟩ := xbind h
      refine xr_callV (pc' := 75) (C := 7) (As := [_]) (rest := _) rfl hu18 mC_103 mL_103 rfl (Nat.le_of_ble_eq_true rfl) rfl (Nat.le_of_ble_eq_true rfl) (TfX_drawAct _ _ hq19) rfl ?_
      refine xr_iadd (pc' := 76) rfl rfl ?_
      refine xr_istore (pc' := 78) rfl rfl rfl ?_
      refine xr_iinc (c := 1) (pc' := 81) rfl (by decide) rfl rfl rfl ?_
      refine xr_goto (t := 50) rfl ?_
      exact ih q19.2 _ _ _ _ _ _ _ h
def fX_drawn (M : xMem) (this : xId) (a0 : Int32) (a1 : Int32) (a2 : Int32) : Option (Int32 × xMem) :=
  if a1 < (1 : Int32) then (
    some ((-1 : Int32), M))
  else
  if (400 : Int32) < a1 then (
    some ((-1 : Int32), M))
  else
  if a2 < 0 then (
    some ((-1 : Int32), M))
  else
  if a2 ≤ (3 : Int32) then (
    (xgR M (some this) 7 1).bind fun v1 =>
    (xgR M (some this) 7 0).bind fun v2 =>
    (xob M v1 3).bind fun u3 =>
    (fD_copyFrom M u3 v2).bind fun q4 =>
    (xgR q4 (some this) 7 4).bind fun v5 =>
    (xob q4 v5 4).bind fun u6 =>
    (fP_clear q4 u6 ).bind fun q7 =>
    fX_drawn_50  xF q7 (some this) a1 a2 (0 : Int32) a0 (0 : Int32))
  else
  some ((-1 : Int32), M)
set_option maxRecDepth 20000 in
theorem TfX_drawn {M M' : xMem} {r : Int32} (this : xId) (a0 : Int32) (a1 : Int32) (a2 : Int32) (h : fX_drawn M this a0 a1 a2 = some (r, M')) : xrun none 6 102 0 ([some (.inr (.inr (some this))), some (.inl a0), some (.inl a1), some (.inl a2), none, none, none]) ([]) M (some (.inl r), M') := by
  unfold fX_drawn at h
  refine xr_iload_n (pc' := 1) rfl rfl rfl ?_
  refine xr_iconst (v := 1) (pc' := 2) rfl (by decide) rfl ?_
  rcases xite h with ⟨hc, h⟩ | ⟨hc, h⟩
  · refine xr_icmp_lt_t (t := 21) rfl hc ?_
    refine xr_iconst (v := -1) (pc' := 22) rfl (by decide) rfl ?_
    obtain ⟨rfl, rfl⟩ := xsome2 h
    exact xr_iret rfl mR_102
  · refine xr_icmp_lt_f (pc' := 5) rfl hc rfl ?_
    refine xr_iload_n (pc' := 6) rfl rfl rfl ?_
    refine xr_sipush (v := 400) (pc' := 9) rfl (by decide) rfl ?_
    rcases xite h with ⟨hc, h⟩ | ⟨hc, h⟩
    · refine xr_icmp_gt_t (t := 21) rfl hc ?_
      refine xr_iconst (v := -1) (pc' := 22) rfl (by decide) rfl ?_
      obtain ⟨rfl, rfl⟩ := xsome2 h
      exact xr_iret rfl mR_102
    · refine xr_icmp_gt_f (pc' := 12) rfl hc rfl ?_
      refine xr_iload_n (pc' := 13) rfl rfl rfl ?_
      rcases xite h with ⟨hc, h⟩ | ⟨hc, h⟩
      · refine xr_if_lt_t (t := 21) rfl hc ?_
        refine xr_iconst (v := -1) (pc' := 22) rfl (by decide) rfl ?_
        obtain ⟨rfl, rfl⟩ := xsome2 h
        exact xr_iret rfl mR_102
      · refine xr_if_lt_f (pc' := 16) rfl hc rfl ?_
        refine xr_iload_n (pc' := 17) rfl rfl rfl ?_
        refine xr_iconst (v := 3) (pc' := 18) rfl (by decide) rfl ?_
        rcases xite h with ⟨hc, h⟩ | ⟨hc, h⟩
        · refine xr_icmp_le_t (t := 23) rfl hc ?_
          refine xr_aload_n (pc' := 24) rfl rfl rfl ?_
          obtain ⟨v1, hv1, h⟩ := xbind h
          refine xr_getR (pc' := 27) rfl (by decide) hv1 rfl ?_
          refine xr_aload_n (pc' := 28) rfl rfl rfl ?_
          obtain ⟨v2, hv2, h⟩ := xbind h
          refine xr_getR (pc' := 31) rfl (by decide) hv2 rfl ?_
          obtain ⟨u3, hu3, h⟩ := xbind h
          obtain ⟨q4, hq4, h⟩ := xbind h
          refine xr_callV (pc' := 34) (C := 3) (As := [_]) (rest := _) rfl hu3 mC_97 mL_97 rfl (Nat.le_of_ble_eq_true rfl) rfl (Nat.le_of_ble_eq_true rfl) (TfD_copyFrom _ _ hq4) rfl ?_
          refine xr_aload_n (pc' := 35) rfl rfl rfl ?_
          obtain ⟨v5, hv5, h⟩ := xbind h
          refine xr_getR (pc' := 38) rfl (by decide) hv5 rfl ?_
          obtain ⟨u6, hu6, h⟩ := xbind h
          obtain ⟨q7, hq7, h⟩ := xbind h
          refine xr_callV (pc' := 41) (C := 4) (As := []) (rest := _) rfl hu6 mC_15 mL_15 rfl (Nat.le_of_ble_eq_true rfl) rfl (Nat.le_of_ble_eq_true rfl) (TfP_clear _  hq7) rfl ?_
          refine xr_iconst (v := 0) (pc' := 42) rfl (by decide) rfl ?_
          refine xr_istore (pc' := 44) rfl rfl rfl ?_
          refine xr_iload_n (pc' := 45) rfl rfl rfl ?_
          refine xr_istore (pc' := 47) rfl rfl rfl ?_
          refine xr_iconst (v := 0) (pc' := 48) rfl (by decide) rfl ?_
          refine xr_istore (pc' := 50) rfl rfl rfl ?_
          exact TfX_drawn_50   xF q7 _ _ _ _ _ _ _ h
        · refine xr_icmp_le_f (pc' := 21) rfl hc rfl ?_
          refine xr_iconst (v := -1) (pc' := 22) rfl (by decide) rfl ?_
          obtain ⟨rfl, rfl⟩ := xsome2 h
          exact xr_iret rfl mR_102
-- 104: MagazineDepot.feed(I)I
def fX_feed (M : xMem) (this : xId) (a0 : Int32) : Option (Int32 × xMem) :=
  if a0 < 0 then (
    some ((-1 : Int32), M))
  else
  if a0 ≤ (255 : Int32) then (
    (xgI M (some this) 7 6).bind fun v1 =>
    if v1 < (100 : Int32) then (
      (xgR M (some this) 7 5).bind fun v2 =>
      (xgI M (some this) 7 6).bind fun v3 =>
      (xuI M v2 v3 a0).bind fun M4 =>
      (xgI M4 (some this) 7 6).bind fun v5 =>
      (xpI M4 (some this) 7 6 (v5 + (1 : Int32))).bind fun M6 =>
      (xgI M6 (some this) 7 6).bind fun v7 =>
      some (v7, M6))
    else
    some ((-3 : Int32), M))
  else
  some ((-1 : Int32), M)
set_option maxRecDepth 20000 in
theorem TfX_feed {M M' : xMem} {r : Int32} (this : xId) (a0 : Int32) (h : fX_feed M this a0 = some (r, M')) : xrun none 0 104 0 ([some (.inr (.inr (some this))), some (.inl a0)]) ([]) M (some (.inl r), M') := by
  unfold fX_feed at h
  refine xr_iload_n (pc' := 1) rfl rfl rfl ?_
  rcases xite h with ⟨hc, h⟩ | ⟨hc, h⟩
  · refine xr_if_lt_t (t := 11) rfl hc ?_
    refine xr_iconst (v := -1) (pc' := 12) rfl (by decide) rfl ?_
    obtain ⟨rfl, rfl⟩ := xsome2 h
    exact xr_iret rfl mR_104
  · refine xr_if_lt_f (pc' := 4) rfl hc rfl ?_
    refine xr_iload_n (pc' := 5) rfl rfl rfl ?_
    refine xr_sipush (v := 255) (pc' := 8) rfl (by decide) rfl ?_
    rcases xite h with ⟨hc, h⟩ | ⟨hc, h⟩
    · refine xr_icmp_le_t (t := 13) rfl hc ?_
      refine xr_aload_n (pc' := 14) rfl rfl rfl ?_
      obtain ⟨v1, hv1, h⟩ := xbind h
      refine xr_getI (pc' := 17) rfl (by decide) hv1 rfl ?_
      refine xr_bipush (v := 100) (pc' := 19) rfl (by decide) rfl ?_
      rcases xite h with ⟨hc, h⟩ | ⟨hc, h⟩
      · refine xr_icmp_lt_t (t := 25) rfl hc ?_
        refine xr_aload_n (pc' := 26) rfl rfl rfl ?_
        obtain ⟨v2, hv2, h⟩ := xbind h
        refine xr_getR (pc' := 29) rfl (by decide) hv2 rfl ?_
        refine xr_aload_n (pc' := 30) rfl rfl rfl ?_
        obtain ⟨v3, hv3, h⟩ := xbind h
        refine xr_getI (pc' := 33) rfl (by decide) hv3 rfl ?_
        refine xr_iload_n (pc' := 34) rfl rfl rfl ?_
        obtain ⟨M4, hM4, h⟩ := xbind h
        refine xr_uI (pc' := 35) rfl hM4 rfl ?_
        refine xr_aload_n (pc' := 36) rfl rfl rfl ?_
        refine xr_dup_a (pc' := 37) rfl rfl ?_
        obtain ⟨v5, hv5, h⟩ := xbind h
        refine xr_getI (pc' := 40) rfl (by decide) hv5 rfl ?_
        refine xr_iconst (v := 1) (pc' := 41) rfl (by decide) rfl ?_
        refine xr_iadd (pc' := 42) rfl rfl ?_
        obtain ⟨M6, hM6, h⟩ := xbind h
        refine xr_putI (pc' := 45) rfl (by decide) hM6 rfl ?_
        refine xr_aload_n (pc' := 46) rfl rfl rfl ?_
        obtain ⟨v7, hv7, h⟩ := xbind h
        refine xr_getI (pc' := 49) rfl (by decide) hv7 rfl ?_
        obtain ⟨rfl, rfl⟩ := xsome2 h
        exact xr_iret rfl mR_104
      · refine xr_icmp_lt_f (pc' := 22) rfl hc rfl ?_
        refine xr_bipush (v := -3) (pc' := 24) rfl (by decide) rfl ?_
        obtain ⟨rfl, rfl⟩ := xsome2 h
        exact xr_iret rfl mR_104
    · refine xr_icmp_le_f (pc' := 11) rfl hc rfl ?_
      refine xr_iconst (v := -1) (pc' := 12) rfl (by decide) rfl ?_
      obtain ⟨rfl, rfl⟩ := xsome2 h
      exact xr_iret rfl mR_104
-- 108: MagazineDepot$Trace.letter()I
def fT_letter (M : xMem) (this : xId) : Option (Int32 × xMem) :=
  (xgI M (some this) 6 10).bind fun v1 =>
  (xgI M (some this) 6 9).bind fun v2 =>
  if v2 ≤ v1 then (
    some ((-1 : Int32), M))
  else
  (xgI M (some this) 6 10).bind fun v3 =>
  (xgR M (some this) 6 8).bind fun v4 =>
  (xal M v4).bind fun v5 =>
  if v5 ≤ v3 then (
    some ((-1 : Int32), M))
  else
  (xgR M (some this) 6 8).bind fun v6 =>
  (xgI M (some this) 6 10).bind fun v7 =>
  (xaI M v6 v7).bind fun v8 =>
  some (v8, M)
set_option maxRecDepth 20000 in
theorem TfT_letter {M M' : xMem} {r : Int32} (this : xId) (h : fT_letter M this = some (r, M')) : xrun none 0 108 0 ([some (.inr (.inr (some this)))]) ([]) M (some (.inl r), M') := by
  unfold fT_letter at h
  refine xr_aload_n (pc' := 1) rfl rfl rfl ?_
  obtain ⟨v1, hv1, h⟩ := xbind h
  refine xr_getI (pc' := 4) rfl (by decide) hv1 rfl ?_
  refine xr_aload_n (pc' := 5) rfl rfl rfl ?_
  obtain ⟨v2, hv2, h⟩ := xbind h
  refine xr_getI (pc' := 8) rfl (by decide) hv2 rfl ?_
  rcases xite h with ⟨hc, h⟩ | ⟨hc, h⟩
  · refine xr_icmp_ge_t (t := 35) rfl hc ?_
    refine xr_iconst (v := -1) (pc' := 36) rfl (by decide) rfl ?_
    obtain ⟨rfl, rfl⟩ := xsome2 h
    exact xr_iret rfl mR_108
  · refine xr_icmp_ge_f (pc' := 11) rfl hc rfl ?_
    refine xr_aload_n (pc' := 12) rfl rfl rfl ?_
    obtain ⟨v3, hv3, h⟩ := xbind h
    refine xr_getI (pc' := 15) rfl (by decide) hv3 rfl ?_
    refine xr_aload_n (pc' := 16) rfl rfl rfl ?_
    obtain ⟨v4, hv4, h⟩ := xbind h
    refine xr_getR (pc' := 19) rfl (by decide) hv4 rfl ?_
    obtain ⟨v5, hv5, h⟩ := xbind h
    refine xr_alen (pc' := 20) rfl hv5 rfl ?_
    rcases xite h with ⟨hc, h⟩ | ⟨hc, h⟩
    · refine xr_icmp_ge_t (t := 35) rfl hc ?_
      refine xr_iconst (v := -1) (pc' := 36) rfl (by decide) rfl ?_
      obtain ⟨rfl, rfl⟩ := xsome2 h
      exact xr_iret rfl mR_108
    · refine xr_icmp_ge_f (pc' := 23) rfl hc rfl ?_
      refine xr_aload_n (pc' := 24) rfl rfl rfl ?_
      obtain ⟨v6, hv6, h⟩ := xbind h
      refine xr_getR (pc' := 27) rfl (by decide) hv6 rfl ?_
      refine xr_aload_n (pc' := 28) rfl rfl rfl ?_
      obtain ⟨v7, hv7, h⟩ := xbind h
      refine xr_getI (pc' := 31) rfl (by decide) hv7 rfl ?_
      obtain ⟨v8, hv8, h⟩ := xbind h
      refine xr_aI (pc' := 32) rfl hv8 rfl ?_
      refine xr_goto (t := 36) rfl ?_
      obtain ⟨rfl, rfl⟩ := xsome2 h
      exact xr_iret rfl mR_108
-- 109: MagazineDepot$Trace.addRow(I)Z
def fT_addRow (M : xMem) (this : xId) (a0 : Int32) : Option (Int32 × xMem) :=
  (xgI M (some this) 6 6).bind fun v1 =>
  (xgR M (some this) 6 0).bind fun v2 =>
  (xal M v2).bind fun v3 =>
  if v1 < v3 then (
    (xgR M (some this) 6 0).bind fun v4 =>
    (xgI M (some this) 6 6).bind fun v5 =>
    (xuI M v4 v5 a0).bind fun M6 =>
    (xgI M6 (some this) 6 6).bind fun v7 =>
    (xpI M6 (some this) 6 6 (v7 + (1 : Int32))).bind fun M8 =>
    some ((1 : Int32), M8))
  else
  some ((0 : Int32), M)
set_option maxRecDepth 20000 in
theorem TfT_addRow {M M' : xMem} {r : Int32} (this : xId) (a0 : Int32) (h : fT_addRow M this a0 = some (r, M')) : xrun none 0 109 0 ([some (.inr (.inr (some this))), some (.inl a0)]) ([]) M (some (.inl r), M') := by
  unfold fT_addRow at h
  refine xr_aload_n (pc' := 1) rfl rfl rfl ?_
  obtain ⟨v1, hv1, h⟩ := xbind h
  refine xr_getI (pc' := 4) rfl (by decide) hv1 rfl ?_
  refine xr_aload_n (pc' := 5) rfl rfl rfl ?_
  obtain ⟨v2, hv2, h⟩ := xbind h
  refine xr_getR (pc' := 8) rfl (by decide) hv2 rfl ?_
  obtain ⟨v3, hv3, h⟩ := xbind h
  refine xr_alen (pc' := 9) rfl hv3 rfl ?_
  rcases xite h with ⟨hc, h⟩ | ⟨hc, h⟩
  · refine xr_icmp_lt_t (t := 14) rfl hc ?_
    refine xr_aload_n (pc' := 15) rfl rfl rfl ?_
    obtain ⟨v4, hv4, h⟩ := xbind h
    refine xr_getR (pc' := 18) rfl (by decide) hv4 rfl ?_
    refine xr_aload_n (pc' := 19) rfl rfl rfl ?_
    obtain ⟨v5, hv5, h⟩ := xbind h
    refine xr_getI (pc' := 22) rfl (by decide) hv5 rfl ?_
    refine xr_iload_n (pc' := 23) rfl rfl rfl ?_
    obtain ⟨M6, hM6, h⟩ := xbind h
    refine xr_uI (pc' := 24) rfl hM6 rfl ?_
    refine xr_aload_n (pc' := 25) rfl rfl rfl ?_
    refine xr_dup_a (pc' := 26) rfl rfl ?_
    obtain ⟨v7, hv7, h⟩ := xbind h
    refine xr_getI (pc' := 29) rfl (by decide) hv7 rfl ?_
    refine xr_iconst (v := 1) (pc' := 30) rfl (by decide) rfl ?_
    refine xr_iadd (pc' := 31) rfl rfl ?_
    obtain ⟨M8, hM8, h⟩ := xbind h
    refine xr_putI (pc' := 34) rfl (by decide) hM8 rfl ?_
    refine xr_iconst (v := 1) (pc' := 35) rfl (by decide) rfl ?_
    obtain ⟨rfl, rfl⟩ := xsome2 h
    exact xr_zret rfl mR_109 (by decide)
  · refine xr_icmp_lt_f (pc' := 12) rfl hc rfl ?_
    refine xr_iconst (v := 0) (pc' := 13) rfl (by decide) rfl ?_
    obtain ⟨rfl, rfl⟩ := xsome2 h
    exact xr_zret rfl mR_109 (by decide)
-- 111: MagazineDepot$Trace.readOneOf(CC)I
def fT_readOneOf (M : xMem) (this : xId) (a0 : Int32) (a1 : Int32) : Option (Int32 × xMem) :=
  (xob M (some this) 6).bind fun u1 =>
  (fT_letter M u1 ).bind fun q2 =>
  if q2.1 < a0 then (
    some ((-1 : Int32), q2.2))
  else
  if q2.1 ≤ a1 then (
    (xgI q2.2 (some this) 6 10).bind fun v3 =>
    (xpI q2.2 (some this) 6 10 (v3 + (1 : Int32))).bind fun M4 =>
    some ((q2.1 - a0), M4))
  else
  some ((-1 : Int32), q2.2)
set_option maxRecDepth 20000 in
theorem TfT_readOneOf {M M' : xMem} {r : Int32} (this : xId) (a0 : Int32) (a1 : Int32) (h : fT_readOneOf M this a0 a1 = some (r, M')) : xrun none 1 111 0 ([some (.inr (.inr (some this))), some (.inl a0), some (.inl a1), none]) ([]) M (some (.inl r), M') := by
  unfold fT_readOneOf at h
  refine xr_aload_n (pc' := 1) rfl rfl rfl ?_
  obtain ⟨u1, hu1, h⟩ := xbind h
  obtain ⟨q2, hq2, h⟩ := xbind h
  refine xr_callV (pc' := 4) (C := 6) (As := []) (rest := _) rfl hu1 mC_108 mL_108 rfl (Nat.le_of_ble_eq_true rfl) rfl (Nat.le_of_ble_eq_true rfl) (TfT_letter _  hq2) rfl ?_
  refine xr_istore_n (pc' := 5) rfl rfl rfl ?_
  refine xr_iload_n (pc' := 6) rfl rfl rfl ?_
  refine xr_iload_n (pc' := 7) rfl rfl rfl ?_
  rcases xite h with ⟨hc, h⟩ | ⟨hc, h⟩
  · refine xr_icmp_lt_t (t := 15) rfl hc ?_
    refine xr_iconst (v := -1) (pc' := 16) rfl (by decide) rfl ?_
    obtain ⟨rfl, rfl⟩ := xsome2 h
    exact xr_iret rfl mR_111
  · refine xr_icmp_lt_f (pc' := 10) rfl hc rfl ?_
    refine xr_iload_n (pc' := 11) rfl rfl rfl ?_
    refine xr_iload_n (pc' := 12) rfl rfl rfl ?_
    rcases xite h with ⟨hc, h⟩ | ⟨hc, h⟩
    · refine xr_icmp_le_t (t := 17) rfl hc ?_
      refine xr_aload_n (pc' := 18) rfl rfl rfl ?_
      refine xr_dup_a (pc' := 19) rfl rfl ?_
      obtain ⟨v3, hv3, h⟩ := xbind h
      refine xr_getI (pc' := 22) rfl (by decide) hv3 rfl ?_
      refine xr_iconst (v := 1) (pc' := 23) rfl (by decide) rfl ?_
      refine xr_iadd (pc' := 24) rfl rfl ?_
      obtain ⟨M4, hM4, h⟩ := xbind h
      refine xr_putI (pc' := 27) rfl (by decide) hM4 rfl ?_
      refine xr_iload_n (pc' := 28) rfl rfl rfl ?_
      refine xr_iload_n (pc' := 29) rfl rfl rfl ?_
      refine xr_isub (pc' := 30) rfl rfl ?_
      obtain ⟨rfl, rfl⟩ := xsome2 h
      exact xr_iret rfl mR_111
    · refine xr_icmp_le_f (pc' := 15) rfl hc rfl ?_
      refine xr_iconst (v := -1) (pc' := 16) rfl (by decide) rfl ?_
      obtain ⟨rfl, rfl⟩ := xsome2 h
      exact xr_iret rfl mR_111
-- 112: MagazineDepot$Trace.setInRow([II)V
def fT_setInRow (M : xMem) (this : xId) (a0 : Option xId) (a1 : Int32) : Option xMem :=
  (xgI M (some this) 6 6).bind fun v1 =>
  if v1 ≤ 0 then (
    some M)
  else
  (xgI M (some this) 6 6).bind fun v2 =>
  (xal M a0).bind fun v3 =>
  if v3 < v2 then (
    some M)
  else
  (xgI M (some this) 6 6).bind fun v4 =>
  (xuI M a0 (v4 - (1 : Int32)) a1).bind fun M5 =>
  some M5
set_option maxRecDepth 20000 in
theorem TfT_setInRow {M M' : xMem} (this : xId) (a0 : Option xId) (a1 : Int32) (h : fT_setInRow M this a0 a1 = some M') : xrun none 0 112 0 ([some (.inr (.inr (some this))), some (.inr (.inr a0)), some (.inl a1)]) ([]) M (none, M') := by
  unfold fT_setInRow at h
  refine xr_aload_n (pc' := 1) rfl rfl rfl ?_
  obtain ⟨v1, hv1, h⟩ := xbind h
  refine xr_getI (pc' := 4) rfl (by decide) hv1 rfl ?_
  rcases xite h with ⟨hc, h⟩ | ⟨hc, h⟩
  · refine xr_if_le_t (t := 25) rfl hc ?_
    obtain rfl := xsome1 h
    exact xr_ret rfl mR_112
  · refine xr_if_le_f (pc' := 7) rfl hc rfl ?_
    refine xr_aload_n (pc' := 8) rfl rfl rfl ?_
    obtain ⟨v2, hv2, h⟩ := xbind h
    refine xr_getI (pc' := 11) rfl (by decide) hv2 rfl ?_
    refine xr_aload_n (pc' := 12) rfl rfl rfl ?_
    obtain ⟨v3, hv3, h⟩ := xbind h
    refine xr_alen (pc' := 13) rfl hv3 rfl ?_
    rcases xite h with ⟨hc, h⟩ | ⟨hc, h⟩
    · refine xr_icmp_gt_t (t := 25) rfl hc ?_
      obtain rfl := xsome1 h
      exact xr_ret rfl mR_112
    · refine xr_icmp_gt_f (pc' := 16) rfl hc rfl ?_
      refine xr_aload_n (pc' := 17) rfl rfl rfl ?_
      refine xr_aload_n (pc' := 18) rfl rfl rfl ?_
      obtain ⟨v4, hv4, h⟩ := xbind h
      refine xr_getI (pc' := 21) rfl (by decide) hv4 rfl ?_
      refine xr_iconst (v := 1) (pc' := 22) rfl (by decide) rfl ?_
      refine xr_isub (pc' := 23) rfl rfl ?_
      refine xr_iload_n (pc' := 24) rfl rfl rfl ?_
      obtain ⟨M5, hM5, h⟩ := xbind h
      refine xr_uI (pc' := 25) rfl hM5 rfl ?_
      obtain rfl := xsome1 h
      exact xr_ret rfl mR_112
-- 113: MagazineDepot$Trace.readSign(C)Z
def fT_readSign (M : xMem) (this : xId) (a0 : Int32) : Option (Int32 × xMem) :=
  (xob M (some this) 6).bind fun u1 =>
  (fT_letter M u1 ).bind fun q2 =>
  if q2.1 = a0 then (
    (xgI q2.2 (some this) 6 10).bind fun v3 =>
    (xpI q2.2 (some this) 6 10 (v3 + (1 : Int32))).bind fun M4 =>
    some ((1 : Int32), M4))
  else
  some ((0 : Int32), q2.2)
set_option maxRecDepth 20000 in
theorem TfT_readSign {M M' : xMem} {r : Int32} (this : xId) (a0 : Int32) (h : fT_readSign M this a0 = some (r, M')) : xrun none 1 113 0 ([some (.inr (.inr (some this))), some (.inl a0)]) ([]) M (some (.inl r), M') := by
  unfold fT_readSign at h
  refine xr_aload_n (pc' := 1) rfl rfl rfl ?_
  obtain ⟨u1, hu1, h⟩ := xbind h
  obtain ⟨q2, hq2, h⟩ := xbind h
  refine xr_callV (pc' := 4) (C := 6) (As := []) (rest := _) rfl hu1 mC_108 mL_108 rfl (Nat.le_of_ble_eq_true rfl) rfl (Nat.le_of_ble_eq_true rfl) (TfT_letter _  hq2) rfl ?_
  refine xr_iload_n (pc' := 5) rfl rfl rfl ?_
  rcases xite h with ⟨hc, h⟩ | ⟨hc, h⟩
  · refine xr_icmp_eq_t (t := 10) rfl hc ?_
    refine xr_aload_n (pc' := 11) rfl rfl rfl ?_
    refine xr_dup_a (pc' := 12) rfl rfl ?_
    obtain ⟨v3, hv3, h⟩ := xbind h
    refine xr_getI (pc' := 15) rfl (by decide) hv3 rfl ?_
    refine xr_iconst (v := 1) (pc' := 16) rfl (by decide) rfl ?_
    refine xr_iadd (pc' := 17) rfl rfl ?_
    obtain ⟨M4, hM4, h⟩ := xbind h
    refine xr_putI (pc' := 20) rfl (by decide) hM4 rfl ?_
    refine xr_iconst (v := 1) (pc' := 21) rfl (by decide) rfl ?_
    obtain ⟨rfl, rfl⟩ := xsome2 h
    exact xr_zret rfl mR_113 (by decide)
  · refine xr_icmp_eq_f (pc' := 8) rfl hc rfl ?_
    refine xr_iconst (v := 0) (pc' := 9) rfl (by decide) rfl ?_
    obtain ⟨rfl, rfl⟩ := xsome2 h
    exact xr_zret rfl mR_113 (by decide)
-- 114: MagazineDepot$Trace.readInto([I)Z
def fT_readInto (M : xMem) (this : xId) (a0 : Option xId) : Option (Int32 × xMem) :=
  (xob M (some this) 6).bind fun u1 =>
  (fT_readOneOf M u1 (48 : Int32) (51 : Int32)).bind fun q2 =>
  (xob q2.2 (some this) 6).bind fun u3 =>
  (fT_setInRow q2.2 u3 a0 q2.1).bind fun q4 =>
  if q2.1 = (-1 : Int32) then (
    some ((0 : Int32), q4))
  else
  some ((1 : Int32), q4)
set_option maxRecDepth 20000 in
theorem TfT_readInto {M M' : xMem} {r : Int32} (this : xId) (a0 : Option xId) (h : fT_readInto M this a0 = some (r, M')) : xrun none 2 114 0 ([some (.inr (.inr (some this))), some (.inr (.inr a0)), none]) ([]) M (some (.inl r), M') := by
  unfold fT_readInto at h
  refine xr_aload_n (pc' := 1) rfl rfl rfl ?_
  refine xr_bipush (v := 48) (pc' := 3) rfl (by decide) rfl ?_
  refine xr_bipush (v := 51) (pc' := 5) rfl (by decide) rfl ?_
  obtain ⟨u1, hu1, h⟩ := xbind h
  obtain ⟨q2, hq2, h⟩ := xbind h
  refine xr_callV (pc' := 8) (C := 6) (As := [_, _]) (rest := _) rfl hu1 mC_111 mL_111 rfl (Nat.le_of_ble_eq_true rfl) rfl (Nat.le_of_ble_eq_true rfl) (TfT_readOneOf _ _ _ hq2) rfl ?_
  refine xr_istore_n (pc' := 9) rfl rfl rfl ?_
  refine xr_aload_n (pc' := 10) rfl rfl rfl ?_
  refine xr_aload_n (pc' := 11) rfl rfl rfl ?_
  refine xr_iload_n (pc' := 12) rfl rfl rfl ?_
  obtain ⟨u3, hu3, h⟩ := xbind h
  obtain ⟨q4, hq4, h⟩ := xbind h
  refine xr_callV (pc' := 15) (C := 6) (As := [_, _]) (rest := _) rfl hu3 mC_112 mL_112 rfl (Nat.le_of_ble_eq_true rfl) rfl (Nat.le_of_ble_eq_true rfl) (TfT_setInRow _ _ _ hq4) rfl ?_
  refine xr_iload_n (pc' := 16) rfl rfl rfl ?_
  refine xr_iconst (v := -1) (pc' := 17) rfl (by decide) rfl ?_
  rcases xite h with ⟨hc, h⟩ | ⟨hc, h⟩
  · refine xr_icmp_eq_t (t := 24) rfl hc ?_
    refine xr_iconst (v := 0) (pc' := 25) rfl (by decide) rfl ?_
    obtain ⟨rfl, rfl⟩ := xsome2 h
    exact xr_zret rfl mR_114 (by decide)
  · refine xr_icmp_eq_f (pc' := 20) rfl hc rfl ?_
    refine xr_iconst (v := 1) (pc' := 21) rfl (by decide) rfl ?_
    refine xr_goto (t := 25) rfl ?_
    obtain ⟨rfl, rfl⟩ := xsome2 h
    exact xr_zret rfl mR_114 (by decide)
-- 110: MagazineDepot$Trace.readGive()Z
def fT_readGive (M : xMem) (this : xId) : Option (Int32 × xMem) :=
  (xob M (some this) 6).bind fun u1 =>
  (fT_readOneOf M u1 (97 : Int32) (122 : Int32)).bind fun q2 =>
  if q2.1 = (-1 : Int32) then (
    some ((0 : Int32), q2.2))
  else
  (xob q2.2 (some this) 6).bind fun u3 =>
  (fT_addRow q2.2 u3 (1 : Int32)).bind fun q4 =>
  (xgR q4.2 (some this) 6 1).bind fun v5 =>
  (xob q4.2 (some this) 6).bind fun u6 =>
  (fT_setInRow q4.2 u6 v5 q2.1).bind fun q7 =>
  (xob q7 (some this) 6).bind fun u8 =>
  (fT_readSign q7 u8 (64 : Int32)).bind fun q9 =>
  if q9.1 = 0 then (
    some ((0 : Int32), q9.2))
  else
  (xgR q9.2 (some this) 6 3).bind fun v10 =>
  (xob q9.2 (some this) 6).bind fun u11 =>
  (fT_readInto q9.2 u11 v10).bind fun q12 =>
  if q12.1 = 0 then (
    some ((0 : Int32), q12.2))
  else
  some ((1 : Int32), q12.2)
set_option maxRecDepth 20000 in
theorem TfT_readGive {M M' : xMem} {r : Int32} (this : xId) (h : fT_readGive M this = some (r, M')) : xrun none 3 110 0 ([some (.inr (.inr (some this))), none]) ([]) M (some (.inl r), M') := by
  unfold fT_readGive at h
  refine xr_aload_n (pc' := 1) rfl rfl rfl ?_
  refine xr_bipush (v := 97) (pc' := 3) rfl (by decide) rfl ?_
  refine xr_bipush (v := 122) (pc' := 5) rfl (by decide) rfl ?_
  obtain ⟨u1, hu1, h⟩ := xbind h
  obtain ⟨q2, hq2, h⟩ := xbind h
  refine xr_callV (pc' := 8) (C := 6) (As := [_, _]) (rest := _) rfl hu1 mC_111 mL_111 rfl (Nat.le_of_ble_eq_true rfl) rfl (Nat.le_of_ble_eq_true rfl) (TfT_readOneOf _ _ _ hq2) rfl ?_
  refine xr_istore_n (pc' := 9) rfl rfl rfl ?_
  refine xr_iload_n (pc' := 10) rfl rfl rfl ?_
  refine xr_iconst (v := -1) (pc' := 11) rfl (by decide) rfl ?_
  rcases xite h with ⟨hc, h⟩ | ⟨hc, h⟩
  · refine xr_icmp_ne_f (pc' := 14) rfl hc rfl ?_
    refine xr_iconst (v := 0) (pc' := 15) rfl (by decide) rfl ?_
    obtain ⟨rfl, rfl⟩ := xsome2 h
    exact xr_zret rfl mR_110 (by decide)
  · refine xr_icmp_ne_t (t := 16) rfl hc ?_
    refine xr_aload_n (pc' := 17) rfl rfl rfl ?_
    refine xr_iconst (v := 1) (pc' := 18) rfl (by decide) rfl ?_
    obtain ⟨u3, hu3, h⟩ := xbind h
    obtain ⟨q4, hq4, h⟩ := xbind h
    refine xr_callV (pc' := 21) (C := 6) (As := [_]) (rest := _) rfl hu3 mC_109 mL_109 rfl (Nat.le_of_ble_eq_true rfl) rfl (Nat.le_of_ble_eq_true rfl) (TfT_addRow _ _ hq4) rfl ?_
    refine xr_pop_i (pc' := 22) rfl rfl ?_
    refine xr_aload_n (pc' := 23) rfl rfl rfl ?_
    refine xr_aload_n (pc' := 24) rfl rfl rfl ?_
    obtain ⟨v5, hv5, h⟩ := xbind h
    refine xr_getR (pc' := 27) rfl (by decide) hv5 rfl ?_
    refine xr_iload_n (pc' := 28) rfl rfl rfl ?_
    obtain ⟨u6, hu6, h⟩ := xbind h
    obtain ⟨q7, hq7, h⟩ := xbind h
    refine xr_callV (pc' := 31) (C := 6) (As := [_, _]) (rest := _) rfl hu6 mC_112 mL_112 rfl (Nat.le_of_ble_eq_true rfl) rfl (Nat.le_of_ble_eq_true rfl) (TfT_setInRow _ _ _ hq7) rfl ?_
    refine xr_aload_n (pc' := 32) rfl rfl rfl ?_
    refine xr_bipush (v := 64) (pc' := 34) rfl (by decide) rfl ?_
    obtain ⟨u8, hu8, h⟩ := xbind h
    obtain ⟨q9, hq9, h⟩ := xbind h
    refine xr_callV (pc' := 37) (C := 6) (As := [_]) (rest := _) rfl hu8 mC_113 mL_113 rfl (Nat.le_of_ble_eq_true rfl) rfl (Nat.le_of_ble_eq_true rfl) (TfT_readSign _ _ hq9) rfl ?_
    rcases xite h with ⟨hc, h⟩ | ⟨hc, h⟩
    · refine xr_if_eq_t (t := 55) rfl hc ?_
      refine xr_iconst (v := 0) (pc' := 56) rfl (by decide) rfl ?_
      obtain ⟨rfl, rfl⟩ := xsome2 h
      exact xr_zret rfl mR_110 (by decide)
    · refine xr_if_eq_f (pc' := 40) rfl hc rfl ?_
      refine xr_aload_n (pc' := 41) rfl rfl rfl ?_
      refine xr_aload_n (pc' := 42) rfl rfl rfl ?_
      obtain ⟨v10, hv10, h⟩ := xbind h
      refine xr_getR (pc' := 45) rfl (by decide) hv10 rfl ?_
      obtain ⟨u11, hu11, h⟩ := xbind h
      obtain ⟨q12, hq12, h⟩ := xbind h
      refine xr_callV (pc' := 48) (C := 6) (As := [_]) (rest := _) rfl hu11 mC_114 mL_114 rfl (Nat.le_of_ble_eq_true rfl) rfl (Nat.le_of_ble_eq_true rfl) (TfT_readInto _ _ hq12) rfl ?_
      rcases xite h with ⟨hc, h⟩ | ⟨hc, h⟩
      · refine xr_if_eq_t (t := 55) rfl hc ?_
        refine xr_iconst (v := 0) (pc' := 56) rfl (by decide) rfl ?_
        obtain ⟨rfl, rfl⟩ := xsome2 h
        exact xr_zret rfl mR_110 (by decide)
      · refine xr_if_eq_f (pc' := 51) rfl hc rfl ?_
        refine xr_iconst (v := 1) (pc' := 52) rfl (by decide) rfl ?_
        refine xr_goto (t := 56) rfl ?_
        obtain ⟨rfl, rfl⟩ := xsome2 h
        exact xr_zret rfl mR_110 (by decide)
-- 116: MagazineDepot$Trace.readOpen()Z
def fT_readOpen (M : xMem) (this : xId) : Option (Int32 × xMem) :=
  (xgR M (some this) 6 7).bind fun v1 =>
  (xgI M v1 4 1).bind fun v2 =>
  if (5 : Int32) ≤ v2 then (
    some ((0 : Int32), M))
  else
  (xob M (some this) 6).bind fun u3 =>
  (fT_readSign M u3 (40 : Int32)).bind fun q4 =>
  if q4.1 = 0 then (
    some ((0 : Int32), q4.2))
  else
  (xgR q4.2 (some this) 6 7).bind fun v5 =>
  (xgI q4.2 (some this) 6 6).bind fun v6 =>
  (xob q4.2 v5 4).bind fun u7 =>
  (fP_put q4.2 u7 (v6 - (1 : Int32))).bind fun q8 =>
  some ((1 : Int32), q8)
set_option maxRecDepth 20000 in
theorem TfT_readOpen {M M' : xMem} {r : Int32} (this : xId) (h : fT_readOpen M this = some (r, M')) : xrun none 2 116 0 ([some (.inr (.inr (some this)))]) ([]) M (some (.inl r), M') := by
  unfold fT_readOpen at h
  refine xr_aload_n (pc' := 1) rfl rfl rfl ?_
  obtain ⟨v1, hv1, h⟩ := xbind h
  refine xr_getR (pc' := 4) rfl (by decide) hv1 rfl ?_
  obtain ⟨v2, hv2, h⟩ := xbind h
  refine xr_getI (pc' := 7) rfl (by decide) hv2 rfl ?_
  refine xr_iconst (v := 5) (pc' := 8) rfl (by decide) rfl ?_
  rcases xite h with ⟨hc, h⟩ | ⟨hc, h⟩
  · refine xr_icmp_ge_t (t := 20) rfl hc ?_
    refine xr_iconst (v := 0) (pc' := 21) rfl (by decide) rfl ?_
    obtain ⟨rfl, rfl⟩ := xsome2 h
    exact xr_zret rfl mR_116 (by decide)
  · refine xr_icmp_ge_f (pc' := 11) rfl hc rfl ?_
    refine xr_aload_n (pc' := 12) rfl rfl rfl ?_
    refine xr_bipush (v := 40) (pc' := 14) rfl (by decide) rfl ?_
    obtain ⟨u3, hu3, h⟩ := xbind h
    obtain ⟨q4, hq4, h⟩ := xbind h
    refine xr_callV (pc' := 17) (C := 6) (As := [_]) (rest := _) rfl hu3 mC_113 mL_113 rfl (Nat.le_of_ble_eq_true rfl) rfl (Nat.le_of_ble_eq_true rfl) (TfT_readSign _ _ hq4) rfl ?_
    rcases xite h with ⟨hc, h⟩ | ⟨hc, h⟩
    · refine xr_if_ne_f (pc' := 20) rfl hc rfl ?_
      refine xr_iconst (v := 0) (pc' := 21) rfl (by decide) rfl ?_
      obtain ⟨rfl, rfl⟩ := xsome2 h
      exact xr_zret rfl mR_116 (by decide)
    · refine xr_if_ne_t (t := 22) rfl hc ?_
      refine xr_aload_n (pc' := 23) rfl rfl rfl ?_
      obtain ⟨v5, hv5, h⟩ := xbind h
      refine xr_getR (pc' := 26) rfl (by decide) hv5 rfl ?_
      refine xr_aload_n (pc' := 27) rfl rfl rfl ?_
      obtain ⟨v6, hv6, h⟩ := xbind h
      refine xr_getI (pc' := 30) rfl (by decide) hv6 rfl ?_
      refine xr_iconst (v := 1) (pc' := 31) rfl (by decide) rfl ?_
      refine xr_isub (pc' := 32) rfl rfl ?_
      obtain ⟨u7, hu7, h⟩ := xbind h
      obtain ⟨q8, hq8, h⟩ := xbind h
      refine xr_callV (pc' := 35) (C := 4) (As := [_]) (rest := _) rfl hu7 mC_27 mL_27 rfl (Nat.le_of_ble_eq_true rfl) rfl (Nat.le_of_ble_eq_true rfl) (TfP_put _ _ hq8) rfl ?_
      refine xr_iconst (v := 1) (pc' := 36) rfl (by decide) rfl ?_
      obtain ⟨rfl, rfl⟩ := xsome2 h
      exact xr_zret rfl mR_116 (by decide)
-- 115: MagazineDepot$Trace.readAsk()Z
def fT_readAsk (M : xMem) (this : xId) : Option (Int32 × xMem) :=
  (xob M (some this) 6).bind fun u1 =>
  (fT_addRow M u1 (5 : Int32)).bind fun q2 =>
  (xgR q2.2 (some this) 6 2).bind fun v3 =>
  (xob q2.2 (some this) 6).bind fun u4 =>
  (fT_readInto q2.2 u4 v3).bind fun q5 =>
  if q5.1 = 0 then (
    some ((0 : Int32), q5.2))
  else
  (xob q5.2 (some this) 6).bind fun u6 =>
  (fT_readOpen q5.2 u6 ).bind fun q7 =>
  if q7.1 = 0 then (
    some ((0 : Int32), q7.2))
  else
  some ((1 : Int32), q7.2)
set_option maxRecDepth 20000 in
theorem TfT_readAsk {M M' : xMem} {r : Int32} (this : xId) (h : fT_readAsk M this = some (r, M')) : xrun none 3 115 0 ([some (.inr (.inr (some this)))]) ([]) M (some (.inl r), M') := by
  unfold fT_readAsk at h
  refine xr_aload_n (pc' := 1) rfl rfl rfl ?_
  refine xr_iconst (v := 5) (pc' := 2) rfl (by decide) rfl ?_
  obtain ⟨u1, hu1, h⟩ := xbind h
  obtain ⟨q2, hq2, h⟩ := xbind h
  refine xr_callV (pc' := 5) (C := 6) (As := [_]) (rest := _) rfl hu1 mC_109 mL_109 rfl (Nat.le_of_ble_eq_true rfl) rfl (Nat.le_of_ble_eq_true rfl) (TfT_addRow _ _ hq2) rfl ?_
  refine xr_pop_i (pc' := 6) rfl rfl ?_
  refine xr_aload_n (pc' := 7) rfl rfl rfl ?_
  refine xr_aload_n (pc' := 8) rfl rfl rfl ?_
  obtain ⟨v3, hv3, h⟩ := xbind h
  refine xr_getR (pc' := 11) rfl (by decide) hv3 rfl ?_
  obtain ⟨u4, hu4, h⟩ := xbind h
  obtain ⟨q5, hq5, h⟩ := xbind h
  refine xr_callV (pc' := 14) (C := 6) (As := [_]) (rest := _) rfl hu4 mC_114 mL_114 rfl (Nat.le_of_ble_eq_true rfl) rfl (Nat.le_of_ble_eq_true rfl) (TfT_readInto _ _ hq5) rfl ?_
  rcases xite h with ⟨hc, h⟩ | ⟨hc, h⟩
  · refine xr_if_eq_t (t := 28) rfl hc ?_
    refine xr_iconst (v := 0) (pc' := 29) rfl (by decide) rfl ?_
    obtain ⟨rfl, rfl⟩ := xsome2 h
    exact xr_zret rfl mR_115 (by decide)
  · refine xr_if_eq_f (pc' := 17) rfl hc rfl ?_
    refine xr_aload_n (pc' := 18) rfl rfl rfl ?_
    obtain ⟨u6, hu6, h⟩ := xbind h
    obtain ⟨q7, hq7, h⟩ := xbind h
    refine xr_callV (pc' := 21) (C := 6) (As := []) (rest := _) rfl hu6 mC_116 mL_116 rfl (Nat.le_of_ble_eq_true rfl) rfl (Nat.le_of_ble_eq_true rfl) (TfT_readOpen _  hq7) rfl ?_
    rcases xite h with ⟨hc, h⟩ | ⟨hc, h⟩
    · refine xr_if_eq_t (t := 28) rfl hc ?_
      refine xr_iconst (v := 0) (pc' := 29) rfl (by decide) rfl ?_
      obtain ⟨rfl, rfl⟩ := xsome2 h
      exact xr_zret rfl mR_115 (by decide)
    · refine xr_if_eq_f (pc' := 24) rfl hc rfl ?_
      refine xr_iconst (v := 1) (pc' := 25) rfl (by decide) rfl ?_
      refine xr_goto (t := 29) rfl ?_
      obtain ⟨rfl, rfl⟩ := xsome2 h
      exact xr_zret rfl mR_115 (by decide)
-- 119: MagazineDepot$Trace.readNumber()I
def fT_readNumber_11  : Nat → xMem → Option xId → Int32 → Int32 → Option (Int32 × xMem)
  | 0, _, _, _, _ => none
  | n + 1, M, l0, l1, l2 =>
    if l1 = (-1 : Int32) then (
      some (l1, M))
    else
    if (3 : Int32) ≤ l2 then (
      some (l1, M))
    else
    (xob M l0 6).bind fun u3 =>
    (fT_readOneOf M u3 (48 : Int32) (57 : Int32)).bind fun q4 =>
    if q4.1 = (-1 : Int32) then (
      some (l1, q4.2))
    else
    fT_readNumber_11  n q4.2 l0 ((l1 * (10 : Int32)) + q4.1) (l2 + 1)
set_option maxRecDepth 20000 in
theorem TfT_readNumber_11 {M' : xMem} {r : Int32}  : ∀ (n : Nat) (M : xMem) (l0 : Option xId) (l1 : Int32) (l2 : Int32) (o3 : Option xVal), fT_readNumber_11  n M l0 l1 l2 = some (r, M') → xrun none 2 119 11 ([some (.inr (.inr l0)), some (.inl l1), some (.inl l2), o3]) ([]) M (some (.inl r), M') := by
  intro n
  induction n with
  | zero => intro M l0 l1 l2 o3 h; unfold fT_readNumber_11 at h; cases h
  | succ n ih =>
    intro M l0 l1 l2 o3 h
    unfold fT_readNumber_11 at h
    refine xr_iload_n (pc' := 12) rfl rfl rfl ?_
    refine xr_iconst (v := -1) (pc' := 13) rfl (by decide) rfl ?_
    rcases xite h with ⟨hc, h⟩ | ⟨hc, h⟩
    · refine xr_icmp_eq_t (t := 51) rfl hc ?_
      refine xr_iload_n (pc' := 52) rfl rfl rfl ?_
      obtain ⟨rfl, rfl⟩ := xsome2 h
      exact xr_iret rfl mR_119
    · refine xr_icmp_eq_f (pc' := 16) rfl hc rfl ?_
      refine xr_iload_n (pc' := 17) rfl rfl rfl ?_
      refine xr_iconst (v := 3) (pc' := 18) rfl (by decide) rfl ?_
      rcases xite h with ⟨hc, h⟩ | ⟨hc, h⟩
      · refine xr_icmp_ge_t (t := 51) rfl hc ?_
        refine xr_iload_n (pc' := 52) rfl rfl rfl ?_
        obtain ⟨rfl, rfl⟩ := xsome2 h
        exact xr_iret rfl mR_119
      · refine xr_icmp_ge_f (pc' := 21) rfl hc rfl ?_
        refine xr_aload_n (pc' := 22) rfl rfl rfl ?_
        refine xr_bipush (v := 48) (pc' := 24) rfl (by decide) rfl ?_
        refine xr_bipush (v := 57) (pc' := 26) rfl (by decide) rfl ?_
        obtain ⟨u3, hu3, h⟩ := xbind h
        obtain ⟨q4, hq4, h⟩ := xbind h
        refine xr_callV (pc' := 29) (C := 6) (As := [_, _]) (rest := _) rfl hu3 mC_111 mL_111 rfl (Nat.le_of_ble_eq_true rfl) rfl (Nat.le_of_ble_eq_true rfl) (TfT_readOneOf _ _ _ hq4) rfl ?_
        refine xr_istore_n (pc' := 30) rfl rfl rfl ?_
        refine xr_iload_n (pc' := 31) rfl rfl rfl ?_
        refine xr_iconst (v := -1) (pc' := 32) rfl (by decide) rfl ?_
        rcases xite h with ⟨hc, h⟩ | ⟨hc, h⟩
        · refine xr_icmp_ne_f (pc' := 35) rfl hc rfl ?_
          refine xr_goto (t := 51) rfl ?_
          refine xr_iload_n (pc' := 52) rfl rfl rfl ?_
          obtain ⟨rfl, rfl⟩ := xsome2 h
          exact xr_iret rfl mR_119
        · refine xr_icmp_ne_t (t := 38) rfl hc ?_
          refine xr_iload_n (pc' := 39) rfl rfl rfl ?_
          refine xr_bipush (v := 10) (pc' := 41) rfl (by decide) rfl ?_
          refine xr_imul (pc' := 42) rfl rfl ?_
          refine xr_iload_n (pc' := 43) rfl rfl rfl ?_
          refine xr_iadd (pc' := 44) rfl rfl ?_
          refine xr_istore_n (pc' := 45) rfl rfl rfl ?_
          refine xr_iinc (c := 1) (pc' := 48) rfl (by decide) rfl rfl rfl ?_
          refine xr_goto (t := 11) rfl ?_
          exact ih q4.2 _ _ _ _ h
def fT_readNumber (M : xMem) (this : xId) : Option (Int32 × xMem) :=
  (xob M (some this) 6).bind fun u1 =>
  (fT_readOneOf M u1 (48 : Int32) (57 : Int32)).bind fun q2 =>
  fT_readNumber_11  xF q2.2 (some this) q2.1 (1 : Int32)
set_option maxRecDepth 20000 in
theorem TfT_readNumber {M M' : xMem} {r : Int32} (this : xId) (h : fT_readNumber M this = some (r, M')) : xrun none 2 119 0 ([some (.inr (.inr (some this))), none, none, none]) ([]) M (some (.inl r), M') := by
  unfold fT_readNumber at h
  refine xr_aload_n (pc' := 1) rfl rfl rfl ?_
  refine xr_bipush (v := 48) (pc' := 3) rfl (by decide) rfl ?_
  refine xr_bipush (v := 57) (pc' := 5) rfl (by decide) rfl ?_
  obtain ⟨u1, hu1, h⟩ := xbind h
  obtain ⟨q2, hq2, h⟩ := xbind h
  refine xr_callV (pc' := 8) (C := 6) (As := [_, _]) (rest := _) rfl hu1 mC_111 mL_111 rfl (Nat.le_of_ble_eq_true rfl) rfl (Nat.le_of_ble_eq_true rfl) (TfT_readOneOf _ _ _ hq2) rfl ?_
  refine xr_istore_n (pc' := 9) rfl rfl rfl ?_
  refine xr_iconst (v := 1) (pc' := 10) rfl (by decide) rfl ?_
  refine xr_istore_n (pc' := 11) rfl rfl rfl ?_
  exact TfT_readNumber_11   xF q2.2 _ _ _ _ h
-- 118: MagazineDepot$Trace.readNumberInto()Z
def fT_readNumberInto (M : xMem) (this : xId) : Option (Int32 × xMem) :=
  (xob M (some this) 6).bind fun u1 =>
  (fT_readNumber M u1 ).bind fun q2 =>
  (xgR q2.2 (some this) 6 4).bind fun v3 =>
  (xob q2.2 (some this) 6).bind fun u4 =>
  (fT_setInRow q2.2 u4 v3 q2.1).bind fun q5 =>
  if q2.1 = (-1 : Int32) then (
    some ((0 : Int32), q5))
  else
  some ((1 : Int32), q5)
set_option maxRecDepth 20000 in
theorem TfT_readNumberInto {M M' : xMem} {r : Int32} (this : xId) (h : fT_readNumberInto M this = some (r, M')) : xrun none 3 118 0 ([some (.inr (.inr (some this))), none]) ([]) M (some (.inl r), M') := by
  unfold fT_readNumberInto at h
  refine xr_aload_n (pc' := 1) rfl rfl rfl ?_
  obtain ⟨u1, hu1, h⟩ := xbind h
  obtain ⟨q2, hq2, h⟩ := xbind h
  refine xr_callV (pc' := 4) (C := 6) (As := []) (rest := _) rfl hu1 mC_119 mL_119 rfl (Nat.le_of_ble_eq_true rfl) rfl (Nat.le_of_ble_eq_true rfl) (TfT_readNumber _  hq2) rfl ?_
  refine xr_istore_n (pc' := 5) rfl rfl rfl ?_
  refine xr_aload_n (pc' := 6) rfl rfl rfl ?_
  refine xr_aload_n (pc' := 7) rfl rfl rfl ?_
  obtain ⟨v3, hv3, h⟩ := xbind h
  refine xr_getR (pc' := 10) rfl (by decide) hv3 rfl ?_
  refine xr_iload_n (pc' := 11) rfl rfl rfl ?_
  obtain ⟨u4, hu4, h⟩ := xbind h
  obtain ⟨q5, hq5, h⟩ := xbind h
  refine xr_callV (pc' := 14) (C := 6) (As := [_, _]) (rest := _) rfl hu4 mC_112 mL_112 rfl (Nat.le_of_ble_eq_true rfl) rfl (Nat.le_of_ble_eq_true rfl) (TfT_setInRow _ _ _ hq5) rfl ?_
  refine xr_iload_n (pc' := 15) rfl rfl rfl ?_
  refine xr_iconst (v := -1) (pc' := 16) rfl (by decide) rfl ?_
  rcases xite h with ⟨hc, h⟩ | ⟨hc, h⟩
  · refine xr_icmp_eq_t (t := 23) rfl hc ?_
    refine xr_iconst (v := 0) (pc' := 24) rfl (by decide) rfl ?_
    obtain ⟨rfl, rfl⟩ := xsome2 h
    exact xr_zret rfl mR_118 (by decide)
  · refine xr_icmp_eq_f (pc' := 19) rfl hc rfl ?_
    refine xr_iconst (v := 1) (pc' := 20) rfl (by decide) rfl ?_
    refine xr_goto (t := 24) rfl ?_
    obtain ⟨rfl, rfl⟩ := xsome2 h
    exact xr_zret rfl mR_118 (by decide)
-- 117: MagazineDepot$Trace.readRepeat()Z
def fT_readRepeat (M : xMem) (this : xId) : Option (Int32 × xMem) :=
  (xob M (some this) 6).bind fun u1 =>
  (fT_addRow M u1 (4 : Int32)).bind fun q2 =>
  (xob q2.2 (some this) 6).bind fun u3 =>
  (fT_readNumberInto q2.2 u3 ).bind fun q4 =>
  if q4.1 = 0 then (
    some ((0 : Int32), q4.2))
  else
  (xob q4.2 (some this) 6).bind fun u5 =>
  (fT_readOpen q4.2 u5 ).bind fun q6 =>
  if q6.1 = 0 then (
    some ((0 : Int32), q6.2))
  else
  some ((1 : Int32), q6.2)
set_option maxRecDepth 20000 in
theorem TfT_readRepeat {M M' : xMem} {r : Int32} (this : xId) (h : fT_readRepeat M this = some (r, M')) : xrun none 4 117 0 ([some (.inr (.inr (some this)))]) ([]) M (some (.inl r), M') := by
  unfold fT_readRepeat at h
  refine xr_aload_n (pc' := 1) rfl rfl rfl ?_
  refine xr_iconst (v := 4) (pc' := 2) rfl (by decide) rfl ?_
  obtain ⟨u1, hu1, h⟩ := xbind h
  obtain ⟨q2, hq2, h⟩ := xbind h
  refine xr_callV (pc' := 5) (C := 6) (As := [_]) (rest := _) rfl hu1 mC_109 mL_109 rfl (Nat.le_of_ble_eq_true rfl) rfl (Nat.le_of_ble_eq_true rfl) (TfT_addRow _ _ hq2) rfl ?_
  refine xr_pop_i (pc' := 6) rfl rfl ?_
  refine xr_aload_n (pc' := 7) rfl rfl rfl ?_
  obtain ⟨u3, hu3, h⟩ := xbind h
  obtain ⟨q4, hq4, h⟩ := xbind h
  refine xr_callV (pc' := 10) (C := 6) (As := []) (rest := _) rfl hu3 mC_118 mL_118 rfl (Nat.le_of_ble_eq_true rfl) rfl (Nat.le_of_ble_eq_true rfl) (TfT_readNumberInto _  hq4) rfl ?_
  rcases xite h with ⟨hc, h⟩ | ⟨hc, h⟩
  · refine xr_if_eq_t (t := 24) rfl hc ?_
    refine xr_iconst (v := 0) (pc' := 25) rfl (by decide) rfl ?_
    obtain ⟨rfl, rfl⟩ := xsome2 h
    exact xr_zret rfl mR_117 (by decide)
  · refine xr_if_eq_f (pc' := 13) rfl hc rfl ?_
    refine xr_aload_n (pc' := 14) rfl rfl rfl ?_
    obtain ⟨u5, hu5, h⟩ := xbind h
    obtain ⟨q6, hq6, h⟩ := xbind h
    refine xr_callV (pc' := 17) (C := 6) (As := []) (rest := _) rfl hu5 mC_116 mL_116 rfl (Nat.le_of_ble_eq_true rfl) rfl (Nat.le_of_ble_eq_true rfl) (TfT_readOpen _  hq6) rfl ?_
    rcases xite h with ⟨hc, h⟩ | ⟨hc, h⟩
    · refine xr_if_eq_t (t := 24) rfl hc ?_
      refine xr_iconst (v := 0) (pc' := 25) rfl (by decide) rfl ?_
      obtain ⟨rfl, rfl⟩ := xsome2 h
      exact xr_zret rfl mR_117 (by decide)
    · refine xr_if_eq_f (pc' := 20) rfl hc rfl ?_
      refine xr_iconst (v := 1) (pc' := 21) rfl (by decide) rfl ?_
      refine xr_goto (t := 25) rfl ?_
      obtain ⟨rfl, rfl⟩ := xsome2 h
      exact xr_zret rfl mR_117 (by decide)
-- 120: MagazineDepot$Trace.readNaming()Z
def fT_readNaming_100  (M : xMem)   : Option (Int32 × xMem) :=
  some ((0 : Int32), M)
set_option maxRecDepth 20000 in
theorem TfT_readNaming_100 {M' : xMem} {r : Int32}  (M : xMem)   (o0 : Option xId) (o1 : Int32) (o2 : Int32) (h : fT_readNaming_100  M   = some (r, M')) : xrun none 4 120 100 ([some (.inr (.inr o0)), some (.inl o1), some (.inl o2)]) ([]) M (some (.inl r), M') := by
  unfold fT_readNaming_100 at h
  refine xr_iconst (v := 0) (pc' := 101) rfl (by decide) rfl ?_
  refine xr_goto (t := 108) rfl ?_
  obtain ⟨rfl, rfl⟩ := xsome2 h
  exact xr_zret rfl mR_120 (by decide)
def fT_readNaming_48  (M : xMem) (l0 : Option xId) (l1 : Int32) (l2 : Int32) (s0 : Option xId) (s1 : Int32) : Option (Int32 × xMem) :=
  (xob M s0 6).bind fun u7 =>
  (fT_addRow M u7 s1).bind fun q8 =>
  (xgR q8.2 l0 6 1).bind fun v9 =>
  (xob q8.2 l0 6).bind fun u10 =>
  (fT_setInRow q8.2 u10 v9 l1).bind fun q11 =>
  if l2 = 0 then (
    (xob q11 l0 6).bind fun u12 =>
    (fT_readNumberInto q11 u12 ).bind fun q13 =>
    if q13.1 = 0 ∨ q13.1 = 1 then some (q13.1, q13.2) else none)
  else
  (xgR q11 l0 6 2).bind fun v14 =>
  (xob q11 l0 6).bind fun u15 =>
  (fT_readInto q11 u15 v14).bind fun q16 =>
  if q16.1 = 0 then (
    fT_readNaming_100  q16.2  )
  else
  (xob q16.2 l0 6).bind fun u17 =>
  (fT_readSign q16.2 u17 (64 : Int32)).bind fun q18 =>
  if q18.1 = 0 then (
    fT_readNaming_100  q18.2  )
  else
  (xgR q18.2 l0 6 3).bind fun v19 =>
  (xob q18.2 l0 6).bind fun u20 =>
  (fT_readInto q18.2 u20 v19).bind fun q21 =>
  if q21.1 = 0 then (
    fT_readNaming_100  q21.2  )
  else
  some ((1 : Int32), q21.2)
set_option maxRecDepth 20000 in
theorem TfT_readNaming_48 {M' : xMem} {r : Int32}  (M : xMem) (l0 : Option xId) (l1 : Int32) (l2 : Int32) (s0 : Option xId) (s1 : Int32)  (h : fT_readNaming_48  M l0 l1 l2 s0 s1 = some (r, M')) : xrun none 4 120 48 ([some (.inr (.inr l0)), some (.inl l1), some (.inl l2)]) ([.inl s1, .inr (.inr s0)]) M (some (.inl r), M') := by
  unfold fT_readNaming_48 at h
  obtain ⟨u7, hu7, h⟩ := xbind h
  obtain ⟨q8, hq8, h⟩ := xbind h
  refine xr_callV (pc' := 51) (C := 6) (As := [_]) (rest := _) rfl hu7 mC_109 mL_109 rfl (Nat.le_of_ble_eq_true rfl) rfl (Nat.le_of_ble_eq_true rfl) (TfT_addRow _ _ hq8) rfl ?_
  refine xr_pop_i (pc' := 52) rfl rfl ?_
  refine xr_aload_n (pc' := 53) rfl rfl rfl ?_
  refine xr_aload_n (pc' := 54) rfl rfl rfl ?_
  obtain ⟨v9, hv9, h⟩ := xbind h
  refine xr_getR (pc' := 57) rfl (by decide) hv9 rfl ?_
  refine xr_iload_n (pc' := 58) rfl rfl rfl ?_
  obtain ⟨u10, hu10, h⟩ := xbind h
  obtain ⟨q11, hq11, h⟩ := xbind h
  refine xr_callV (pc' := 61) (C := 6) (As := [_, _]) (rest := _) rfl hu10 mC_112 mL_112 rfl (Nat.le_of_ble_eq_true rfl) rfl (Nat.le_of_ble_eq_true rfl) (TfT_setInRow _ _ _ hq11) rfl ?_
  refine xr_iload_n (pc' := 62) rfl rfl rfl ?_
  rcases xite h with ⟨hc, h⟩ | ⟨hc, h⟩
  · refine xr_if_eq_t (t := 104) rfl hc ?_
    refine xr_aload_n (pc' := 105) rfl rfl rfl ?_
    obtain ⟨u12, hu12, h⟩ := xbind h
    obtain ⟨q13, hq13, h⟩ := xbind h
    refine xr_callV (pc' := 108) (C := 6) (As := []) (rest := _) rfl hu12 mC_118 mL_118 rfl (Nat.le_of_ble_eq_true rfl) rfl (Nat.le_of_ble_eq_true rfl) (TfT_readNumberInto _  hq13) rfl ?_
    rcases xite h with ⟨hc, h⟩ | ⟨hc, h⟩
    · obtain ⟨rfl, rfl⟩ := xsome2 h
      exact xr_zret rfl mR_120 hc
    · cases h
  · refine xr_if_eq_f (pc' := 65) rfl hc rfl ?_
    refine xr_aload_n (pc' := 66) rfl rfl rfl ?_
    refine xr_aload_n (pc' := 67) rfl rfl rfl ?_
    obtain ⟨v14, hv14, h⟩ := xbind h
    refine xr_getR (pc' := 70) rfl (by decide) hv14 rfl ?_
    obtain ⟨u15, hu15, h⟩ := xbind h
    obtain ⟨q16, hq16, h⟩ := xbind h
    refine xr_callV (pc' := 73) (C := 6) (As := [_]) (rest := _) rfl hu15 mC_114 mL_114 rfl (Nat.le_of_ble_eq_true rfl) rfl (Nat.le_of_ble_eq_true rfl) (TfT_readInto _ _ hq16) rfl ?_
    rcases xite h with ⟨hc, h⟩ | ⟨hc, h⟩
    · refine xr_if_eq_t (t := 100) rfl hc ?_
      exact TfT_readNaming_100   q16.2   _ _ _ h
    · refine xr_if_eq_f (pc' := 76) rfl hc rfl ?_
      refine xr_aload_n (pc' := 77) rfl rfl rfl ?_
      refine xr_bipush (v := 64) (pc' := 79) rfl (by decide) rfl ?_
      obtain ⟨u17, hu17, h⟩ := xbind h
      obtain ⟨q18, hq18, h⟩ := xbind h
      refine xr_callV (pc' := 82) (C := 6) (As := [_]) (rest := _) rfl hu17 mC_113 mL_113 rfl (Nat.le_of_ble_eq_true rfl) rfl (Nat.le_of_ble_eq_true rfl) (TfT_readSign _ _ hq18) rfl ?_
      rcases xite h with ⟨hc, h⟩ | ⟨hc, h⟩
      · refine xr_if_eq_t (t := 100) rfl hc ?_
        exact TfT_readNaming_100   q18.2   _ _ _ h
      · refine xr_if_eq_f (pc' := 85) rfl hc rfl ?_
        refine xr_aload_n (pc' := 86) rfl rfl rfl ?_
        refine xr_aload_n (pc' := 87) rfl rfl rfl ?_
        obtain ⟨v19, hv19, h⟩ := xbind h
        refine xr_getR (pc' := 90) rfl (by decide) hv19 rfl ?_
        obtain ⟨u20, hu20, h⟩ := xbind h
        obtain ⟨q21, hq21, h⟩ := xbind h
        refine xr_callV (pc' := 93) (C := 6) (As := [_]) (rest := _) rfl hu20 mC_114 mL_114 rfl (Nat.le_of_ble_eq_true rfl) rfl (Nat.le_of_ble_eq_true rfl) (TfT_readInto _ _ hq21) rfl ?_
        rcases xite h with ⟨hc, h⟩ | ⟨hc, h⟩
        · refine xr_if_eq_t (t := 100) rfl hc ?_
          exact TfT_readNaming_100   q21.2   _ _ _ h
        · refine xr_if_eq_f (pc' := 96) rfl hc rfl ?_
          refine xr_iconst (v := 1) (pc' := 97) rfl (by decide) rfl ?_
          refine xr_goto (t := 108) rfl ?_
          obtain ⟨rfl, rfl⟩ := xsome2 h
          exact xr_zret rfl mR_120 (by decide)
def fT_readNaming_38  (M : xMem) (l0 : Option xId) (l1 : Int32) (l2 : Int32)  : Option (Int32 × xMem) :=
  if l2 = 0 then (
    fT_readNaming_48  M l0 l1 l2 l0 (2 : Int32))
  else
  fT_readNaming_48  M l0 l1 l2 l0 (0 : Int32)
set_option maxRecDepth 20000 in
theorem TfT_readNaming_38 {M' : xMem} {r : Int32}  (M : xMem) (l0 : Option xId) (l1 : Int32) (l2 : Int32)   (h : fT_readNaming_38  M l0 l1 l2  = some (r, M')) : xrun none 4 120 38 ([some (.inr (.inr l0)), some (.inl l1), some (.inl l2)]) ([]) M (some (.inl r), M') := by
  unfold fT_readNaming_38 at h
  refine xr_aload_n (pc' := 39) rfl rfl rfl ?_
  refine xr_iload_n (pc' := 40) rfl rfl rfl ?_
  rcases xite h with ⟨hc, h⟩ | ⟨hc, h⟩
  · refine xr_if_eq_t (t := 47) rfl hc ?_
    refine xr_iconst (v := 2) (pc' := 48) rfl (by decide) rfl ?_
    exact TfT_readNaming_48   M _ _ _ _ _  h
  · refine xr_if_eq_f (pc' := 43) rfl hc rfl ?_
    refine xr_iconst (v := 0) (pc' := 44) rfl (by decide) rfl ?_
    refine xr_goto (t := 48) rfl ?_
    exact TfT_readNaming_48   M _ _ _ _ _  h
def fT_readNaming (M : xMem) (this : xId) : Option (Int32 × xMem) :=
  (xob M (some this) 6).bind fun u1 =>
  (fT_readOneOf M u1 (97 : Int32) (122 : Int32)).bind fun q2 =>
  if q2.1 = (-1 : Int32) then (
    some ((0 : Int32), q2.2))
  else
  (xob q2.2 (some this) 6).bind fun u3 =>
  (fT_readSign q2.2 u3 (61 : Int32)).bind fun q4 =>
  if q4.1 = 0 then (
    (xob q4.2 (some this) 6).bind fun u5 =>
    (fT_readSign q4.2 u5 (58 : Int32)).bind fun q6 =>
    if q6.1 = 0 then (
      some ((0 : Int32), q6.2))
    else
    fT_readNaming_38  q6.2 (some this) q2.1 q4.1 )
  else
  fT_readNaming_38  q4.2 (some this) q2.1 q4.1 
set_option maxRecDepth 20000 in
theorem TfT_readNaming {M M' : xMem} {r : Int32} (this : xId) (h : fT_readNaming M this = some (r, M')) : xrun none 4 120 0 ([some (.inr (.inr (some this))), none, none]) ([]) M (some (.inl r), M') := by
  unfold fT_readNaming at h
  refine xr_aload_n (pc' := 1) rfl rfl rfl ?_
  refine xr_bipush (v := 97) (pc' := 3) rfl (by decide) rfl ?_
  refine xr_bipush (v := 122) (pc' := 5) rfl (by decide) rfl ?_
  obtain ⟨u1, hu1, h⟩ := xbind h
  obtain ⟨q2, hq2, h⟩ := xbind h
  refine xr_callV (pc' := 8) (C := 6) (As := [_, _]) (rest := _) rfl hu1 mC_111 mL_111 rfl (Nat.le_of_ble_eq_true rfl) rfl (Nat.le_of_ble_eq_true rfl) (TfT_readOneOf _ _ _ hq2) rfl ?_
  refine xr_istore_n (pc' := 9) rfl rfl rfl ?_
  refine xr_iload_n (pc' := 10) rfl rfl rfl ?_
  refine xr_iconst (v := -1) (pc' := 11) rfl (by decide) rfl ?_
  rcases xite h with ⟨hc, h⟩ | ⟨hc, h⟩
  · refine xr_icmp_ne_f (pc' := 14) rfl hc rfl ?_
    refine xr_iconst (v := 0) (pc' := 15) rfl (by decide) rfl ?_
    obtain ⟨rfl, rfl⟩ := xsome2 h
    exact xr_zret rfl mR_120 (by decide)
  · refine xr_icmp_ne_t (t := 16) rfl hc ?_
    refine xr_aload_n (pc' := 17) rfl rfl rfl ?_
    refine xr_bipush (v := 61) (pc' := 19) rfl (by decide) rfl ?_
    obtain ⟨u3, hu3, h⟩ := xbind h
    obtain ⟨q4, hq4, h⟩ := xbind h
    refine xr_callV (pc' := 22) (C := 6) (As := [_]) (rest := _) rfl hu3 mC_113 mL_113 rfl (Nat.le_of_ble_eq_true rfl) rfl (Nat.le_of_ble_eq_true rfl) (TfT_readSign _ _ hq4) rfl ?_
    refine xr_istore_n (pc' := 23) rfl rfl rfl ?_
    refine xr_iload_n (pc' := 24) rfl rfl rfl ?_
    rcases xite h with ⟨hc, h⟩ | ⟨hc, h⟩
    · refine xr_if_ne_f (pc' := 27) rfl hc rfl ?_
      refine xr_aload_n (pc' := 28) rfl rfl rfl ?_
      refine xr_bipush (v := 58) (pc' := 30) rfl (by decide) rfl ?_
      obtain ⟨u5, hu5, h⟩ := xbind h
      obtain ⟨q6, hq6, h⟩ := xbind h
      refine xr_callV (pc' := 33) (C := 6) (As := [_]) (rest := _) rfl hu5 mC_113 mL_113 rfl (Nat.le_of_ble_eq_true rfl) rfl (Nat.le_of_ble_eq_true rfl) (TfT_readSign _ _ hq6) rfl ?_
      rcases xite h with ⟨hc, h⟩ | ⟨hc, h⟩
      · refine xr_if_ne_f (pc' := 36) rfl hc rfl ?_
        refine xr_iconst (v := 0) (pc' := 37) rfl (by decide) rfl ?_
        obtain ⟨rfl, rfl⟩ := xsome2 h
        exact xr_zret rfl mR_120 (by decide)
      · refine xr_if_ne_t (t := 38) rfl hc ?_
        exact TfT_readNaming_38   q6.2 _ _ _   h
    · refine xr_if_ne_t (t := 38) rfl hc ?_
      exact TfT_readNaming_38   q4.2 _ _ _   h
-- 107: MagazineDepot$Trace.readBegin()Z
def fT_readBegin_88  (M : xMem) (l0 : Option xId)  : Option (Int32 × xMem) :=
  (xob M l0 6).bind fun u17 =>
  (fT_readNaming M u17 ).bind fun q18 =>
  if q18.1 = 0 ∨ q18.1 = 1 then some (q18.1, q18.2) else none
set_option maxRecDepth 20000 in
theorem TfT_readBegin_88 {M' : xMem} {r : Int32}  (M : xMem) (l0 : Option xId)  (o1 : Int32) (h : fT_readBegin_88  M l0  = some (r, M')) : xrun none 5 107 88 ([some (.inr (.inr l0)), some (.inl o1)]) ([]) M (some (.inl r), M') := by
  unfold fT_readBegin_88 at h
  refine xr_aload_n (pc' := 89) rfl rfl rfl ?_
  obtain ⟨u17, hu17, h⟩ := xbind h
  obtain ⟨q18, hq18, h⟩ := xbind h
  refine xr_callV (pc' := 92) (C := 6) (As := []) (rest := _) rfl hu17 mC_120 mL_120 rfl (Nat.le_of_ble_eq_true rfl) rfl (Nat.le_of_ble_eq_true rfl) (TfT_readNaming _  hq18) rfl ?_
  rcases xite h with ⟨hc, h⟩ | ⟨hc, h⟩
  · obtain ⟨rfl, rfl⟩ := xsome2 h
    exact xr_zret rfl mR_107 hc
  · cases h
def fT_readBegin (M : xMem) (this : xId) : Option (Int32 × xMem) :=
  (xob M (some this) 6).bind fun u1 =>
  (fT_letter M u1 ).bind fun q2 =>
  if q2.1 = (33 : Int32) then (
    (xgI q2.2 (some this) 6 10).bind fun v3 =>
    (xpI q2.2 (some this) 6 10 (v3 + (1 : Int32))).bind fun M4 =>
    (xob M4 (some this) 6).bind fun u5 =>
    (fT_addRow M4 u5 (3 : Int32)).bind fun q6 =>
    if q6.1 = 0 ∨ q6.1 = 1 then some (q6.1, q6.2) else none)
  else
  if q2.1 = (126 : Int32) then (
    (xgI q2.2 (some this) 6 10).bind fun v7 =>
    (xpI q2.2 (some this) 6 10 (v7 + (1 : Int32))).bind fun M8 =>
    (xob M8 (some this) 6).bind fun u9 =>
    (fT_readGive M8 u9 ).bind fun q10 =>
    if q10.1 = 0 ∨ q10.1 = 1 then some (q10.1, q10.2) else none)
  else
  if q2.1 = (63 : Int32) then (
    (xgI q2.2 (some this) 6 10).bind fun v11 =>
    (xpI q2.2 (some this) 6 10 (v11 + (1 : Int32))).bind fun M12 =>
    (xob M12 (some this) 6).bind fun u13 =>
    (fT_readAsk M12 u13 ).bind fun q14 =>
    if q14.1 = 0 ∨ q14.1 = 1 then some (q14.1, q14.2) else none)
  else
  if q2.1 < (48 : Int32) then (
    fT_readBegin_88  q2.2 (some this) )
  else
  if (57 : Int32) < q2.1 then (
    fT_readBegin_88  q2.2 (some this) )
  else
  (xob q2.2 (some this) 6).bind fun u15 =>
  (fT_readRepeat q2.2 u15 ).bind fun q16 =>
  if q16.1 = 0 ∨ q16.1 = 1 then some (q16.1, q16.2) else none
set_option maxRecDepth 20000 in
theorem TfT_readBegin {M M' : xMem} {r : Int32} (this : xId) (h : fT_readBegin M this = some (r, M')) : xrun none 5 107 0 ([some (.inr (.inr (some this))), none]) ([]) M (some (.inl r), M') := by
  unfold fT_readBegin at h
  refine xr_aload_n (pc' := 1) rfl rfl rfl ?_
  obtain ⟨u1, hu1, h⟩ := xbind h
  obtain ⟨q2, hq2, h⟩ := xbind h
  refine xr_callV (pc' := 4) (C := 6) (As := []) (rest := _) rfl hu1 mC_108 mL_108 rfl (Nat.le_of_ble_eq_true rfl) rfl (Nat.le_of_ble_eq_true rfl) (TfT_letter _  hq2) rfl ?_
  refine xr_istore_n (pc' := 5) rfl rfl rfl ?_
  refine xr_iload_n (pc' := 6) rfl rfl rfl ?_
  refine xr_bipush (v := 33) (pc' := 8) rfl (by decide) rfl ?_
  rcases xite h with ⟨hc, h⟩ | ⟨hc, h⟩
  · refine xr_icmp_ne_f (pc' := 11) rfl hc rfl ?_
    refine xr_aload_n (pc' := 12) rfl rfl rfl ?_
    refine xr_dup_a (pc' := 13) rfl rfl ?_
    obtain ⟨v3, hv3, h⟩ := xbind h
    refine xr_getI (pc' := 16) rfl (by decide) hv3 rfl ?_
    refine xr_iconst (v := 1) (pc' := 17) rfl (by decide) rfl ?_
    refine xr_iadd (pc' := 18) rfl rfl ?_
    obtain ⟨M4, hM4, h⟩ := xbind h
    refine xr_putI (pc' := 21) rfl (by decide) hM4 rfl ?_
    refine xr_aload_n (pc' := 22) rfl rfl rfl ?_
    refine xr_iconst (v := 3) (pc' := 23) rfl (by decide) rfl ?_
    obtain ⟨u5, hu5, h⟩ := xbind h
    obtain ⟨q6, hq6, h⟩ := xbind h
    refine xr_callV (pc' := 26) (C := 6) (As := [_]) (rest := _) rfl hu5 mC_109 mL_109 rfl (Nat.le_of_ble_eq_true rfl) rfl (Nat.le_of_ble_eq_true rfl) (TfT_addRow _ _ hq6) rfl ?_
    rcases xite h with ⟨hc, h⟩ | ⟨hc, h⟩
    · obtain ⟨rfl, rfl⟩ := xsome2 h
      exact xr_zret rfl mR_107 hc
    · cases h
  · refine xr_icmp_ne_t (t := 27) rfl hc ?_
    refine xr_iload_n (pc' := 28) rfl rfl rfl ?_
    refine xr_bipush (v := 126) (pc' := 30) rfl (by decide) rfl ?_
    rcases xite h with ⟨hc, h⟩ | ⟨hc, h⟩
    · refine xr_icmp_ne_f (pc' := 33) rfl hc rfl ?_
      refine xr_aload_n (pc' := 34) rfl rfl rfl ?_
      refine xr_dup_a (pc' := 35) rfl rfl ?_
      obtain ⟨v7, hv7, h⟩ := xbind h
      refine xr_getI (pc' := 38) rfl (by decide) hv7 rfl ?_
      refine xr_iconst (v := 1) (pc' := 39) rfl (by decide) rfl ?_
      refine xr_iadd (pc' := 40) rfl rfl ?_
      obtain ⟨M8, hM8, h⟩ := xbind h
      refine xr_putI (pc' := 43) rfl (by decide) hM8 rfl ?_
      refine xr_aload_n (pc' := 44) rfl rfl rfl ?_
      obtain ⟨u9, hu9, h⟩ := xbind h
      obtain ⟨q10, hq10, h⟩ := xbind h
      refine xr_callV (pc' := 47) (C := 6) (As := []) (rest := _) rfl hu9 mC_110 mL_110 rfl (Nat.le_of_ble_eq_true rfl) rfl (Nat.le_of_ble_eq_true rfl) (TfT_readGive _  hq10) rfl ?_
      rcases xite h with ⟨hc, h⟩ | ⟨hc, h⟩
      · obtain ⟨rfl, rfl⟩ := xsome2 h
        exact xr_zret rfl mR_107 hc
      · cases h
    · refine xr_icmp_ne_t (t := 48) rfl hc ?_
      refine xr_iload_n (pc' := 49) rfl rfl rfl ?_
      refine xr_bipush (v := 63) (pc' := 51) rfl (by decide) rfl ?_
      rcases xite h with ⟨hc, h⟩ | ⟨hc, h⟩
      · refine xr_icmp_ne_f (pc' := 54) rfl hc rfl ?_
        refine xr_aload_n (pc' := 55) rfl rfl rfl ?_
        refine xr_dup_a (pc' := 56) rfl rfl ?_
        obtain ⟨v11, hv11, h⟩ := xbind h
        refine xr_getI (pc' := 59) rfl (by decide) hv11 rfl ?_
        refine xr_iconst (v := 1) (pc' := 60) rfl (by decide) rfl ?_
        refine xr_iadd (pc' := 61) rfl rfl ?_
        obtain ⟨M12, hM12, h⟩ := xbind h
        refine xr_putI (pc' := 64) rfl (by decide) hM12 rfl ?_
        refine xr_aload_n (pc' := 65) rfl rfl rfl ?_
        obtain ⟨u13, hu13, h⟩ := xbind h
        obtain ⟨q14, hq14, h⟩ := xbind h
        refine xr_callV (pc' := 68) (C := 6) (As := []) (rest := _) rfl hu13 mC_115 mL_115 rfl (Nat.le_of_ble_eq_true rfl) rfl (Nat.le_of_ble_eq_true rfl) (TfT_readAsk _  hq14) rfl ?_
        rcases xite h with ⟨hc, h⟩ | ⟨hc, h⟩
        · obtain ⟨rfl, rfl⟩ := xsome2 h
          exact xr_zret rfl mR_107 hc
        · cases h
      · refine xr_icmp_ne_t (t := 69) rfl hc ?_
        refine xr_iload_n (pc' := 70) rfl rfl rfl ?_
        refine xr_bipush (v := 48) (pc' := 72) rfl (by decide) rfl ?_
        rcases xite h with ⟨hc, h⟩ | ⟨hc, h⟩
        · refine xr_icmp_lt_t (t := 88) rfl hc ?_
          exact TfT_readBegin_88   q2.2 _  _ h
        · refine xr_icmp_lt_f (pc' := 75) rfl hc rfl ?_
          refine xr_iload_n (pc' := 76) rfl rfl rfl ?_
          refine xr_bipush (v := 57) (pc' := 78) rfl (by decide) rfl ?_
          rcases xite h with ⟨hc, h⟩ | ⟨hc, h⟩
          · refine xr_icmp_gt_t (t := 88) rfl hc ?_
            exact TfT_readBegin_88   q2.2 _  _ h
          · refine xr_icmp_gt_f (pc' := 81) rfl hc rfl ?_
            refine xr_aload_n (pc' := 82) rfl rfl rfl ?_
            obtain ⟨u15, hu15, h⟩ := xbind h
            obtain ⟨q16, hq16, h⟩ := xbind h
            refine xr_callV (pc' := 85) (C := 6) (As := []) (rest := _) rfl hu15 mC_117 mL_117 rfl (Nat.le_of_ble_eq_true rfl) rfl (Nat.le_of_ble_eq_true rfl) (TfT_readRepeat _  hq16) rfl ?_
            refine xr_goto (t := 92) rfl ?_
            rcases xite h with ⟨hc, h⟩ | ⟨hc, h⟩
            · obtain ⟨rfl, rfl⟩ := xsome2 h
              exact xr_zret rfl mR_107 hc
            · cases h
-- 121: MagazineDepot$Trace.readCloses()V
def fT_readCloses_69 (k8 : xMem → Option xId → Int32 → Option xMem) (M : xMem) (l0 : Option xId) (l1 : Int32)  : Option xMem :=
  k8 M l0 (l1 + -1)
set_option maxRecDepth 20000 in
theorem TfT_readCloses_69 {M' : xMem} (k8 : xMem → Option xId → Int32 → Option xMem) (hk8 : ∀ (M : xMem) (l0 : Option xId) (l1 : Int32) (o2 : Option xVal), k8 M l0 l1 = some M' → xrun none 2 121 8 ([some (.inr (.inr l0)), some (.inl l1), o2]) ([]) M (none, M')) (M : xMem) (l0 : Option xId) (l1 : Int32)  (o2 : Int32) (h : fT_readCloses_69 k8 M l0 l1  = some M') : xrun none 2 121 69 ([some (.inr (.inr l0)), some (.inl l1), some (.inl o2)]) ([]) M (none, M') := by
  unfold fT_readCloses_69 at h
  refine xr_iinc (c := -1) (pc' := 72) rfl (by decide) rfl rfl rfl ?_
  refine xr_goto (t := 8) rfl ?_
  exact hk8 M _ _ _ h
def fT_readCloses_8  : Nat → xMem → Option xId → Int32 → Option xMem
  | 0, _, _, _ => none
  | n + 1, M, l0, l1 =>
    if l1 ≤ 0 then (
      some M)
    else
    (xob M l0 6).bind fun u3 =>
    (fT_readSign M u3 (41 : Int32)).bind fun q4 =>
    if q4.1 = 0 then (
      some q4.2)
    else
    (xgR q4.2 l0 6 7).bind fun v5 =>
    (xob q4.2 v5 4).bind fun u6 =>
    (fP_takeLatest q4.2 u6 ).bind fun q7 =>
    (xob q7.2 l0 6).bind fun u8 =>
    (fT_addRow q7.2 u8 (6 : Int32)).bind fun q9 =>
    (xgR q9.2 l0 6 5).bind fun v10 =>
    (xob q9.2 l0 6).bind fun u11 =>
    (fT_setInRow q9.2 u11 v10 q7.1).bind fun q12 =>
    if q7.1 < 0 then (
      fT_readCloses_69 (fun M l0 l1 => fT_readCloses_8  n M l0 l1) q12 l0 l1 )
    else
    (xgI q12 l0 6 6).bind fun v13 =>
    if v13 ≤ q7.1 then (
      fT_readCloses_69 (fun M l0 l1 => fT_readCloses_8  n M l0 l1) q12 l0 l1 )
    else
    (xgR q12 l0 6 5).bind fun v14 =>
    (xgI q12 l0 6 6).bind fun v15 =>
    (xuI q12 v14 q7.1 (v15 - (1 : Int32))).bind fun M16 =>
    fT_readCloses_69 (fun M l0 l1 => fT_readCloses_8  n M l0 l1) M16 l0 l1 
set_option maxRecDepth 20000 in
theorem TfT_readCloses_8 {M' : xMem}  : ∀ (n : Nat) (M : xMem) (l0 : Option xId) (l1 : Int32) (o2 : Option xVal), fT_readCloses_8  n M l0 l1 = some M' → xrun none 2 121 8 ([some (.inr (.inr l0)), some (.inl l1), o2]) ([]) M (none, M') := by
  intro n
  induction n with
  | zero => intro M l0 l1 o2 h; unfold fT_readCloses_8 at h; cases h
  | succ n ih =>
    intro M l0 l1 o2 h
    unfold fT_readCloses_8 at h
    refine xr_iload_n (pc' := 9) rfl rfl rfl ?_
    rcases xite h with ⟨hc, h⟩ | ⟨hc, h⟩
    · refine xr_if_le_t (t := 75) rfl hc ?_
      obtain rfl := xsome1 h
      exact xr_ret rfl mR_121
    · refine xr_if_le_f (pc' := 12) rfl hc rfl ?_
      refine xr_aload_n (pc' := 13) rfl rfl rfl ?_
      refine xr_bipush (v := 41) (pc' := 15) rfl (by decide) rfl ?_
      obtain ⟨u3, hu3, h⟩ := xbind h
      obtain ⟨q4, hq4, h⟩ := xbind h
      refine xr_callV (pc' := 18) (C := 6) (As := [_]) (rest := _) rfl hu3 mC_113 mL_113 rfl (Nat.le_of_ble_eq_true rfl) rfl (Nat.le_of_ble_eq_true rfl) (TfT_readSign _ _ hq4) rfl ?_
      rcases xite h with ⟨hc, h⟩ | ⟨hc, h⟩
      · refine xr_if_eq_t (t := 75) rfl hc ?_
        obtain rfl := xsome1 h
        exact xr_ret rfl mR_121
      · refine xr_if_eq_f (pc' := 21) rfl hc rfl ?_
        refine xr_aload_n (pc' := 22) rfl rfl rfl ?_
        obtain ⟨v5, hv5, h⟩ := xbind h
        refine xr_getR (pc' := 25) rfl (by decide) hv5 rfl ?_
        obtain ⟨u6, hu6, h⟩ := xbind h
        obtain ⟨q7, hq7, h⟩ := xbind h
        refine xr_callV (pc' := 28) (C := 4) (As := []) (rest := _) rfl hu6 mC_29 mL_29 rfl (Nat.le_of_ble_eq_true rfl) rfl (Nat.le_of_ble_eq_true rfl) (TfP_takeLatest _  hq7) rfl ?_
        refine xr_istore_n (pc' := 29) rfl rfl rfl ?_
        refine xr_aload_n (pc' := 30) rfl rfl rfl ?_
        refine xr_bipush (v := 6) (pc' := 32) rfl (by decide) rfl ?_
        obtain ⟨u8, hu8, h⟩ := xbind h
        obtain ⟨q9, hq9, h⟩ := xbind h
        refine xr_callV (pc' := 35) (C := 6) (As := [_]) (rest := _) rfl hu8 mC_109 mL_109 rfl (Nat.le_of_ble_eq_true rfl) rfl (Nat.le_of_ble_eq_true rfl) (TfT_addRow _ _ hq9) rfl ?_
        refine xr_pop_i (pc' := 36) rfl rfl ?_
        refine xr_aload_n (pc' := 37) rfl rfl rfl ?_
        refine xr_aload_n (pc' := 38) rfl rfl rfl ?_
        obtain ⟨v10, hv10, h⟩ := xbind h
        refine xr_getR (pc' := 41) rfl (by decide) hv10 rfl ?_
        refine xr_iload_n (pc' := 42) rfl rfl rfl ?_
        obtain ⟨u11, hu11, h⟩ := xbind h
        obtain ⟨q12, hq12, h⟩ := xbind h
        refine xr_callV (pc' := 45) (C := 6) (As := [_, _]) (rest := _) rfl hu11 mC_112 mL_112 rfl (Nat.le_of_ble_eq_true rfl) rfl (Nat.le_of_ble_eq_true rfl) (TfT_setInRow _ _ _ hq12) rfl ?_
        refine xr_iload_n (pc' := 46) rfl rfl rfl ?_
        rcases xite h with ⟨hc, h⟩ | ⟨hc, h⟩
        · refine xr_if_lt_t (t := 69) rfl hc ?_
          exact TfT_readCloses_69 _ (fun M l0 l1 o2 h => ih M l0 l1 o2 h) q12 _ _  _ h
        · refine xr_if_lt_f (pc' := 49) rfl hc rfl ?_
          refine xr_iload_n (pc' := 50) rfl rfl rfl ?_
          refine xr_aload_n (pc' := 51) rfl rfl rfl ?_
          obtain ⟨v13, hv13, h⟩ := xbind h
          refine xr_getI (pc' := 54) rfl (by decide) hv13 rfl ?_
          rcases xite h with ⟨hc, h⟩ | ⟨hc, h⟩
          · refine xr_icmp_ge_t (t := 69) rfl hc ?_
            exact TfT_readCloses_69 _ (fun M l0 l1 o2 h => ih M l0 l1 o2 h) q12 _ _  _ h
          · refine xr_icmp_ge_f (pc' := 57) rfl hc rfl ?_
            refine xr_aload_n (pc' := 58) rfl rfl rfl ?_
            obtain ⟨v14, hv14, h⟩ := xbind h
            refine xr_getR (pc' := 61) rfl (by decide) hv14 rfl ?_
            refine xr_iload_n (pc' := 62) rfl rfl rfl ?_
            refine xr_aload_n (pc' := 63) rfl rfl rfl ?_
            obtain ⟨v15, hv15, h⟩ := xbind h
            refine xr_getI (pc' := 66) rfl (by decide) hv15 rfl ?_
            refine xr_iconst (v := 1) (pc' := 67) rfl (by decide) rfl ?_
            refine xr_isub (pc' := 68) rfl rfl ?_
            obtain ⟨M16, hM16, h⟩ := xbind h
            refine xr_uI (pc' := 69) rfl hM16 rfl ?_
            exact TfT_readCloses_69 _ (fun M l0 l1 o2 h => ih M l0 l1 o2 h) M16 _ _  _ h
def fT_readCloses (M : xMem) (this : xId) : Option xMem :=
  (xgR M (some this) 6 7).bind fun v1 =>
  (xgI M v1 4 1).bind fun v2 =>
  fT_readCloses_8  xF M (some this) v2
set_option maxRecDepth 20000 in
theorem TfT_readCloses {M M' : xMem} (this : xId) (h : fT_readCloses M this = some M') : xrun none 2 121 0 ([some (.inr (.inr (some this))), none, none]) ([]) M (none, M') := by
  unfold fT_readCloses at h
  refine xr_aload_n (pc' := 1) rfl rfl rfl ?_
  obtain ⟨v1, hv1, h⟩ := xbind h
  refine xr_getR (pc' := 4) rfl (by decide) hv1 rfl ?_
  obtain ⟨v2, hv2, h⟩ := xbind h
  refine xr_getI (pc' := 7) rfl (by decide) hv2 rfl ?_
  refine xr_istore_n (pc' := 8) rfl rfl rfl ?_
  exact TfT_readCloses_8   xF M _ _ _ h
-- 106: MagazineDepot$Trace.read([II)I
def fT_read_136  (M : xMem) (l0 : Option xId)  : Option (Int32 × xMem) :=
  (xgI M l0 6 10).bind fun v25 =>
  some (v25, M)
set_option maxRecDepth 20000 in
theorem TfT_read_136 {M' : xMem} {r : Int32}  (M : xMem) (l0 : Option xId)  (o1 : Option xId) (o2 : Int32) (o3 : Int32) (o4 : Option xVal) (h : fT_read_136  M l0  = some (r, M')) : xrun none 6 106 136 ([some (.inr (.inr l0)), some (.inr (.inr o1)), some (.inl o2), some (.inl o3), o4]) ([]) M (some (.inl r), M') := by
  unfold fT_read_136 at h
  refine xr_aload_n (pc' := 137) rfl rfl rfl ?_
  obtain ⟨v25, hv25, h⟩ := xbind h
  refine xr_getI (pc' := 140) rfl (by decide) hv25 rfl ?_
  obtain ⟨rfl, rfl⟩ := xsome2 h
  exact xr_iret rfl mR_106
def fT_read_130 (k34 : xMem → Option xId → Int32 → Option (Int32 × xMem)) (M : xMem) (l0 : Option xId) (l3 : Int32)  : Option (Int32 × xMem) :=
  k34 M l0 (l3 + 1)
set_option maxRecDepth 20000 in
theorem TfT_read_130 {M' : xMem} {r : Int32} (k34 : xMem → Option xId → Int32 → Option (Int32 × xMem)) (hk34 : ∀ (M : xMem) (l0 : Option xId) (l3 : Int32) (o1 : Option xId) (o2 : Int32) (o4 : Option xVal), k34 M l0 l3 = some (r, M') → xrun none 6 106 34 ([some (.inr (.inr l0)), some (.inr (.inr o1)), some (.inl o2), some (.inl l3), o4]) ([]) M (some (.inl r), M')) (M : xMem) (l0 : Option xId) (l3 : Int32)  (o1 : Option xId) (o2 : Int32) (o4 : Int32) (h : fT_read_130 k34 M l0 l3  = some (r, M')) : xrun none 6 106 130 ([some (.inr (.inr l0)), some (.inr (.inr o1)), some (.inl o2), some (.inl l3), some (.inl o4)]) ([]) M (some (.inl r), M') := by
  unfold fT_read_130 at h
  refine xr_iinc (c := 1) (pc' := 133) rfl (by decide) rfl rfl rfl ?_
  refine xr_goto (t := 34) rfl ?_
  exact hk34 M _ _ _ _ _ h
def fT_read_116 (k34 : xMem → Option xId → Int32 → Option (Int32 × xMem)) (M : xMem) (l0 : Option xId) (l3 : Int32)  : Option (Int32 × xMem) :=
  (xob M l0 6).bind fun u26 =>
  (fT_readSign M u26 (59 : Int32)).bind fun q27 =>
  if q27.1 = 0 then (
    (xgI q27.2 l0 6 10).bind fun v28 =>
    some (v28, q27.2))
  else
  fT_read_130 k34 q27.2 l0 l3 
set_option maxRecDepth 20000 in
theorem TfT_read_116 {M' : xMem} {r : Int32} (k34 : xMem → Option xId → Int32 → Option (Int32 × xMem)) (hk34 : ∀ (M : xMem) (l0 : Option xId) (l3 : Int32) (o1 : Option xId) (o2 : Int32) (o4 : Option xVal), k34 M l0 l3 = some (r, M') → xrun none 6 106 34 ([some (.inr (.inr l0)), some (.inr (.inr o1)), some (.inl o2), some (.inl l3), o4]) ([]) M (some (.inl r), M')) (M : xMem) (l0 : Option xId) (l3 : Int32)  (o1 : Option xId) (o2 : Int32) (o4 : Int32) (h : fT_read_116 k34 M l0 l3  = some (r, M')) : xrun none 6 106 116 ([some (.inr (.inr l0)), some (.inr (.inr o1)), some (.inl o2), some (.inl l3), some (.inl o4)]) ([]) M (some (.inl r), M') := by
  unfold fT_read_116 at h
  refine xr_aload_n (pc' := 117) rfl rfl rfl ?_
  refine xr_bipush (v := 59) (pc' := 119) rfl (by decide) rfl ?_
  obtain ⟨u26, hu26, h⟩ := xbind h
  obtain ⟨q27, hq27, h⟩ := xbind h
  refine xr_callV (pc' := 122) (C := 6) (As := [_]) (rest := _) rfl hu26 mC_113 mL_113 rfl (Nat.le_of_ble_eq_true rfl) rfl (Nat.le_of_ble_eq_true rfl) (TfT_readSign _ _ hq27) rfl ?_
  rcases xite h with ⟨hc, h⟩ | ⟨hc, h⟩
  · refine xr_if_ne_f (pc' := 125) rfl hc rfl ?_
    refine xr_aload_n (pc' := 126) rfl rfl rfl ?_
    obtain ⟨v28, hv28, h⟩ := xbind h
    refine xr_getI (pc' := 129) rfl (by decide) hv28 rfl ?_
    obtain ⟨rfl, rfl⟩ := xsome2 h
    exact xr_iret rfl mR_106
  · refine xr_if_ne_t (t := 130) rfl hc ?_
    exact TfT_read_130 _ hk34 q27.2 _ _  _ _ _ h
def fT_read_34  : Nat → xMem → Option xId → Int32 → Option (Int32 × xMem)
  | 0, _, _, _ => none
  | n + 1, M, l0, l3 =>
    (xgI M l0 6 9).bind fun v9 =>
    if v9 ≤ l3 then (
      fT_read_136  M l0 )
    else
    (xgI M l0 6 10).bind fun v10 =>
    (xgI M l0 6 9).bind fun v11 =>
    if v11 ≤ v10 then (
      fT_read_136  M l0 )
    else
    (xgR M l0 6 7).bind fun v12 =>
    (xgI M v12 4 1).bind fun v13 =>
    (xob M l0 6).bind fun u14 =>
    (fT_readBegin M u14 ).bind fun q15 =>
    if q15.1 = 0 then (
      (xgI q15.2 l0 6 10).bind fun v16 =>
      some (v16, q15.2))
    else
    (xgR q15.2 l0 6 7).bind fun v17 =>
    (xgI q15.2 v17 4 1).bind fun v18 =>
    if v18 ≤ v13 then (
      (xob q15.2 l0 6).bind fun u19 =>
      (fT_readCloses q15.2 u19 ).bind fun q20 =>
      (xgI q20 l0 6 10).bind fun v21 =>
      (xgI q20 l0 6 9).bind fun v22 =>
      if v21 < v22 then (
        fT_read_116 (fun M l0 l3 => fT_read_34  n M l0 l3) q20 l0 l3 )
      else
      (xgR q20 l0 6 7).bind fun v23 =>
      (xgI q20 v23 4 1).bind fun v24 =>
      if v24 = 0 then (
        some ((-1 : Int32), q20))
      else
      fT_read_116 (fun M l0 l3 => fT_read_34  n M l0 l3) q20 l0 l3 )
    else
    fT_read_130 (fun M l0 l3 => fT_read_34  n M l0 l3) q15.2 l0 l3 
set_option maxRecDepth 20000 in
theorem TfT_read_34 {M' : xMem} {r : Int32}  : ∀ (n : Nat) (M : xMem) (l0 : Option xId) (l3 : Int32) (o1 : Option xId) (o2 : Int32) (o4 : Option xVal), fT_read_34  n M l0 l3 = some (r, M') → xrun none 6 106 34 ([some (.inr (.inr l0)), some (.inr (.inr o1)), some (.inl o2), some (.inl l3), o4]) ([]) M (some (.inl r), M') := by
  intro n
  induction n with
  | zero => intro M l0 l3 o1 o2 o4 h; unfold fT_read_34 at h; cases h
  | succ n ih =>
    intro M l0 l3 o1 o2 o4 h
    unfold fT_read_34 at h
    refine xr_iload_n (pc' := 35) rfl rfl rfl ?_
    refine xr_aload_n (pc' := 36) rfl rfl rfl ?_
    obtain ⟨v9, hv9, h⟩ := xbind h
    refine xr_getI (pc' := 39) rfl (by decide) hv9 rfl ?_
    rcases xite h with ⟨hc, h⟩ | ⟨hc, h⟩
    · refine xr_icmp_ge_t (t := 136) rfl hc ?_
      exact TfT_read_136   M _  _ _ _ _ h
    · refine xr_icmp_ge_f (pc' := 42) rfl hc rfl ?_
      refine xr_aload_n (pc' := 43) rfl rfl rfl ?_
      obtain ⟨v10, hv10, h⟩ := xbind h
      refine xr_getI (pc' := 46) rfl (by decide) hv10 rfl ?_
      refine xr_aload_n (pc' := 47) rfl rfl rfl ?_
      obtain ⟨v11, hv11, h⟩ := xbind h
      refine xr_getI (pc' := 50) rfl (by decide) hv11 rfl ?_
      rcases xite h with ⟨hc, h⟩ | ⟨hc, h⟩
      · refine xr_icmp_ge_t (t := 136) rfl hc ?_
        exact TfT_read_136   M _  _ _ _ _ h
      · refine xr_icmp_ge_f (pc' := 53) rfl hc rfl ?_
        refine xr_aload_n (pc' := 54) rfl rfl rfl ?_
        obtain ⟨v12, hv12, h⟩ := xbind h
        refine xr_getR (pc' := 57) rfl (by decide) hv12 rfl ?_
        obtain ⟨v13, hv13, h⟩ := xbind h
        refine xr_getI (pc' := 60) rfl (by decide) hv13 rfl ?_
        refine xr_istore (pc' := 62) rfl rfl rfl ?_
        refine xr_aload_n (pc' := 63) rfl rfl rfl ?_
        obtain ⟨u14, hu14, h⟩ := xbind h
        obtain ⟨q15, hq15, h⟩ := xbind h
        refine xr_callV (pc' := 66) (C := 6) (As := []) (rest := _) rfl hu14 mC_107 mL_107 rfl (Nat.le_of_ble_eq_true rfl) rfl (Nat.le_of_ble_eq_true rfl) (TfT_readBegin _  hq15) rfl ?_
        rcases xite h with ⟨hc, h⟩ | ⟨hc, h⟩
        · refine xr_if_ne_f (pc' := 69) rfl hc rfl ?_
          refine xr_aload_n (pc' := 70) rfl rfl rfl ?_
          obtain ⟨v16, hv16, h⟩ := xbind h
          refine xr_getI (pc' := 73) rfl (by decide) hv16 rfl ?_
          obtain ⟨rfl, rfl⟩ := xsome2 h
          exact xr_iret rfl mR_106
        · refine xr_if_ne_t (t := 74) rfl hc ?_
          refine xr_aload_n (pc' := 75) rfl rfl rfl ?_
          obtain ⟨v17, hv17, h⟩ := xbind h
          refine xr_getR (pc' := 78) rfl (by decide) hv17 rfl ?_
          obtain ⟨v18, hv18, h⟩ := xbind h
          refine xr_getI (pc' := 81) rfl (by decide) hv18 rfl ?_
          refine xr_iload (pc' := 83) rfl rfl rfl ?_
          rcases xite h with ⟨hc, h⟩ | ⟨hc, h⟩
          · refine xr_icmp_le_t (t := 89) rfl hc ?_
            refine xr_aload_n (pc' := 90) rfl rfl rfl ?_
            obtain ⟨u19, hu19, h⟩ := xbind h
            obtain ⟨q20, hq20, h⟩ := xbind h
            refine xr_callV (pc' := 93) (C := 6) (As := []) (rest := _) rfl hu19 mC_121 mL_121 rfl (Nat.le_of_ble_eq_true rfl) rfl (Nat.le_of_ble_eq_true rfl) (TfT_readCloses _  hq20) rfl ?_
            refine xr_aload_n (pc' := 94) rfl rfl rfl ?_
            obtain ⟨v21, hv21, h⟩ := xbind h
            refine xr_getI (pc' := 97) rfl (by decide) hv21 rfl ?_
            refine xr_aload_n (pc' := 98) rfl rfl rfl ?_
            obtain ⟨v22, hv22, h⟩ := xbind h
            refine xr_getI (pc' := 101) rfl (by decide) hv22 rfl ?_
            rcases xite h with ⟨hc, h⟩ | ⟨hc, h⟩
            · refine xr_icmp_lt_t (t := 116) rfl hc ?_
              exact TfT_read_116 _ (fun M l0 l3 o1 o2 o4 h => ih M l0 l3 o1 o2 o4 h) q20 _ _  _ _ _ h
            · refine xr_icmp_lt_f (pc' := 104) rfl hc rfl ?_
              refine xr_aload_n (pc' := 105) rfl rfl rfl ?_
              obtain ⟨v23, hv23, h⟩ := xbind h
              refine xr_getR (pc' := 108) rfl (by decide) hv23 rfl ?_
              obtain ⟨v24, hv24, h⟩ := xbind h
              refine xr_getI (pc' := 111) rfl (by decide) hv24 rfl ?_
              rcases xite h with ⟨hc, h⟩ | ⟨hc, h⟩
              · refine xr_if_ne_f (pc' := 114) rfl hc rfl ?_
                refine xr_iconst (v := -1) (pc' := 115) rfl (by decide) rfl ?_
                obtain ⟨rfl, rfl⟩ := xsome2 h
                exact xr_iret rfl mR_106
              · refine xr_if_ne_t (t := 116) rfl hc ?_
                exact TfT_read_116 _ (fun M l0 l3 o1 o2 o4 h => ih M l0 l3 o1 o2 o4 h) q20 _ _  _ _ _ h
          · refine xr_icmp_le_f (pc' := 86) rfl hc rfl ?_
            refine xr_goto (t := 130) rfl ?_
            exact TfT_read_130 _ (fun M l0 l3 o1 o2 o4 h => ih M l0 l3 o1 o2 o4 h) q15.2 _ _  _ _ _ h
def fT_read (M : xMem) (this : xId) (a0 : Option xId) (a1 : Int32) : Option (Int32 × xMem) :=
  (xpR M (some this) 6 8 a0).bind fun M1 =>
  (xal M1 a0).bind fun v2 =>
  (xpI M1 (some this) 6 9 (if v2 < a1 then v2 else a1)).bind fun M3 =>
  (xpI M3 (some this) 6 10 (0 : Int32)).bind fun M4 =>
  (xpI M4 (some this) 6 6 (0 : Int32)).bind fun M5 =>
  (xgR M5 (some this) 6 7).bind fun v6 =>
  (xob M5 v6 4).bind fun u7 =>
  (fP_clear M5 u7 ).bind fun q8 =>
  fT_read_34  xF q8 (some this) (0 : Int32)
set_option maxRecDepth 20000 in
theorem TfT_read {M M' : xMem} {r : Int32} (this : xId) (a0 : Option xId) (a1 : Int32) (h : fT_read M this a0 a1 = some (r, M')) : xrun none 6 106 0 ([some (.inr (.inr (some this))), some (.inr (.inr a0)), some (.inl a1), none, none]) ([]) M (some (.inl r), M') := by
  unfold fT_read at h
  refine xr_aload_n (pc' := 1) rfl rfl rfl ?_
  refine xr_aload_n (pc' := 2) rfl rfl rfl ?_
  obtain ⟨M1, hM1, h⟩ := xbind h
  refine xr_putR (pc' := 5) rfl (by decide) hM1 rfl ?_
  refine xr_aload_n (pc' := 6) rfl rfl rfl ?_
  refine xr_iload_n (pc' := 7) rfl rfl rfl ?_
  refine xr_aload_n (pc' := 8) rfl rfl rfl ?_
  obtain ⟨v2, hv2, h⟩ := xbind h
  refine xr_alen (pc' := 9) rfl hv2 rfl ?_
  refine xr_min (pc' := 12) rfl (Nat.le_of_ble_eq_true rfl) (Nat.le_of_ble_eq_true rfl) rfl ?_
  obtain ⟨M3, hM3, h⟩ := xbind h
  refine xr_putI (pc' := 15) rfl (by decide) hM3 rfl ?_
  refine xr_aload_n (pc' := 16) rfl rfl rfl ?_
  refine xr_iconst (v := 0) (pc' := 17) rfl (by decide) rfl ?_
  obtain ⟨M4, hM4, h⟩ := xbind h
  refine xr_putI (pc' := 20) rfl (by decide) hM4 rfl ?_
  refine xr_aload_n (pc' := 21) rfl rfl rfl ?_
  refine xr_iconst (v := 0) (pc' := 22) rfl (by decide) rfl ?_
  obtain ⟨M5, hM5, h⟩ := xbind h
  refine xr_putI (pc' := 25) rfl (by decide) hM5 rfl ?_
  refine xr_aload_n (pc' := 26) rfl rfl rfl ?_
  obtain ⟨v6, hv6, h⟩ := xbind h
  refine xr_getR (pc' := 29) rfl (by decide) hv6 rfl ?_
  obtain ⟨u7, hu7, h⟩ := xbind h
  obtain ⟨q8, hq8, h⟩ := xbind h
  refine xr_callV (pc' := 32) (C := 4) (As := []) (rest := _) rfl hu7 mC_15 mL_15 rfl (Nat.le_of_ble_eq_true rfl) rfl (Nat.le_of_ble_eq_true rfl) (TfP_clear _  hq8) rfl ?_
  refine xr_iconst (v := 0) (pc' := 33) rfl (by decide) rfl ?_
  refine xr_istore_n (pc' := 34) rfl rfl rfl ?_
  exact TfT_read_34   xF q8 _ _ _ _ _ h
-- 105: MagazineDepot.trace()I
def fX_trace (M : xMem) (this : xId) : Option (Int32 × xMem) :=
  (xgR M (some this) 7 8).bind fun v1 =>
  (xgR M (some this) 7 5).bind fun v2 =>
  (xgI M (some this) 7 6).bind fun v3 =>
  (xob M v1 6).bind fun u4 =>
  (fT_read M u4 v2 v3).bind fun q5 =>
  (xpI q5.2 (some this) 7 6 (0 : Int32)).bind fun M6 =>
  if q5.1 = (-1 : Int32) then (
    (xgR M6 (some this) 7 8).bind fun v7 =>
    (xgR M6 (some this) 7 7).bind fun v8 =>
    (xpR M6 (some this) 7 8 v8).bind fun M9 =>
    (xpR M9 (some this) 7 7 v7).bind fun M10 =>
    (xpZ M10 (some this) 7 9 (1 : Int32)).bind fun M11 =>
    some ((1 : Int32), M11))
  else
  some (((-100 : Int32) - q5.1), M6)
set_option maxRecDepth 20000 in
theorem TfX_trace {M M' : xMem} {r : Int32} (this : xId) (h : fX_trace M this = some (r, M')) : xrun none 7 105 0 ([some (.inr (.inr (some this))), none, none]) ([]) M (some (.inl r), M') := by
  unfold fX_trace at h
  refine xr_aload_n (pc' := 1) rfl rfl rfl ?_
  obtain ⟨v1, hv1, h⟩ := xbind h
  refine xr_getR (pc' := 4) rfl (by decide) hv1 rfl ?_
  refine xr_aload_n (pc' := 5) rfl rfl rfl ?_
  obtain ⟨v2, hv2, h⟩ := xbind h
  refine xr_getR (pc' := 8) rfl (by decide) hv2 rfl ?_
  refine xr_aload_n (pc' := 9) rfl rfl rfl ?_
  obtain ⟨v3, hv3, h⟩ := xbind h
  refine xr_getI (pc' := 12) rfl (by decide) hv3 rfl ?_
  obtain ⟨u4, hu4, h⟩ := xbind h
  obtain ⟨q5, hq5, h⟩ := xbind h
  refine xr_callV (pc' := 15) (C := 6) (As := [_, _]) (rest := _) rfl hu4 mC_106 mL_106 rfl (Nat.le_of_ble_eq_true rfl) rfl (Nat.le_of_ble_eq_true rfl) (TfT_read _ _ _ hq5) rfl ?_
  refine xr_istore_n (pc' := 16) rfl rfl rfl ?_
  refine xr_aload_n (pc' := 17) rfl rfl rfl ?_
  refine xr_iconst (v := 0) (pc' := 18) rfl (by decide) rfl ?_
  obtain ⟨M6, hM6, h⟩ := xbind h
  refine xr_putI (pc' := 21) rfl (by decide) hM6 rfl ?_
  refine xr_iload_n (pc' := 22) rfl rfl rfl ?_
  refine xr_iconst (v := -1) (pc' := 23) rfl (by decide) rfl ?_
  rcases xite h with ⟨hc, h⟩ | ⟨hc, h⟩
  · refine xr_icmp_eq_t (t := 31) rfl hc ?_
    refine xr_aload_n (pc' := 32) rfl rfl rfl ?_
    obtain ⟨v7, hv7, h⟩ := xbind h
    refine xr_getR (pc' := 35) rfl (by decide) hv7 rfl ?_
    refine xr_astore_n (pc' := 36) rfl rfl rfl ?_
    refine xr_aload_n (pc' := 37) rfl rfl rfl ?_
    refine xr_aload_n (pc' := 38) rfl rfl rfl ?_
    obtain ⟨v8, hv8, h⟩ := xbind h
    refine xr_getR (pc' := 41) rfl (by decide) hv8 rfl ?_
    obtain ⟨M9, hM9, h⟩ := xbind h
    refine xr_putR (pc' := 44) rfl (by decide) hM9 rfl ?_
    refine xr_aload_n (pc' := 45) rfl rfl rfl ?_
    refine xr_aload_n (pc' := 46) rfl rfl rfl ?_
    obtain ⟨M10, hM10, h⟩ := xbind h
    refine xr_putR (pc' := 49) rfl (by decide) hM10 rfl ?_
    refine xr_aload_n (pc' := 50) rfl rfl rfl ?_
    refine xr_iconst (v := 1) (pc' := 51) rfl (by decide) rfl ?_
    obtain ⟨M11, hM11, h⟩ := xbind h
    refine xr_putZ (pc' := 54) rfl (by decide) hM11 rfl ?_
    refine xr_iconst (v := 1) (pc' := 55) rfl (by decide) rfl ?_
    obtain ⟨rfl, rfl⟩ := xsome2 h
    exact xr_iret rfl mR_105
  · refine xr_icmp_eq_f (pc' := 26) rfl hc rfl ?_
    refine xr_bipush (v := -100) (pc' := 28) rfl (by decide) rfl ?_
    refine xr_iload_n (pc' := 29) rfl rfl rfl ?_
    refine xr_isub (pc' := 30) rfl rfl ?_
    obtain ⟨rfl, rfl⟩ := xsome2 h
    exact xr_iret rfl mR_105
-- 126: MagazineDepot$Run.step()Z
def fR_step (M : xMem) (this : xId) : Option (Int32 × xMem) :=
  (xgI M (some this) 5 0).bind fun v1 =>
  if v1 < (400 : Int32) then (
    (xgI M (some this) 5 0).bind fun v2 =>
    (xpI M (some this) 5 0 (v2 + (1 : Int32))).bind fun M3 =>
    some ((1 : Int32), M3))
  else
  (xpI M (some this) 5 1 (-6 : Int32)).bind fun M4 =>
  some ((0 : Int32), M4)
set_option maxRecDepth 20000 in
theorem TfR_step {M M' : xMem} {r : Int32} (this : xId) (h : fR_step M this = some (r, M')) : xrun none 0 126 0 ([some (.inr (.inr (some this)))]) ([]) M (some (.inl r), M') := by
  unfold fR_step at h
  refine xr_aload_n (pc' := 1) rfl rfl rfl ?_
  obtain ⟨v1, hv1, h⟩ := xbind h
  refine xr_getI (pc' := 4) rfl (by decide) hv1 rfl ?_
  refine xr_sipush (v := 400) (pc' := 7) rfl (by decide) rfl ?_
  rcases xite h with ⟨hc, h⟩ | ⟨hc, h⟩
  · refine xr_icmp_lt_t (t := 18) rfl hc ?_
    refine xr_aload_n (pc' := 19) rfl rfl rfl ?_
    refine xr_dup_a (pc' := 20) rfl rfl ?_
    obtain ⟨v2, hv2, h⟩ := xbind h
    refine xr_getI (pc' := 23) rfl (by decide) hv2 rfl ?_
    refine xr_iconst (v := 1) (pc' := 24) rfl (by decide) rfl ?_
    refine xr_iadd (pc' := 25) rfl rfl ?_
    obtain ⟨M3, hM3, h⟩ := xbind h
    refine xr_putI (pc' := 28) rfl (by decide) hM3 rfl ?_
    refine xr_iconst (v := 1) (pc' := 29) rfl (by decide) rfl ?_
    obtain ⟨rfl, rfl⟩ := xsome2 h
    exact xr_zret rfl mR_126 (by decide)
  · refine xr_icmp_lt_f (pc' := 10) rfl hc rfl ?_
    refine xr_aload_n (pc' := 11) rfl rfl rfl ?_
    refine xr_bipush (v := -6) (pc' := 13) rfl (by decide) rfl ?_
    obtain ⟨M4, hM4, h⟩ := xbind h
    refine xr_putI (pc' := 16) rfl (by decide) hM4 rfl ?_
    refine xr_iconst (v := 0) (pc' := 17) rfl (by decide) rfl ?_
    obtain ⟨rfl, rfl⟩ := xsome2 h
    exact xr_zret rfl mR_126 (by decide)
