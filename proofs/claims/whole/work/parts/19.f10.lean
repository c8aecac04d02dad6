/-! shallow functions of the methods (by program, out of the bytecode), and that a run is what they say -/
-- 232: MagazineDepotModel.draws(I)V
def fM_draws (M : xMem) (this : xId) (a0 : Int32) : Option xMem :=
  let x1 : Int32 := ((xushr a0 (16 : Int32)) - (xushr a0 (16 : Int32)) / (5 : Int32) * (5 : Int32))
  if x1 = 0 then (
    (xob M (some this) 8).bind fun u2 =>
    (fM_endsInterval M u2 ).bind fun q3 =>
    some q3.2)
  else
  if (3 : Int32) ≤ x1 then (
    (xgI M (some this) 8 13).bind fun v4 =>
    if v4 ≤ 0 then (
      some M)
    else
    (xgI M (some this) 8 13).bind fun v5 =>
    if v5 = 0 then none else
    (xob M (some this) 8).bind fun u6 =>
    (fM_takes M u6 ((xushr a0 (10 : Int32)) - (xushr a0 (10 : Int32)) / v5 * v5) ((xushr a0 (8 : Int32)) &&& (3 : Int32))).bind fun q7 =>
    if 0 ≤ q7.1 then (
      (xgR q7.2 (some this) 8 35).bind fun v8 =>
      (xgI q7.2 (some this) 8 36).bind fun v9 =>
      (xuI q7.2 v8 v9 q7.1).bind fun M10 =>
      (xgI M10 (some this) 8 36).bind fun v11 =>
      (xpI M10 (some this) 8 36 (v11 + (1 : Int32))).bind fun M12 =>
      some M12)
    else
    (xgI q7.2 (some this) 8 37).bind fun v13 =>
    (xpI q7.2 (some this) 8 37 (v13 + (1 : Int32))).bind fun M14 =>
    some M14)
  else
  (xgI M (some this) 8 36).bind fun v15 =>
  if v15 = 0 then (
    some M)
  else
  (xgI M (some this) 8 36).bind fun v16 =>
  (xpI M (some this) 8 36 (v16 - (1 : Int32))).bind fun M17 =>
  (xgR M17 (some this) 8 35).bind fun v18 =>
  (xgI M17 (some this) 8 36).bind fun v19 =>
  (xaI M17 v18 v19).bind fun v20 =>
  (xob M17 (some this) 8).bind fun u21 =>
  (fM_gives M17 u21 v20 ((xushr a0 (8 : Int32)) &&& (3 : Int32))).bind fun q22 =>
  some q22
set_option maxRecDepth 20000 in
theorem TfM_draws {M M' : xMem} (this : xId) (a0 : Int32) (h : fM_draws M this a0 = some M') : xrun none 7 232 0 ([some (.inr (.inr (some this))), some (.inl a0), none, none, none]) ([]) M (none, M') := by
  unfold fM_draws at h
  refine xr_iload_n (pc' := 1) rfl rfl rfl ?_
  refine xr_bipush (v := 8) (pc' := 3) rfl (by decide) rfl ?_
  refine xr_iushr (pc' := 4) rfl rfl ?_
  refine xr_iconst (v := 3) (pc' := 5) rfl (by decide) rfl ?_
  refine xr_iand (pc' := 6) rfl rfl ?_
  refine xr_istore_n (pc' := 7) rfl rfl rfl ?_
  refine xr_iload_n (pc' := 8) rfl rfl rfl ?_
  refine xr_bipush (v := 16) (pc' := 10) rfl (by decide) rfl ?_
  refine xr_iushr (pc' := 11) rfl rfl ?_
  refine xr_iconst (v := 5) (pc' := 12) rfl (by decide) rfl ?_
  refine xr_irem (pc' := 13) rfl (by decide) rfl ?_
  refine xr_istore_n (pc' := 14) rfl rfl rfl ?_
  refine xr_iload_n (pc' := 15) rfl rfl rfl ?_
  rcases xite h with ⟨hc, h⟩ | ⟨hc, h⟩
  · refine xr_if_ne_f (pc' := 18) rfl hc rfl ?_
    refine xr_aload_n (pc' := 19) rfl rfl rfl ?_
    obtain ⟨u2, hu2, h⟩ := xbind h
    obtain ⟨q3, hq3, h⟩ := xbind h
    refine xr_callV (pc' := 22) (C := 8) (As := []) (rest := _) rfl hu2 mC_204 mL_204 rfl (Nat.le_of_ble_eq_true rfl) rfl (Nat.le_of_ble_eq_true rfl) (TfM_endsInterval _  hq3) rfl ?_
    refine xr_pop_i (pc' := 23) rfl rfl ?_
    refine xr_goto (t := 126) rfl ?_
    obtain rfl := xsome1 h
    exact xr_ret rfl mR_232
  · refine xr_if_ne_t (t := 26) rfl hc ?_
    refine xr_iload_n (pc' := 27) rfl rfl rfl ?_
    refine xr_iconst (v := 3) (pc' := 28) rfl (by decide) rfl ?_
    rcases xite h with ⟨hc, h⟩ | ⟨hc, h⟩
    · refine xr_icmp_ge_t (t := 66) rfl hc ?_
      refine xr_aload_n (pc' := 67) rfl rfl rfl ?_
      obtain ⟨v4, hv4, h⟩ := xbind h
      refine xr_getI (pc' := 70) rfl (by decide) hv4 rfl ?_
      rcases xite h with ⟨hc, h⟩ | ⟨hc, h⟩
      · refine xr_if_le_t (t := 126) rfl hc ?_
        obtain rfl := xsome1 h
        exact xr_ret rfl mR_232
      · refine xr_if_le_f (pc' := 73) rfl hc rfl ?_
        refine xr_aload_n (pc' := 74) rfl rfl rfl ?_
        refine xr_iload_n (pc' := 75) rfl rfl rfl ?_
        refine xr_bipush (v := 10) (pc' := 77) rfl (by decide) rfl ?_
        refine xr_iushr (pc' := 78) rfl rfl ?_
        refine xr_aload_n (pc' := 79) rfl rfl rfl ?_
        obtain ⟨v5, hv5, h⟩ := xbind h
        refine xr_getI (pc' := 82) rfl (by decide) hv5 rfl ?_
        rcases xite h with ⟨hc, h⟩ | ⟨hc, h⟩
        · cases h
        refine xr_irem (pc' := 83) rfl hc rfl ?_
        refine xr_iload_n (pc' := 84) rfl rfl rfl ?_
        obtain ⟨u6, hu6, h⟩ := xbind h
        obtain ⟨q7, hq7, h⟩ := xbind h
        refine xr_callV (pc' := 87) (C := 8) (As := [_, _]) (rest := _) rfl hu6 mC_169 mL_169 rfl (Nat.le_of_ble_eq_true rfl) rfl (Nat.le_of_ble_eq_true rfl) (TfM_takes _ _ _ hq7) rfl ?_
        refine xr_istore (pc' := 89) rfl rfl rfl ?_
        refine xr_iload (pc' := 91) rfl rfl rfl ?_
        rcases xite h with ⟨hc, h⟩ | ⟨hc, h⟩
        · refine xr_if_ge_t (t := 105) rfl hc ?_
          refine xr_aload_n (pc' := 106) rfl rfl rfl ?_
          obtain ⟨v8, hv8, h⟩ := xbind h
          refine xr_getR (pc' := 109) rfl (by decide) hv8 rfl ?_
          refine xr_aload_n (pc' := 110) rfl rfl rfl ?_
          obtain ⟨v9, hv9, h⟩ := xbind h
          refine xr_getI (pc' := 113) rfl (by decide) hv9 rfl ?_
          refine xr_iload (pc' := 115) rfl rfl rfl ?_
          obtain ⟨M10, hM10, h⟩ := xbind h
          refine xr_uI (pc' := 116) rfl hM10 rfl ?_
          refine xr_aload_n (pc' := 117) rfl rfl rfl ?_
          refine xr_dup_a (pc' := 118) rfl rfl ?_
          obtain ⟨v11, hv11, h⟩ := xbind h
          refine xr_getI (pc' := 121) rfl (by decide) hv11 rfl ?_
          refine xr_iconst (v := 1) (pc' := 122) rfl (by decide) rfl ?_
          refine xr_iadd (pc' := 123) rfl rfl ?_
          obtain ⟨M12, hM12, h⟩ := xbind h
          refine xr_putI (pc' := 126) rfl (by decide) hM12 rfl ?_
          obtain rfl := xsome1 h
          exact xr_ret rfl mR_232
        · refine xr_if_ge_f (pc' := 94) rfl hc rfl ?_
          refine xr_aload_n (pc' := 95) rfl rfl rfl ?_
          refine xr_dup_a (pc' := 96) rfl rfl ?_
          obtain ⟨v13, hv13, h⟩ := xbind h
          refine xr_getI (pc' := 99) rfl (by decide) hv13 rfl ?_
          refine xr_iconst (v := 1) (pc' := 100) rfl (by decide) rfl ?_
          refine xr_iadd (pc' := 101) rfl rfl ?_
          obtain ⟨M14, hM14, h⟩ := xbind h
          refine xr_putI (pc' := 104) rfl (by decide) hM14 rfl ?_
          obtain rfl := xsome1 h
          exact xr_ret rfl mR_232
    · refine xr_icmp_ge_f (pc' := 31) rfl hc rfl ?_
      refine xr_aload_n (pc' := 32) rfl rfl rfl ?_
      obtain ⟨v15, hv15, h⟩ := xbind h
      refine xr_getI (pc' := 35) rfl (by decide) hv15 rfl ?_
      rcases xite h with ⟨hc, h⟩ | ⟨hc, h⟩
      · refine xr_if_ne_f (pc' := 38) rfl hc rfl ?_
        obtain rfl := xsome1 h
        exact xr_ret rfl mR_232
      · refine xr_if_ne_t (t := 39) rfl hc ?_
        refine xr_aload_n (pc' := 40) rfl rfl rfl ?_
        refine xr_dup_a (pc' := 41) rfl rfl ?_
        obtain ⟨v16, hv16, h⟩ := xbind h
        refine xr_getI (pc' := 44) rfl (by decide) hv16 rfl ?_
        refine xr_iconst (v := 1) (pc' := 45) rfl (by decide) rfl ?_
        refine xr_isub (pc' := 46) rfl rfl ?_
        obtain ⟨M17, hM17, h⟩ := xbind h
        refine xr_putI (pc' := 49) rfl (by decide) hM17 rfl ?_
        refine xr_aload_n (pc' := 50) rfl rfl rfl ?_
        refine xr_aload_n (pc' := 51) rfl rfl rfl ?_
        obtain ⟨v18, hv18, h⟩ := xbind h
        refine xr_getR (pc' := 54) rfl (by decide) hv18 rfl ?_
        refine xr_aload_n (pc' := 55) rfl rfl rfl ?_
        obtain ⟨v19, hv19, h⟩ := xbind h
        refine xr_getI (pc' := 58) rfl (by decide) hv19 rfl ?_
        obtain ⟨v20, hv20, h⟩ := xbind h
        refine xr_aI (pc' := 59) rfl hv20 rfl ?_
        refine xr_iload_n (pc' := 60) rfl rfl rfl ?_
        obtain ⟨u21, hu21, h⟩ := xbind h
        obtain ⟨q22, hq22, h⟩ := xbind h
        refine xr_callV (pc' := 63) (C := 8) (As := [_, _]) (rest := _) rfl hu21 mC_191 mL_191 rfl (Nat.le_of_ble_eq_true rfl) rfl (Nat.le_of_ble_eq_true rfl) (TfM_gives _ _ _ hq22) rfl ?_
        refine xr_goto (t := 126) rfl ?_
        obtain rfl := xsome1 h
        exact xr_ret rfl mR_232
-- 233: MagazineDepotModel.liveNow()I
def fM_liveNow_27 (k4 : xMem → Option xId → Int32 → Int32 → Option (Int32 × xMem)) (M : xMem) (l0 : Option xId) (l2 : Int32) (s0 : Int32) (s1 : Int32) : Option (Int32 × xMem) :=
  k4 M l0 (s0 + s1) (l2 + 1)
set_option maxRecDepth 20000 in
theorem TfM_liveNow_27 {M' : xMem} {r : Int32} (k4 : xMem → Option xId → Int32 → Int32 → Option (Int32 × xMem)) (hk4 : ∀ (M : xMem) (l0 : Option xId) (l1 : Int32) (l2 : Int32) , k4 M l0 l1 l2 = some (r, M') → xrun none 0 233 4 ([some (.inr (.inr l0)), some (.inl l1), some (.inl l2)]) ([]) M (some (.inl r), M')) (M : xMem) (l0 : Option xId) (l2 : Int32) (s0 : Int32) (s1 : Int32) (o1 : Int32) (h : fM_liveNow_27 k4 M l0 l2 s0 s1 = some (r, M')) : xrun none 0 233 27 ([some (.inr (.inr l0)), some (.inl o1), some (.inl l2)]) ([.inl s1, .inl s0]) M (some (.inl r), M') := by
  unfold fM_liveNow_27 at h
  refine xr_iadd (pc' := 28) rfl rfl ?_
  refine xr_istore_n (pc' := 29) rfl rfl rfl ?_
  refine xr_iinc (c := 1) (pc' := 32) rfl (by decide) rfl rfl rfl ?_
  refine xr_goto (t := 4) rfl ?_
  exact hk4 M _ _ _  h
def fM_liveNow_4  : Nat → xMem → Option xId → Int32 → Int32 → Option (Int32 × xMem)
  | 0, _, _, _, _ => none
  | n + 1, M, l0, l1, l2 =>
    if (1984 : Int32) ≤ l2 then (
      some (l1, M))
    else
    (xgR M l0 8 18).bind fun v1 =>
    (xaI M v1 l2).bind fun v2 =>
    if v2 = (1 : Int32) then (
      fM_liveNow_27 (fun M l0 l1 l2 => fM_liveNow_4  n M l0 l1 l2) M l0 l2 l1 (1 : Int32))
    else
    fM_liveNow_27 (fun M l0 l1 l2 => fM_liveNow_4  n M l0 l1 l2) M l0 l2 l1 (0 : Int32)
set_option maxRecDepth 20000 in
theorem TfM_liveNow_4 {M' : xMem} {r : Int32}  : ∀ (n : Nat) (M : xMem) (l0 : Option xId) (l1 : Int32) (l2 : Int32) , fM_liveNow_4  n M l0 l1 l2 = some (r, M') → xrun none 0 233 4 ([some (.inr (.inr l0)), some (.inl l1), some (.inl l2)]) ([]) M (some (.inl r), M') := by
  intro n
  induction n with
  | zero => intro M l0 l1 l2  h; unfold fM_liveNow_4 at h; cases h
  | succ n ih =>
    intro M l0 l1 l2  h
    unfold fM_liveNow_4 at h
    refine xr_iload_n (pc' := 5) rfl rfl rfl ?_
    refine xr_sipush (v := 1984) (pc' := 8) rfl (by decide) rfl ?_
    rcases xite h with ⟨hc, h⟩ | ⟨hc, h⟩
    · refine xr_icmp_ge_t (t := 35) rfl hc ?_
      refine xr_iload_n (pc' := 36) rfl rfl rfl ?_
      obtain ⟨rfl, rfl⟩ := xsome2 h
      exact xr_iret rfl mR_233
    · refine xr_icmp_ge_f (pc' := 11) rfl hc rfl ?_
      refine xr_iload_n (pc' := 12) rfl rfl rfl ?_
      refine xr_aload_n (pc' := 13) rfl rfl rfl ?_
      obtain ⟨v1, hv1, h⟩ := xbind h
      refine xr_getR (pc' := 16) rfl (by decide) hv1 rfl ?_
      refine xr_iload_n (pc' := 17) rfl rfl rfl ?_
      obtain ⟨v2, hv2, h⟩ := xbind h
      refine xr_aI (pc' := 18) rfl hv2 rfl ?_
      refine xr_iconst (v := 1) (pc' := 19) rfl (by decide) rfl ?_
      rcases xite h with ⟨hc, h⟩ | ⟨hc, h⟩
      · refine xr_icmp_ne_f (pc' := 22) rfl hc rfl ?_
        refine xr_iconst (v := 1) (pc' := 23) rfl (by decide) rfl ?_
        refine xr_goto (t := 27) rfl ?_
        exact TfM_liveNow_27 _ (fun M l0 l1 l2  h => ih M l0 l1 l2  h) M _ _ _ _ _ h
      · refine xr_icmp_ne_t (t := 26) rfl hc ?_
        refine xr_iconst (v := 0) (pc' := 27) rfl (by decide) rfl ?_
        exact TfM_liveNow_27 _ (fun M l0 l1 l2  h => ih M l0 l1 l2  h) M _ _ _ _ _ h
def fM_liveNow (M : xMem) (this : xId) : Option (Int32 × xMem) :=
  fM_liveNow_4  xF M (some this) (0 : Int32) (0 : Int32)
set_option maxRecDepth 20000 in
theorem TfM_liveNow {M M' : xMem} {r : Int32} (this : xId) (h : fM_liveNow M this = some (r, M')) : xrun none 0 233 0 ([some (.inr (.inr (some this))), none, none]) ([]) M (some (.inl r), M') := by
  unfold fM_liveNow at h
  refine xr_iconst (v := 0) (pc' := 1) rfl (by decide) rfl ?_
  refine xr_istore_n (pc' := 2) rfl rfl rfl ?_
  refine xr_iconst (v := 0) (pc' := 3) rfl (by decide) rfl ?_
  refine xr_istore_n (pc' := 4) rfl rfl rfl ?_
  exact TfM_liveNow_4   xF M _ _ _  h
-- 231: MagazineDepotModel.drawn(III)I
def fM_drawn_48  : Nat → xMem → Option xId → Int32 → Int32 → Int32 → Int32 → Int32 → Option (Int32 × xMem)
  | 0, _, _, _, _, _, _, _ => none
  | n + 1, M, l0, l2, l3, l4, l5, l6 =>
    if l2 ≤ l6 then (
      (xob M l0 8).bind fun u8 =>
      (fM_manyMade M u8 ).bind fun q9 =>
      (xob q9.2 l0 8).bind fun u10 =>
      (fM_liveNow q9.2 u10 ).bind fun q11 =>
      (xob q11.2 l0 8).bind fun u12 =>
      (fM_forgets q11.2 u12 ).bind fun q13 =>
      if l3 = 0 then (
        (xgI q13 l0 8 15).bind fun v14 =>
        some ((v14 - l5), q13))
      else
      if l3 = (1 : Int32) then (
        some (q9.1, q13))
      else
      if l3 = (2 : Int32) then (
        (xgI q13 l0 8 37).bind fun v15 =>
        some (v15, q13))
      else
      some (q11.1, q13))
    else
    (xob M l0 8).bind fun u16 =>
    (fM_draws M u16 ((l4 * (1103515245 : Int32)) + (12345 : Int32))).bind fun q17 =>
    fM_drawn_48  n q17 l0 l2 l3 ((l4 * (1103515245 : Int32)) + (12345 : Int32)) l5 (l6 + 1)
set_option maxRecDepth 20000 in
theorem TfM_drawn_48 {M' : xMem} {r : Int32}  : ∀ (n : Nat) (M : xMem) (l0 : Option xId) (l2 : Int32) (l3 : Int32) (l4 : Int32) (l5 : Int32) (l6 : Int32) (o1 : Int32) (o7 : Option xVal), fM_drawn_48  n M l0 l2 l3 l4 l5 l6 = some (r, M') → xrun none 8 231 48 ([some (.inr (.inr l0)), some (.inl o1), some (.inl l2), some (.inl l3), some (.inl l4), some (.inl l5), some (.inl l6), o7]) ([]) M (some (.inl r), M') := by
  intro n
  induction n with
  | zero => intro M l0 l2 l3 l4 l5 l6 o1 o7 h; unfold fM_drawn_48 at h; cases h
  | succ n ih =>
    intro M l0 l2 l3 l4 l5 l6 o1 o7 h
    unfold fM_drawn_48 at h
    refine xr_iload (pc' := 50) rfl rfl rfl ?_
    refine xr_iload_n (pc' := 51) rfl rfl rfl ?_
    rcases xite h with ⟨hc, h⟩ | ⟨hc, h⟩
    · refine xr_icmp_ge_t (t := 78) rfl hc ?_
      refine xr_aload_n (pc' := 79) rfl rfl rfl ?_
      obtain ⟨u8, hu8, h⟩ := xbind h
      obtain ⟨q9, hq9, h⟩ := xbind h
      refine xr_callV (pc' := 82) (C := 8) (As := []) (rest := _) rfl hu8 mC_205 mL_205 rfl (Nat.le_of_ble_eq_true rfl) rfl (Nat.le_of_ble_eq_true rfl) (TfM_manyMade _  hq9) rfl ?_
      refine xr_istore (pc' := 84) rfl rfl rfl ?_
      refine xr_aload_n (pc' := 85) rfl rfl rfl ?_
      obtain ⟨u10, hu10, h⟩ := xbind h
      obtain ⟨q11, hq11, h⟩ := xbind h
      refine xr_callV (pc' := 88) (C := 8) (As := []) (rest := _) rfl hu10 mC_233 mL_233 rfl (Nat.le_of_ble_eq_true rfl) rfl (Nat.le_of_ble_eq_true rfl) (TfM_liveNow _  hq11) rfl ?_
      refine xr_istore (pc' := 90) rfl rfl rfl ?_
      refine xr_aload_n (pc' := 91) rfl rfl rfl ?_
      obtain ⟨u12, hu12, h⟩ := xbind h
      obtain ⟨q13, hq13, h⟩ := xbind h
      refine xr_callV (pc' := 94) (C := 8) (As := []) (rest := _) rfl hu12 mC_229 mL_229 rfl (Nat.le_of_ble_eq_true rfl) rfl (Nat.le_of_ble_eq_true rfl) (TfM_forgets _  hq13) rfl ?_
      refine xr_iload_n (pc' := 95) rfl rfl rfl ?_
      rcases xite h with ⟨hc, h⟩ | ⟨hc, h⟩
      · refine xr_if_ne_f (pc' := 98) rfl hc rfl ?_
        refine xr_aload_n (pc' := 99) rfl rfl rfl ?_
        obtain ⟨v14, hv14, h⟩ := xbind h
        refine xr_getI (pc' := 102) rfl (by decide) hv14 rfl ?_
        refine xr_iload (pc' := 104) rfl rfl rfl ?_
        refine xr_isub (pc' := 105) rfl rfl ?_
        refine xr_goto (t := 132) rfl ?_
        obtain ⟨rfl, rfl⟩ := xsome2 h
        exact xr_iret rfl mR_231
      · refine xr_if_ne_t (t := 108) rfl hc ?_
        refine xr_iload_n (pc' := 109) rfl rfl rfl ?_
        refine xr_iconst (v := 1) (pc' := 110) rfl (by decide) rfl ?_
        rcases xite h with ⟨hc, h⟩ | ⟨hc, h⟩
        · refine xr_icmp_ne_f (pc' := 113) rfl hc rfl ?_
          refine xr_iload (pc' := 115) rfl rfl rfl ?_
          refine xr_goto (t := 132) rfl ?_
          obtain ⟨rfl, rfl⟩ := xsome2 h
          exact xr_iret rfl mR_231
        · refine xr_icmp_ne_t (t := 118) rfl hc ?_
          refine xr_iload_n (pc' := 119) rfl rfl rfl ?_
          refine xr_iconst (v := 2) (pc' := 120) rfl (by decide) rfl ?_
          rcases xite h with ⟨hc, h⟩ | ⟨hc, h⟩
          · refine xr_icmp_ne_f (pc' := 123) rfl hc rfl ?_
            refine xr_aload_n (pc' := 124) rfl rfl rfl ?_
            obtain ⟨v15, hv15, h⟩ := xbind h
            refine xr_getI (pc' := 127) rfl (by decide) hv15 rfl ?_
            refine xr_goto (t := 132) rfl ?_
            obtain ⟨rfl, rfl⟩ := xsome2 h
            exact xr_iret rfl mR_231
          · refine xr_icmp_ne_t (t := 130) rfl hc ?_
            refine xr_iload (pc' := 132) rfl rfl rfl ?_
            obtain ⟨rfl, rfl⟩ := xsome2 h
            exact xr_iret rfl mR_231
    · refine xr_icmp_ge_f (pc' := 54) rfl hc rfl ?_
      refine xr_iload (pc' := 56) rfl rfl rfl ?_
      refine xr_ldc_w (v := 1103515245) (pc' := 59) rfl (by decide) rfl ?_
      refine xr_imul (pc' := 60) rfl rfl ?_
      refine xr_sipush (v := 12345) (pc' := 63) rfl (by decide) rfl ?_
      refine xr_iadd (pc' := 64) rfl rfl ?_
      refine xr_istore (pc' := 66) rfl rfl rfl ?_
      refine xr_aload_n (pc' := 67) rfl rfl rfl ?_
      refine xr_iload (pc' := 69) rfl rfl rfl ?_
      obtain ⟨u16, hu16, h⟩ := xbind h
      obtain ⟨q17, hq17, h⟩ := xbind h
      refine xr_callV (pc' := 72) (C := 8) (As := [_]) (rest := _) rfl hu16 mC_232 mL_232 rfl (Nat.le_of_ble_eq_true rfl) rfl (Nat.le_of_ble_eq_true rfl) (TfM_draws _ _ hq17) rfl ?_
      refine xr_iinc (c := 1) (pc' := 75) rfl (by decide) rfl rfl rfl ?_
      refine xr_goto (t := 48) rfl ?_
      exact ih q17 _ _ _ _ _ _ _ _ h
def fM_drawn (M : xMem) (this : xId) (a0 : Int32) (a1 : Int32) (a2 : Int32) : Option (Int32 × xMem) :=
  (fM_isIn M a1 (1 : Int32) (400 : Int32)).bind fun q1 =>
  if q1.1 = 0 then (
    some ((-1 : Int32), q1.2))
  else
  (fM_isIn q1.2 a2 (0 : Int32) (3 : Int32)).bind fun q2 =>
  if q2.1 = 0 then (
    some ((-1 : Int32), q2.2))
  else
  (xob q2.2 (some this) 8).bind fun u3 =>
  (fM_thinks q2.2 u3 ).bind fun q4 =>
  (xgI q4 (some this) 8 15).bind fun v5 =>
  (xpI q4 (some this) 8 36 (0 : Int32)).bind fun M6 =>
  (xpI M6 (some this) 8 37 (0 : Int32)).bind fun M7 =>
  fM_drawn_48  xF M7 (some this) a1 a2 a0 v5 (0 : Int32)
set_option maxRecDepth 20000 in
theorem TfM_drawn {M M' : xMem} {r : Int32} (this : xId) (a0 : Int32) (a1 : Int32) (a2 : Int32) (h : fM_drawn M this a0 a1 a2 = some (r, M')) : xrun none 8 231 0 ([some (.inr (.inr (some this))), some (.inl a0), some (.inl a1), some (.inl a2), none, none, none, none]) ([]) M (some (.inl r), M') := by
  unfold fM_drawn at h
  refine xr_iload_n (pc' := 1) rfl rfl rfl ?_
  refine xr_iconst (v := 1) (pc' := 2) rfl (by decide) rfl ?_
  refine xr_sipush (v := 400) (pc' := 5) rfl (by decide) rfl ?_
  obtain ⟨q1, hq1, h⟩ := xbind h
  refine xr_callS (pc' := 8) (As := [_, _, _]) (rest := _) rfl (by decide) mL_163 rfl (Nat.le_of_ble_eq_true rfl) rfl (Nat.le_of_ble_eq_true rfl) (TfM_isIn _ _ _ hq1) rfl ?_
  rcases xite h with ⟨hc, h⟩ | ⟨hc, h⟩
  · refine xr_if_eq_t (t := 20) rfl hc ?_
    refine xr_iconst (v := -1) (pc' := 21) rfl (by decide) rfl ?_
    obtain ⟨rfl, rfl⟩ := xsome2 h
    exact xr_iret rfl mR_231
  · refine xr_if_eq_f (pc' := 11) rfl hc rfl ?_
    refine xr_iload_n (pc' := 12) rfl rfl rfl ?_
    refine xr_iconst (v := 0) (pc' := 13) rfl (by decide) rfl ?_
    refine xr_iconst (v := 3) (pc' := 14) rfl (by decide) rfl ?_
    obtain ⟨q2, hq2, h⟩ := xbind h
    refine xr_callS (pc' := 17) (As := [_, _, _]) (rest := _) rfl (by decide) mL_163 rfl (Nat.le_of_ble_eq_true rfl) rfl (Nat.le_of_ble_eq_true rfl) (TfM_isIn _ _ _ hq2) rfl ?_
    rcases xite h with ⟨hc, h⟩ | ⟨hc, h⟩
    · refine xr_if_ne_f (pc' := 20) rfl hc rfl ?_
      refine xr_iconst (v := -1) (pc' := 21) rfl (by decide) rfl ?_
      obtain ⟨rfl, rfl⟩ := xsome2 h
      exact xr_iret rfl mR_231
    · refine xr_if_ne_t (t := 22) rfl hc ?_
      refine xr_aload_n (pc' := 23) rfl rfl rfl ?_
      obtain ⟨u3, hu3, h⟩ := xbind h
      obtain ⟨q4, hq4, h⟩ := xbind h
      refine xr_callV (pc' := 26) (C := 8) (As := []) (rest := _) rfl hu3 mC_228 mL_228 rfl (Nat.le_of_ble_eq_true rfl) rfl (Nat.le_of_ble_eq_true rfl) (TfM_thinks _  hq4) rfl ?_
      refine xr_iload_n (pc' := 27) rfl rfl rfl ?_
      refine xr_istore (pc' := 29) rfl rfl rfl ?_
      refine xr_aload_n (pc' := 30) rfl rfl rfl ?_
      obtain ⟨v5, hv5, h⟩ := xbind h
      refine xr_getI (pc' := 33) rfl (by decide) hv5 rfl ?_
      refine xr_istore (pc' := 35) rfl rfl rfl ?_
      refine xr_aload_n (pc' := 36) rfl rfl rfl ?_
      refine xr_iconst (v := 0) (pc' := 37) rfl (by decide) rfl ?_
      obtain ⟨M6, hM6, h⟩ := xbind h
      refine xr_putI (pc' := 40) rfl (by decide) hM6 rfl ?_
      refine xr_aload_n (pc' := 41) rfl rfl rfl ?_
      refine xr_iconst (v := 0) (pc' := 42) rfl (by decide) rfl ?_
      obtain ⟨M7, hM7, h⟩ := xbind h
      refine xr_putI (pc' := 45) rfl (by decide) hM7 rfl ?_
      refine xr_iconst (v := 0) (pc' := 46) rfl (by decide) rfl ?_
      refine xr_istore (pc' := 48) rfl rfl rfl ?_
      exact TfM_drawn_48   xF M7 _ _ _ _ _ _ _ _ h
-- 234: MagazineDepotModel.feed(I)I
def fM_feed (M : xMem) (this : xId) (a0 : Int32) : Option (Int32 × xMem) :=
  (fM_isIn M a0 (0 : Int32) (255 : Int32)).bind fun q1 =>
  if q1.1 = 0 then (
    some ((-1 : Int32), q1.2))
  else
  (xgI q1.2 (some this) 8 42).bind fun v2 =>
  if v2 = (100 : Int32) then (
    some ((-3 : Int32), q1.2))
  else
  (xgR q1.2 (some this) 8 38).bind fun v3 =>
  (xgI q1.2 (some this) 8 42).bind fun v4 =>
  (xuI q1.2 v3 v4 a0).bind fun M5 =>
  (xgI M5 (some this) 8 42).bind fun v6 =>
  (xpI M5 (some this) 8 42 (v6 + (1 : Int32))).bind fun M7 =>
  (xgI M7 (some this) 8 42).bind fun v8 =>
  some (v8, M7)
set_option maxRecDepth 20000 in
theorem TfM_feed {M M' : xMem} {r : Int32} (this : xId) (a0 : Int32) (h : fM_feed M this a0 = some (r, M')) : xrun none 1 234 0 ([some (.inr (.inr (some this))), some (.inl a0)]) ([]) M (some (.inl r), M') := by
  unfold fM_feed at h
  refine xr_iload_n (pc' := 1) rfl rfl rfl ?_
  refine xr_iconst (v := 0) (pc' := 2) rfl (by decide) rfl ?_
  refine xr_sipush (v := 255) (pc' := 5) rfl (by decide) rfl ?_
  obtain ⟨q1, hq1, h⟩ := xbind h
  refine xr_callS (pc' := 8) (As := [_, _, _]) (rest := _) rfl (by decide) mL_163 rfl (Nat.le_of_ble_eq_true rfl) rfl (Nat.le_of_ble_eq_true rfl) (TfM_isIn _ _ _ hq1) rfl ?_
  rcases xite h with ⟨hc, h⟩ | ⟨hc, h⟩
  · refine xr_if_ne_f (pc' := 11) rfl hc rfl ?_
    refine xr_iconst (v := -1) (pc' := 12) rfl (by decide) rfl ?_
    obtain ⟨rfl, rfl⟩ := xsome2 h
    exact xr_iret rfl mR_234
  · refine xr_if_ne_t (t := 13) rfl hc ?_
    refine xr_aload_n (pc' := 14) rfl rfl rfl ?_
    obtain ⟨v2, hv2, h⟩ := xbind h
    refine xr_getI (pc' := 17) rfl (by decide) hv2 rfl ?_
    refine xr_bipush (v := 100) (pc' := 19) rfl (by decide) rfl ?_
    rcases xite h with ⟨hc, h⟩ | ⟨hc, h⟩
    · refine xr_icmp_ne_f (pc' := 22) rfl hc rfl ?_
      refine xr_bipush (v := -3) (pc' := 24) rfl (by decide) rfl ?_
      obtain ⟨rfl, rfl⟩ := xsome2 h
      exact xr_iret rfl mR_234
    · refine xr_icmp_ne_t (t := 25) rfl hc ?_
      refine xr_aload_n (pc' := 26) rfl rfl rfl ?_
      obtain ⟨v3, hv3, h⟩ := xbind h
      refine xr_getR (pc' := 29) rfl (by decide) hv3 rfl ?_
      refine xr_aload_n (pc' := 30) rfl rfl rfl ?_
      obtain ⟨v4, hv4, h⟩ := xbind h
      refine xr_getI (pc' := 33) rfl (by decide) hv4 rfl ?_
      refine xr_iload_n (pc' := 34) rfl rfl rfl ?_
      obtain ⟨M5, hM5, h⟩ := xbind h
      refine xr_uI (pc' := 35) rfl hM5 rfl ?_
      refine xr_aload_n (pc' := 36) rfl rfl rfl ?_
      refine xr_dup_a (pc' := 37) rfl rfl ?_
      obtain ⟨v6, hv6, h⟩ := xbind h
      refine xr_getI (pc' := 40) rfl (by decide) hv6 rfl ?_
      refine xr_iconst (v := 1) (pc' := 41) rfl (by decide) rfl ?_
      refine xr_iadd (pc' := 42) rfl rfl ?_
      obtain ⟨M7, hM7, h⟩ := xbind h
      refine xr_putI (pc' := 45) rfl (by decide) hM7 rfl ?_
      refine xr_aload_n (pc' := 46) rfl rfl rfl ?_
      obtain ⟨v8, hv8, h⟩ := xbind h
      refine xr_getI (pc' := 49) rfl (by decide) hv8 rfl ?_
      obtain ⟨rfl, rfl⟩ := xsome2 h
      exact xr_iret rfl mR_234
-- 238: MagazineDepotModel.signOf()I
def fM_signOf (M : xMem) (this : xId) : Option (Int32 × xMem) :=
  (xgI M (some this) 8 44).bind fun v1 =>
  (xgI M (some this) 8 42).bind fun v2 =>
  if v2 ≤ v1 then (
    some ((-1 : Int32), M))
  else
  (xgR M (some this) 8 38).bind fun v3 =>
  (xgI M (some this) 8 44).bind fun v4 =>
  (xaI M v3 v4).bind fun v5 =>
  some (v5, M)
set_option maxRecDepth 20000 in
theorem TfM_signOf {M M' : xMem} {r : Int32} (this : xId) (h : fM_signOf M this = some (r, M')) : xrun none 0 238 0 ([some (.inr (.inr (some this)))]) ([]) M (some (.inl r), M') := by
  unfold fM_signOf at h
  refine xr_aload_n (pc' := 1) rfl rfl rfl ?_
  obtain ⟨v1, hv1, h⟩ := xbind h
  refine xr_getI (pc' := 4) rfl (by decide) hv1 rfl ?_
  refine xr_aload_n (pc' := 5) rfl rfl rfl ?_
  obtain ⟨v2, hv2, h⟩ := xbind h
  refine xr_getI (pc' := 8) rfl (by decide) hv2 rfl ?_
  rcases xite h with ⟨hc, h⟩ | ⟨hc, h⟩
  · refine xr_icmp_ge_t (t := 23) rfl hc ?_
    refine xr_iconst (v := -1) (pc' := 24) rfl (by decide) rfl ?_
    obtain ⟨rfl, rfl⟩ := xsome2 h
    exact xr_iret rfl mR_238
  · refine xr_icmp_ge_f (pc' := 11) rfl hc rfl ?_
    refine xr_aload_n (pc' := 12) rfl rfl rfl ?_
    obtain ⟨v3, hv3, h⟩ := xbind h
    refine xr_getR (pc' := 15) rfl (by decide) hv3 rfl ?_
    refine xr_aload_n (pc' := 16) rfl rfl rfl ?_
    obtain ⟨v4, hv4, h⟩ := xbind h
    refine xr_getI (pc' := 19) rfl (by decide) hv4 rfl ?_
    obtain ⟨v5, hv5, h⟩ := xbind h
    refine xr_aI (pc' := 20) rfl hv5 rfl ?_
    refine xr_goto (t := 24) rfl ?_
    obtain ⟨rfl, rfl⟩ := xsome2 h
    exact xr_iret rfl mR_238
-- 240: MagazineDepotModel.reads(II)Z
def fM_reads (M : xMem) (this : xId) (a0 : Int32) (a1 : Int32) : Option (Int32 × xMem) :=
  (xob M (some this) 8).bind fun u1 =>
  (fM_signOf M u1 ).bind fun q2 =>
  (fM_isIn q2.2 q2.1 a0 a1).bind fun q3 =>
  if q3.1 = 0 then (
    some ((0 : Int32), q3.2))
  else
  (xgI q3.2 (some this) 8 44).bind fun v4 =>
  (xpI q3.2 (some this) 8 44 (v4 + (1 : Int32))).bind fun M5 =>
  some ((1 : Int32), M5)
set_option maxRecDepth 20000 in
theorem TfM_reads {M M' : xMem} {r : Int32} (this : xId) (a0 : Int32) (a1 : Int32) (h : fM_reads M this a0 a1 = some (r, M')) : xrun none 1 240 0 ([some (.inr (.inr (some this))), some (.inl a0), some (.inl a1)]) ([]) M (some (.inl r), M') := by
  unfold fM_reads at h
  refine xr_aload_n (pc' := 1) rfl rfl rfl ?_
  obtain ⟨u1, hu1, h⟩ := xbind h
  obtain ⟨q2, hq2, h⟩ := xbind h
  refine xr_callV (pc' := 4) (C := 8) (As := []) (rest := _) rfl hu1 mC_238 mL_238 rfl (Nat.le_of_ble_eq_true rfl) rfl (Nat.le_of_ble_eq_true rfl) (TfM_signOf _  hq2) rfl ?_
  refine xr_iload_n (pc' := 5) rfl rfl rfl ?_
  refine xr_iload_n (pc' := 6) rfl rfl rfl ?_
  obtain ⟨q3, hq3, h⟩ := xbind h
  refine xr_callS (pc' := 9) (As := [_, _, _]) (rest := _) rfl (by decide) mL_163 rfl (Nat.le_of_ble_eq_true rfl) rfl (Nat.le_of_ble_eq_true rfl) (TfM_isIn _ _ _ hq3) rfl ?_
  rcases xite h with ⟨hc, h⟩ | ⟨hc, h⟩
  · refine xr_if_ne_f (pc' := 12) rfl hc rfl ?_
    refine xr_iconst (v := 0) (pc' := 13) rfl (by decide) rfl ?_
    obtain ⟨rfl, rfl⟩ := xsome2 h
    exact xr_zret rfl mR_240 (by decide)
  · refine xr_if_ne_t (t := 14) rfl hc ?_
    refine xr_aload_n (pc' := 15) rfl rfl rfl ?_
    refine xr_dup_a (pc' := 16) rfl rfl ?_
    obtain ⟨v4, hv4, h⟩ := xbind h
    refine xr_getI (pc' := 19) rfl (by decide) hv4 rfl ?_
    refine xr_iconst (v := 1) (pc' := 20) rfl (by decide) rfl ?_
    refine xr_iadd (pc' := 21) rfl rfl ?_
    obtain ⟨M5, hM5, h⟩ := xbind h
    refine xr_putI (pc' := 24) rfl (by decide) hM5 rfl ?_
    refine xr_iconst (v := 1) (pc' := 25) rfl (by decide) rfl ?_
    obtain ⟨rfl, rfl⟩ := xsome2 h
    exact xr_zret rfl mR_240 (by decide)
-- 239: MagazineDepotModel.readsNumber()Z
def fM_readsNumber (M : xMem) (this : xId) : Option (Int32 × xMem) :=
  (xob M (some this) 8).bind fun u1 =>
  (fM_reads M u1 (48 : Int32) (57 : Int32)).bind fun q2 =>
  if q2.1 = 0 then (
    some ((0 : Int32), q2.2))
  else
  (xob q2.2 (some this) 8).bind fun u3 =>
  (fM_reads q2.2 u3 (48 : Int32) (57 : Int32)).bind fun q4 =>
  if q4.1 = 0 then (
    some ((1 : Int32), q4.2))
  else
  (xob q4.2 (some this) 8).bind fun u5 =>
  (fM_reads q4.2 u5 (48 : Int32) (57 : Int32)).bind fun q6 =>
  some ((1 : Int32), q6.2)
set_option maxRecDepth 20000 in
theorem TfM_readsNumber {M M' : xMem} {r : Int32} (this : xId) (h : fM_readsNumber M this = some (r, M')) : xrun none 2 239 0 ([some (.inr (.inr (some this)))]) ([]) M (some (.inl r), M') := by
  unfold fM_readsNumber at h
  refine xr_aload_n (pc' := 1) rfl rfl rfl ?_
  refine xr_bipush (v := 48) (pc' := 3) rfl (by decide) rfl ?_
  refine xr_bipush (v := 57) (pc' := 5) rfl (by decide) rfl ?_
  obtain ⟨u1, hu1, h⟩ := xbind h
  obtain ⟨q2, hq2, h⟩ := xbind h
  refine xr_callV (pc' := 8) (C := 8) (As := [_, _]) (rest := _) rfl hu1 mC_240 mL_240 rfl (Nat.le_of_ble_eq_true rfl) rfl (Nat.le_of_ble_eq_true rfl) (TfM_reads _ _ _ hq2) rfl ?_
  rcases xite h with ⟨hc, h⟩ | ⟨hc, h⟩
  · refine xr_if_ne_f (pc' := 11) rfl hc rfl ?_
    refine xr_iconst (v := 0) (pc' := 12) rfl (by decide) rfl ?_
    obtain ⟨rfl, rfl⟩ := xsome2 h
    exact xr_zret rfl mR_239 (by decide)
  · refine xr_if_ne_t (t := 13) rfl hc ?_
    refine xr_aload_n (pc' := 14) rfl rfl rfl ?_
    refine xr_bipush (v := 48) (pc' := 16) rfl (by decide) rfl ?_
    refine xr_bipush (v := 57) (pc' := 18) rfl (by decide) rfl ?_
    obtain ⟨u3, hu3, h⟩ := xbind h
    obtain ⟨q4, hq4, h⟩ := xbind h
    refine xr_callV (pc' := 21) (C := 8) (As := [_, _]) (rest := _) rfl hu3 mC_240 mL_240 rfl (Nat.le_of_ble_eq_true rfl) rfl (Nat.le_of_ble_eq_true rfl) (TfM_reads _ _ _ hq4) rfl ?_
    rcases xite h with ⟨hc, h⟩ | ⟨hc, h⟩
    · refine xr_if_eq_t (t := 33) rfl hc ?_
      refine xr_iconst (v := 1) (pc' := 34) rfl (by decide) rfl ?_
      obtain ⟨rfl, rfl⟩ := xsome2 h
      exact xr_zret rfl mR_239 (by decide)
    · refine xr_if_eq_f (pc' := 24) rfl hc rfl ?_
      refine xr_aload_n (pc' := 25) rfl rfl rfl ?_
      refine xr_bipush (v := 48) (pc' := 27) rfl (by decide) rfl ?_
      refine xr_bipush (v := 57) (pc' := 29) rfl (by decide) rfl ?_
      obtain ⟨u5, hu5, h⟩ := xbind h
      obtain ⟨q6, hq6, h⟩ := xbind h
      refine xr_callV (pc' := 32) (C := 8) (As := [_, _]) (rest := _) rfl hu5 mC_240 mL_240 rfl (Nat.le_of_ble_eq_true rfl) rfl (Nat.le_of_ble_eq_true rfl) (TfM_reads _ _ _ hq6) rfl ?_
      refine xr_pop_i (pc' := 33) rfl rfl ?_
      refine xr_iconst (v := 1) (pc' := 34) rfl (by decide) rfl ?_
      obtain ⟨rfl, rfl⟩ := xsome2 h
      exact xr_zret rfl mR_239 (by decide)
-- 241: MagazineDepotModel.opens()Z
def fM_opens (M : xMem) (this : xId) : Option (Int32 × xMem) :=
  (xgI M (some this) 8 45).bind fun v1 =>
  if v1 = (5 : Int32) then (
    some ((0 : Int32), M))
  else
  (xob M (some this) 8).bind fun u2 =>
  (fM_reads M u2 (40 : Int32) (40 : Int32)).bind fun q3 =>
  if q3.1 = 0 then (
    some ((0 : Int32), q3.2))
  else
  (xgI q3.2 (some this) 8 45).bind fun v4 =>
  (xpI q3.2 (some this) 8 45 (v4 + (1 : Int32))).bind fun M5 =>
  some ((1 : Int32), M5)
set_option maxRecDepth 20000 in
theorem TfM_opens {M M' : xMem} {r : Int32} (this : xId) (h : fM_opens M this = some (r, M')) : xrun none 2 241 0 ([some (.inr (.inr (some this)))]) ([]) M (some (.inl r), M') := by
  unfold fM_opens at h
  refine xr_aload_n (pc' := 1) rfl rfl rfl ?_
  obtain ⟨v1, hv1, h⟩ := xbind h
  refine xr_getI (pc' := 4) rfl (by decide) hv1 rfl ?_
  refine xr_iconst (v := 5) (pc' := 5) rfl (by decide) rfl ?_
  rcases xite h with ⟨hc, h⟩ | ⟨hc, h⟩
  · refine xr_icmp_eq_t (t := 19) rfl hc ?_
    refine xr_iconst (v := 0) (pc' := 20) rfl (by decide) rfl ?_
    obtain ⟨rfl, rfl⟩ := xsome2 h
    exact xr_zret rfl mR_241 (by decide)
  · refine xr_icmp_eq_f (pc' := 8) rfl hc rfl ?_
    refine xr_aload_n (pc' := 9) rfl rfl rfl ?_
    refine xr_bipush (v := 40) (pc' := 11) rfl (by decide) rfl ?_
    refine xr_bipush (v := 40) (pc' := 13) rfl (by decide) rfl ?_
    obtain ⟨u2, hu2, h⟩ := xbind h
    obtain ⟨q3, hq3, h⟩ := xbind h
    refine xr_callV (pc' := 16) (C := 8) (As := [_, _]) (rest := _) rfl hu2 mC_240 mL_240 rfl (Nat.le_of_ble_eq_true rfl) rfl (Nat.le_of_ble_eq_true rfl) (TfM_reads _ _ _ hq3) rfl ?_
    rcases xite h with ⟨hc, h⟩ | ⟨hc, h⟩
    · refine xr_if_ne_f (pc' := 19) rfl hc rfl ?_
      refine xr_iconst (v := 0) (pc' := 20) rfl (by decide) rfl ?_
      obtain ⟨rfl, rfl⟩ := xsome2 h
      exact xr_zret rfl mR_241 (by decide)
    · refine xr_if_ne_t (t := 21) rfl hc ?_
      refine xr_aload_n (pc' := 22) rfl rfl rfl ?_
      refine xr_dup_a (pc' := 23) rfl rfl ?_
      obtain ⟨v4, hv4, h⟩ := xbind h
      refine xr_getI (pc' := 26) rfl (by decide) hv4 rfl ?_
      refine xr_iconst (v := 1) (pc' := 27) rfl (by decide) rfl ?_
      refine xr_iadd (pc' := 28) rfl rfl ?_
      obtain ⟨M5, hM5, h⟩ := xbind h
      refine xr_putI (pc' := 31) rfl (by decide) hM5 rfl ?_
      refine xr_iconst (v := 1) (pc' := 32) rfl (by decide) rfl ?_
      obtain ⟨rfl, rfl⟩ := xsome2 h
      exact xr_zret rfl mR_241 (by decide)
-- 242: MagazineDepotModel.readsSet()I
def fM_readsSet (M : xMem) (this : xId) : Option (Int32 × xMem) :=
  (xob M (some this) 8).bind fun u1 =>
  (fM_reads M u1 (58 : Int32) (58 : Int32)).bind fun q2 =>
  if q2.1 = 0 then (
    (xob q2.2 (some this) 8).bind fun u3 =>
    (fM_reads q2.2 u3 (61 : Int32) (61 : Int32)).bind fun q4 =>
    if q4.1 = 0 then (
      some ((0 : Int32), q4.2))
    else
    (xob q4.2 (some this) 8).bind fun u5 =>
    (fM_reads q4.2 u5 (48 : Int32) (51 : Int32)).bind fun q6 =>
    if q6.1 = 0 then (
      some ((0 : Int32), q6.2))
    else
    (xob q6.2 (some this) 8).bind fun u7 =>
    (fM_reads q6.2 u7 (64 : Int32) (64 : Int32)).bind fun q8 =>
    if q8.1 = 0 then (
      some ((0 : Int32), q8.2))
    else
    (xob q8.2 (some this) 8).bind fun u9 =>
    (fM_reads q8.2 u9 (48 : Int32) (51 : Int32)).bind fun q10 =>
    if q10.1 = 0 then (
      some ((0 : Int32), q10.2))
    else
    some ((2 : Int32), q10.2))
  else
  (xob q2.2 (some this) 8).bind fun u11 =>
  (fM_readsNumber q2.2 u11 ).bind fun q12 =>
  if q12.1 = 0 then (
    some ((0 : Int32), q12.2))
  else
  some ((2 : Int32), q12.2)
set_option maxRecDepth 20000 in
theorem TfM_readsSet {M M' : xMem} {r : Int32} (this : xId) (h : fM_readsSet M this = some (r, M')) : xrun none 3 242 0 ([some (.inr (.inr (some this)))]) ([]) M (some (.inl r), M') := by
  unfold fM_readsSet at h
  refine xr_aload_n (pc' := 1) rfl rfl rfl ?_
  refine xr_bipush (v := 58) (pc' := 3) rfl (by decide) rfl ?_
  refine xr_bipush (v := 58) (pc' := 5) rfl (by decide) rfl ?_
  obtain ⟨u1, hu1, h⟩ := xbind h
  obtain ⟨q2, hq2, h⟩ := xbind h
  refine xr_callV (pc' := 8) (C := 8) (As := [_, _]) (rest := _) rfl hu1 mC_240 mL_240 rfl (Nat.le_of_ble_eq_true rfl) rfl (Nat.le_of_ble_eq_true rfl) (TfM_reads _ _ _ hq2) rfl ?_
  rcases xite h with ⟨hc, h⟩ | ⟨hc, h⟩
  · refine xr_if_eq_t (t := 24) rfl hc ?_
    refine xr_aload_n (pc' := 25) rfl rfl rfl ?_
    refine xr_bipush (v := 61) (pc' := 27) rfl (by decide) rfl ?_
    refine xr_bipush (v := 61) (pc' := 29) rfl (by decide) rfl ?_
    obtain ⟨u3, hu3, h⟩ := xbind h
    obtain ⟨q4, hq4, h⟩ := xbind h
    refine xr_callV (pc' := 32) (C := 8) (As := [_, _]) (rest := _) rfl hu3 mC_240 mL_240 rfl (Nat.le_of_ble_eq_true rfl) rfl (Nat.le_of_ble_eq_true rfl) (TfM_reads _ _ _ hq4) rfl ?_
    rcases xite h with ⟨hc, h⟩ | ⟨hc, h⟩
    · refine xr_if_eq_t (t := 72) rfl hc ?_
      refine xr_iconst (v := 0) (pc' := 73) rfl (by decide) rfl ?_
      obtain ⟨rfl, rfl⟩ := xsome2 h
      exact xr_iret rfl mR_242
    · refine xr_if_eq_f (pc' := 35) rfl hc rfl ?_
      refine xr_aload_n (pc' := 36) rfl rfl rfl ?_
      refine xr_bipush (v := 48) (pc' := 38) rfl (by decide) rfl ?_
      refine xr_bipush (v := 51) (pc' := 40) rfl (by decide) rfl ?_
      obtain ⟨u5, hu5, h⟩ := xbind h
      obtain ⟨q6, hq6, h⟩ := xbind h
      refine xr_callV (pc' := 43) (C := 8) (As := [_, _]) (rest := _) rfl hu5 mC_240 mL_240 rfl (Nat.le_of_ble_eq_true rfl) rfl (Nat.le_of_ble_eq_true rfl) (TfM_reads _ _ _ hq6) rfl ?_
      rcases xite h with ⟨hc, h⟩ | ⟨hc, h⟩
      · refine xr_if_eq_t (t := 72) rfl hc ?_
        refine xr_iconst (v := 0) (pc' := 73) rfl (by decide) rfl ?_
        obtain ⟨rfl, rfl⟩ := xsome2 h
        exact xr_iret rfl mR_242
      · refine xr_if_eq_f (pc' := 46) rfl hc rfl ?_
        refine xr_aload_n (pc' := 47) rfl rfl rfl ?_
        refine xr_bipush (v := 64) (pc' := 49) rfl (by decide) rfl ?_
        refine xr_bipush (v := 64) (pc' := 51) rfl (by decide) rfl ?_
        obtain ⟨u7, hu7, h⟩ := xbind h
        obtain ⟨q8, hq8, h⟩ := xbind h
        refine xr_callV (pc' := 54) (C := 8) (As := [_, _]) (rest := _) rfl hu7 mC_240 mL_240 rfl (Nat.le_of_ble_eq_true rfl) rfl (Nat.le_of_ble_eq_true rfl) (TfM_reads _ _ _ hq8) rfl ?_
        rcases xite h with ⟨hc, h⟩ | ⟨hc, h⟩
        · refine xr_if_eq_t (t := 72) rfl hc ?_
          refine xr_iconst (v := 0) (pc' := 73) rfl (by decide) rfl ?_
          obtain ⟨rfl, rfl⟩ := xsome2 h
          exact xr_iret rfl mR_242
        · refine xr_if_eq_f (pc' := 57) rfl hc rfl ?_
          refine xr_aload_n (pc' := 58) rfl rfl rfl ?_
          refine xr_bipush (v := 48) (pc' := 60) rfl (by decide) rfl ?_
          refine xr_bipush (v := 51) (pc' := 62) rfl (by decide) rfl ?_
          obtain ⟨u9, hu9, h⟩ := xbind h
          obtain ⟨q10, hq10, h⟩ := xbind h
          refine xr_callV (pc' := 65) (C := 8) (As := [_, _]) (rest := _) rfl hu9 mC_240 mL_240 rfl (Nat.le_of_ble_eq_true rfl) rfl (Nat.le_of_ble_eq_true rfl) (TfM_reads _ _ _ hq10) rfl ?_
          rcases xite h with ⟨hc, h⟩ | ⟨hc, h⟩
          · refine xr_if_eq_t (t := 72) rfl hc ?_
            refine xr_iconst (v := 0) (pc' := 73) rfl (by decide) rfl ?_
            obtain ⟨rfl, rfl⟩ := xsome2 h
            exact xr_iret rfl mR_242
          · refine xr_if_eq_f (pc' := 68) rfl hc rfl ?_
            refine xr_iconst (v := 2) (pc' := 69) rfl (by decide) rfl ?_
            refine xr_goto (t := 73) rfl ?_
            obtain ⟨rfl, rfl⟩ := xsome2 h
            exact xr_iret rfl mR_242
  · refine xr_if_eq_f (pc' := 11) rfl hc rfl ?_
    refine xr_aload_n (pc' := 12) rfl rfl rfl ?_
    obtain ⟨u11, hu11, h⟩ := xbind h
    obtain ⟨q12, hq12, h⟩ := xbind h
    refine xr_callV (pc' := 15) (C := 8) (As := []) (rest := _) rfl hu11 mC_239 mL_239 rfl (Nat.le_of_ble_eq_true rfl) rfl (Nat.le_of_ble_eq_true rfl) (TfM_readsNumber _  hq12) rfl ?_
    rcases xite h with ⟨hc, h⟩ | ⟨hc, h⟩
    · refine xr_if_eq_t (t := 22) rfl hc ?_
      refine xr_iconst (v := 0) (pc' := 23) rfl (by decide) rfl ?_
      obtain ⟨rfl, rfl⟩ := xsome2 h
      exact xr_iret rfl mR_242
    · refine xr_if_eq_f (pc' := 18) rfl hc rfl ?_
      refine xr_iconst (v := 2) (pc' := 19) rfl (by decide) rfl ?_
      refine xr_goto (t := 23) rfl ?_
      obtain ⟨rfl, rfl⟩ := xsome2 h
      exact xr_iret rfl mR_242
-- 237: MagazineDepotModel.readsStatement()I
def fM_readsStatement (M : xMem) (this : xId) : Option (Int32 × xMem) :=
  (xob M (some this) 8).bind fun u1 =>
  (fM_signOf M u1 ).bind fun q2 =>
  (fM_isIn q2.2 q2.1 (48 : Int32) (57 : Int32)).bind fun q3 =>
  if q3.1 = 0 then (
    (xgI q3.2 (some this) 8 44).bind fun v4 =>
    (xpI q3.2 (some this) 8 44 (v4 + (1 : Int32))).bind fun M5 =>
    (fM_isIn M5 q2.1 (97 : Int32) (122 : Int32)).bind fun q6 =>
    if q6.1 = 0 then (
      if q2.1 = 33 then (
        some ((2 : Int32), q6.2))
      else
      if q2.1 = 63 then (
        (xob q6.2 (some this) 8).bind fun u7 =>
        (fM_reads q6.2 u7 (48 : Int32) (51 : Int32)).bind fun q8 =>
        if q8.1 = 0 then (
          some ((0 : Int32), q8.2))
        else
        (xob q8.2 (some this) 8).bind fun u9 =>
        (fM_opens q8.2 u9 ).bind fun q10 =>
        if q10.1 = 0 then (
          some ((0 : Int32), q10.2))
        else
        some ((1 : Int32), q10.2))
      else
      if q2.1 = 126 then (
        (xob q6.2 (some this) 8).bind fun u11 =>
        (fM_reads q6.2 u11 (97 : Int32) (122 : Int32)).bind fun q12 =>
        if q12.1 = 0 then (
          some ((0 : Int32), q12.2))
        else
        (xob q12.2 (some this) 8).bind fun u13 =>
        (fM_reads q12.2 u13 (64 : Int32) (64 : Int32)).bind fun q14 =>
        if q14.1 = 0 then (
          some ((0 : Int32), q14.2))
        else
        (xob q14.2 (some this) 8).bind fun u15 =>
        (fM_reads q14.2 u15 (48 : Int32) (51 : Int32)).bind fun q16 =>
        if q16.1 = 0 then (
          some ((0 : Int32), q16.2))
        else
        some ((2 : Int32), q16.2))
      else
      (xgI q6.2 (some this) 8 44).bind fun v17 =>
      (xpI q6.2 (some this) 8 44 (v17 - (1 : Int32))).bind fun M18 =>
      some ((0 : Int32), M18))
    else
    (xob q6.2 (some this) 8).bind fun u19 =>
    (fM_readsSet q6.2 u19 ).bind fun q20 =>
    some (q20.1, q20.2))
  else
  (xob q3.2 (some this) 8).bind fun u21 =>
  (fM_readsNumber q3.2 u21 ).bind fun q22 =>
  if q22.1 = 0 then (
    some ((0 : Int32), q22.2))
  else
  (xob q22.2 (some this) 8).bind fun u23 =>
  (fM_opens q22.2 u23 ).bind fun q24 =>
  if q24.1 = 0 then (
    some ((0 : Int32), q24.2))
  else
  some ((1 : Int32), q24.2)
set_option maxRecDepth 20000 in
theorem TfM_readsStatement {M M' : xMem} {r : Int32} (this : xId) (h : fM_readsStatement M this = some (r, M')) : xrun none 4 237 0 ([some (.inr (.inr (some this))), none]) ([]) M (some (.inl r), M') := by
  unfold fM_readsStatement at h
  refine xr_aload_n (pc' := 1) rfl rfl rfl ?_
  obtain ⟨u1, hu1, h⟩ := xbind h
  obtain ⟨q2, hq2, h⟩ := xbind h
  refine xr_callV (pc' := 4) (C := 8) (As := []) (rest := _) rfl hu1 mC_238 mL_238 rfl (Nat.le_of_ble_eq_true rfl) rfl (Nat.le_of_ble_eq_true rfl) (TfM_signOf _  hq2) rfl ?_
  refine xr_istore_n (pc' := 5) rfl rfl rfl ?_
  refine xr_iload_n (pc' := 6) rfl rfl rfl ?_
  refine xr_bipush (v := 48) (pc' := 8) rfl (by decide) rfl ?_
  refine xr_bipush (v := 57) (pc' := 10) rfl (by decide) rfl ?_
  obtain ⟨q3, hq3, h⟩ := xbind h
  refine xr_callS (pc' := 13) (As := [_, _, _]) (rest := _) rfl (by decide) mL_163 rfl (Nat.le_of_ble_eq_true rfl) rfl (Nat.le_of_ble_eq_true rfl) (TfM_isIn _ _ _ hq3) rfl ?_
  rcases xite h with ⟨hc, h⟩ | ⟨hc, h⟩
  · refine xr_if_eq_t (t := 36) rfl hc ?_
    refine xr_aload_n (pc' := 37) rfl rfl rfl ?_
    refine xr_dup_a (pc' := 38) rfl rfl ?_
    obtain ⟨v4, hv4, h⟩ := xbind h
    refine xr_getI (pc' := 41) rfl (by decide) hv4 rfl ?_
    refine xr_iconst (v := 1) (pc' := 42) rfl (by decide) rfl ?_
    refine xr_iadd (pc' := 43) rfl rfl ?_
    obtain ⟨M5, hM5, h⟩ := xbind h
    refine xr_putI (pc' := 46) rfl (by decide) hM5 rfl ?_
    refine xr_iload_n (pc' := 47) rfl rfl rfl ?_
    refine xr_bipush (v := 97) (pc' := 49) rfl (by decide) rfl ?_
    refine xr_bipush (v := 122) (pc' := 51) rfl (by decide) rfl ?_
    obtain ⟨q6, hq6, h⟩ := xbind h
    refine xr_callS (pc' := 54) (As := [_, _, _]) (rest := _) rfl (by decide) mL_163 rfl (Nat.le_of_ble_eq_true rfl) rfl (Nat.le_of_ble_eq_true rfl) (TfM_isIn _ _ _ hq6) rfl ?_
    rcases xite h with ⟨hc, h⟩ | ⟨hc, h⟩
    · refine xr_if_eq_t (t := 62) rfl hc ?_
      refine xr_iload_n (pc' := 63) rfl rfl rfl ?_
      rcases xite h with ⟨hc63_33, h⟩ | ⟨hc63_33, h⟩
      · refine xr_lsw (off := 72) (t := 135) rfl (by rw [hc63_33] <;> rfl) (by decide) ?_
        refine xr_iconst (v := 2) (pc' := 136) rfl (by decide) rfl ?_
        obtain ⟨rfl, rfl⟩ := xsome2 h
        exact xr_iret rfl mR_237
      rcases xite h with ⟨hc63_63, h⟩ | ⟨hc63_63, h⟩
      · refine xr_lsw (off := 74) (t := 137) rfl (by rw [hc63_63] <;> rfl) (by decide) ?_
        refine xr_aload_n (pc' := 138) rfl rfl rfl ?_
        refine xr_bipush (v := 48) (pc' := 140) rfl (by decide) rfl ?_
        refine xr_bipush (v := 51) (pc' := 142) rfl (by decide) rfl ?_
        obtain ⟨u7, hu7, h⟩ := xbind h
        obtain ⟨q8, hq8, h⟩ := xbind h
        refine xr_callV (pc' := 145) (C := 8) (As := [_, _]) (rest := _) rfl hu7 mC_240 mL_240 rfl (Nat.le_of_ble_eq_true rfl) rfl (Nat.le_of_ble_eq_true rfl) (TfM_reads _ _ _ hq8) rfl ?_
        rcases xite h with ⟨hc, h⟩ | ⟨hc, h⟩
        · refine xr_if_eq_t (t := 159) rfl hc ?_
          refine xr_iconst (v := 0) (pc' := 160) rfl (by decide) rfl ?_
          obtain ⟨rfl, rfl⟩ := xsome2 h
          exact xr_iret rfl mR_237
        · refine xr_if_eq_f (pc' := 148) rfl hc rfl ?_
          refine xr_aload_n (pc' := 149) rfl rfl rfl ?_
          obtain ⟨u9, hu9, h⟩ := xbind h
          obtain ⟨q10, hq10, h⟩ := xbind h
          refine xr_callV (pc' := 152) (C := 8) (As := []) (rest := _) rfl hu9 mC_241 mL_241 rfl (Nat.le_of_ble_eq_true rfl) rfl (Nat.le_of_ble_eq_true rfl) (TfM_opens _  hq10) rfl ?_
          rcases xite h with ⟨hc, h⟩ | ⟨hc, h⟩
          · refine xr_if_eq_t (t := 159) rfl hc ?_
            refine xr_iconst (v := 0) (pc' := 160) rfl (by decide) rfl ?_
            obtain ⟨rfl, rfl⟩ := xsome2 h
            exact xr_iret rfl mR_237
          · refine xr_if_eq_f (pc' := 155) rfl hc rfl ?_
            refine xr_iconst (v := 1) (pc' := 156) rfl (by decide) rfl ?_
            refine xr_goto (t := 160) rfl ?_
            obtain ⟨rfl, rfl⟩ := xsome2 h
            exact xr_iret rfl mR_237
      rcases xite h with ⟨hc63_126, h⟩ | ⟨hc63_126, h⟩
      · refine xr_lsw (off := 33) (t := 96) rfl (by rw [hc63_126] <;> rfl) (by decide) ?_
        refine xr_aload_n (pc' := 97) rfl rfl rfl ?_
        refine xr_bipush (v := 97) (pc' := 99) rfl (by decide) rfl ?_
        refine xr_bipush (v := 122) (pc' := 101) rfl (by decide) rfl ?_
        obtain ⟨u11, hu11, h⟩ := xbind h
        obtain ⟨q12, hq12, h⟩ := xbind h
        refine xr_callV (pc' := 104) (C := 8) (As := [_, _]) (rest := _) rfl hu11 mC_240 mL_240 rfl (Nat.le_of_ble_eq_true rfl) rfl (Nat.le_of_ble_eq_true rfl) (TfM_reads _ _ _ hq12) rfl ?_
        rcases xite h with ⟨hc, h⟩ | ⟨hc, h⟩
        · refine xr_if_eq_t (t := 133) rfl hc ?_
          refine xr_iconst (v := 0) (pc' := 134) rfl (by decide) rfl ?_
          obtain ⟨rfl, rfl⟩ := xsome2 h
          exact xr_iret rfl mR_237
        · refine xr_if_eq_f (pc' := 107) rfl hc rfl ?_
          refine xr_aload_n (pc' := 108) rfl rfl rfl ?_
          refine xr_bipush (v := 64) (pc' := 110) rfl (by decide) rfl ?_
          refine xr_bipush (v := 64) (pc' := 112) rfl (by decide) rfl ?_
          obtain ⟨u13, hu13, h⟩ := xbind h
          obtain ⟨q14, hq14, h⟩ := xbind h
          refine xr_callV (pc' := 115) (C := 8) (As := [_, _]) (rest := _) rfl hu13 mC_240 mL_240 rfl (Nat.le_of_ble_eq_true rfl) rfl (Nat.le_of_ble_eq_true rfl) (TfM_reads _ _ _ hq14) rfl ?_
          rcases xite h with ⟨hc, h⟩ | ⟨hc, h⟩
          · refine xr_if_eq_t (t := 133) rfl hc ?_
            refine xr_iconst (v := 0) (pc' := 134) rfl (by decide) rfl ?_
            obtain ⟨rfl, rfl⟩ := xsome2 h
            exact xr_iret rfl mR_237
          · refine xr_if_eq_f (pc' := 118) rfl hc rfl ?_
            refine xr_aload_n (pc' := 119) rfl rfl rfl ?_
            refine xr_bipush (v := 48) (pc' := 121) rfl (by decide) rfl ?_
            refine xr_bipush (v := 51) (pc' := 123) rfl (by decide) rfl ?_
            obtain ⟨u15, hu15, h⟩ := xbind h
            obtain ⟨q16, hq16, h⟩ := xbind h
            refine xr_callV (pc' := 126) (C := 8) (As := [_, _]) (rest := _) rfl hu15 mC_240 mL_240 rfl (Nat.le_of_ble_eq_true rfl) rfl (Nat.le_of_ble_eq_true rfl) (TfM_reads _ _ _ hq16) rfl ?_
            rcases xite h with ⟨hc, h⟩ | ⟨hc, h⟩
            · refine xr_if_eq_t (t := 133) rfl hc ?_
              refine xr_iconst (v := 0) (pc' := 134) rfl (by decide) rfl ?_
              obtain ⟨rfl, rfl⟩ := xsome2 h
              exact xr_iret rfl mR_237
            · refine xr_if_eq_f (pc' := 129) rfl hc rfl ?_
              refine xr_iconst (v := 2) (pc' := 130) rfl (by decide) rfl ?_
              refine xr_goto (t := 134) rfl ?_
              obtain ⟨rfl, rfl⟩ := xsome2 h
              exact xr_iret rfl mR_237
      refine xr_lsw (off := 98) (t := 161) rfl (by rw [lv_osw hc63_33 (by decide), lv_osw hc63_63 (by decide), lv_osw hc63_126 (by decide)] <;> rfl) (by decide) ?_
      refine xr_aload_n (pc' := 162) rfl rfl rfl ?_
      refine xr_dup_a (pc' := 163) rfl rfl ?_
      obtain ⟨v17, hv17, h⟩ := xbind h
      refine xr_getI (pc' := 166) rfl (by decide) hv17 rfl ?_
      refine xr_iconst (v := 1) (pc' := 167) rfl (by decide) rfl ?_
      refine xr_isub (pc' := 168) rfl rfl ?_
      obtain ⟨M18, hM18, h⟩ := xbind h
      refine xr_putI (pc' := 171) rfl (by decide) hM18 rfl ?_
      refine xr_iconst (v := 0) (pc' := 172) rfl (by decide) rfl ?_
      obtain ⟨rfl, rfl⟩ := xsome2 h
      exact xr_iret rfl mR_237
    · refine xr_if_eq_f (pc' := 57) rfl hc rfl ?_
      refine xr_aload_n (pc' := 58) rfl rfl rfl ?_
      obtain ⟨u19, hu19, h⟩ := xbind h
      obtain ⟨q20, hq20, h⟩ := xbind h
      refine xr_callV (pc' := 61) (C := 8) (As := []) (rest := _) rfl hu19 mC_242 mL_242 rfl (Nat.le_of_ble_eq_true rfl) rfl (Nat.le_of_ble_eq_true rfl) (TfM_readsSet _  hq20) rfl ?_
      obtain ⟨rfl, rfl⟩ := xsome2 h
      exact xr_iret rfl mR_237
  · refine xr_if_eq_f (pc' := 16) rfl hc rfl ?_
    refine xr_aload_n (pc' := 17) rfl rfl rfl ?_
    obtain ⟨u21, hu21, h⟩ := xbind h
    obtain ⟨q22, hq22, h⟩ := xbind h
    refine xr_callV (pc' := 20) (C := 8) (As := []) (rest := _) rfl hu21 mC_239 mL_239 rfl (Nat.le_of_ble_eq_true rfl) rfl (Nat.le_of_ble_eq_true rfl) (TfM_readsNumber _  hq22) rfl ?_
    rcases xite h with ⟨hc, h⟩ | ⟨hc, h⟩
    · refine xr_if_eq_t (t := 34) rfl hc ?_
      refine xr_iconst (v := 0) (pc' := 35) rfl (by decide) rfl ?_
      obtain ⟨rfl, rfl⟩ := xsome2 h
      exact xr_iret rfl mR_237
    · refine xr_if_eq_f (pc' := 23) rfl hc rfl ?_
      refine xr_aload_n (pc' := 24) rfl rfl rfl ?_
      obtain ⟨u23, hu23, h⟩ := xbind h
      obtain ⟨q24, hq24, h⟩ := xbind h
      refine xr_callV (pc' := 27) (C := 8) (As := []) (rest := _) rfl hu23 mC_241 mL_241 rfl (Nat.le_of_ble_eq_true rfl) rfl (Nat.le_of_ble_eq_true rfl) (TfM_opens _  hq24) rfl ?_
      rcases xite h with ⟨hc, h⟩ | ⟨hc, h⟩
      · refine xr_if_eq_t (t := 34) rfl hc ?_
        refine xr_iconst (v := 0) (pc' := 35) rfl (by decide) rfl ?_
        obtain ⟨rfl, rfl⟩ := xsome2 h
        exact xr_iret rfl mR_237
      · refine xr_if_eq_f (pc' := 30) rfl hc rfl ?_
        refine xr_iconst (v := 1) (pc' := 31) rfl (by decide) rfl ?_
        refine xr_goto (t := 35) rfl ?_
        obtain ⟨rfl, rfl⟩ := xsome2 h
        exact xr_iret rfl mR_237
-- 243: MagazineDepotModel.readsBetween()Z
def fM_readsBetween_31  (M : xMem) (l0 : Option xId)  : Option (Int32 × xMem) :=
  (xob M l0 8).bind fun u6 =>
  (fM_reads M u6 (59 : Int32) (59 : Int32)).bind fun q7 =>
  if q7.1 = 0 ∨ q7.1 = 1 then some (q7.1, q7.2) else none
set_option maxRecDepth 20000 in
theorem TfM_readsBetween_31 {M' : xMem} {r : Int32}  (M : xMem) (l0 : Option xId)   (h : fM_readsBetween_31  M l0  = some (r, M')) : xrun none 2 243 31 ([some (.inr (.inr l0))]) ([]) M (some (.inl r), M') := by
  unfold fM_readsBetween_31 at h
  refine xr_aload_n (pc' := 32) rfl rfl rfl ?_
  refine xr_bipush (v := 59) (pc' := 34) rfl (by decide) rfl ?_
  refine xr_bipush (v := 59) (pc' := 36) rfl (by decide) rfl ?_
  obtain ⟨u6, hu6, h⟩ := xbind h
  obtain ⟨q7, hq7, h⟩ := xbind h
  refine xr_callV (pc' := 39) (C := 8) (As := [_, _]) (rest := _) rfl hu6 mC_240 mL_240 rfl (Nat.le_of_ble_eq_true rfl) rfl (Nat.le_of_ble_eq_true rfl) (TfM_reads _ _ _ hq7) rfl ?_
  rcases xite h with ⟨hc, h⟩ | ⟨hc, h⟩
  · obtain ⟨rfl, rfl⟩ := xsome2 h
    exact xr_zret rfl mR_243 hc
  · cases h
def fM_readsBetween_0  : Nat → xMem → Option xId → Option (Int32 × xMem)
  | 0, _, _ => none
  | n + 1, M, l0 =>
    (xgI M l0 8 45).bind fun v1 =>
    if v1 ≤ 0 then (
      fM_readsBetween_31  M l0 )
    else
    (xob M l0 8).bind fun u2 =>
    (fM_reads M u2 (41 : Int32) (41 : Int32)).bind fun q3 =>
    if q3.1 = 0 then (
      fM_readsBetween_31  q3.2 l0 )
    else
    (xgI q3.2 l0 8 45).bind fun v4 =>
    (xpI q3.2 l0 8 45 (v4 - (1 : Int32))).bind fun M5 =>
    fM_readsBetween_0  n M5 l0
set_option maxRecDepth 20000 in
theorem TfM_readsBetween_0 {M' : xMem} {r : Int32}  : ∀ (n : Nat) (M : xMem) (l0 : Option xId) , fM_readsBetween_0  n M l0 = some (r, M') → xrun none 2 243 0 ([some (.inr (.inr l0))]) ([]) M (some (.inl r), M') := by
  intro n
  induction n with
  | zero => intro M l0  h; unfold fM_readsBetween_0 at h; cases h
  | succ n ih =>
    intro M l0  h
    unfold fM_readsBetween_0 at h
    refine xr_aload_n (pc' := 1) rfl rfl rfl ?_
    obtain ⟨v1, hv1, h⟩ := xbind h
    refine xr_getI (pc' := 4) rfl (by decide) hv1 rfl ?_
    rcases xite h with ⟨hc, h⟩ | ⟨hc, h⟩
    · refine xr_if_le_t (t := 31) rfl hc ?_
      exact TfM_readsBetween_31   M _   h
    · refine xr_if_le_f (pc' := 7) rfl hc rfl ?_
      refine xr_aload_n (pc' := 8) rfl rfl rfl ?_
      refine xr_bipush (v := 41) (pc' := 10) rfl (by decide) rfl ?_
      refine xr_bipush (v := 41) (pc' := 12) rfl (by decide) rfl ?_
      obtain ⟨u2, hu2, h⟩ := xbind h
      obtain ⟨q3, hq3, h⟩ := xbind h
      refine xr_callV (pc' := 15) (C := 8) (As := [_, _]) (rest := _) rfl hu2 mC_240 mL_240 rfl (Nat.le_of_ble_eq_true rfl) rfl (Nat.le_of_ble_eq_true rfl) (TfM_reads _ _ _ hq3) rfl ?_
      rcases xite h with ⟨hc, h⟩ | ⟨hc, h⟩
      · refine xr_if_eq_t (t := 31) rfl hc ?_
        exact TfM_readsBetween_31   q3.2 _   h
      · refine xr_if_eq_f (pc' := 18) rfl hc rfl ?_
        refine xr_aload_n (pc' := 19) rfl rfl rfl ?_
        refine xr_dup_a (pc' := 20) rfl rfl ?_
        obtain ⟨v4, hv4, h⟩ := xbind h
        refine xr_getI (pc' := 23) rfl (by decide) hv4 rfl ?_
        refine xr_iconst (v := 1) (pc' := 24) rfl (by decide) rfl ?_
        refine xr_isub (pc' := 25) rfl rfl ?_
        obtain ⟨M5, hM5, h⟩ := xbind h
        refine xr_putI (pc' := 28) rfl (by decide) hM5 rfl ?_
        refine xr_goto (t := 0) rfl ?_
        exact ih M5 _  h
def fM_readsBetween (M : xMem) (this : xId) : Option (Int32 × xMem) :=
  fM_readsBetween_0  xF M (some this)
set_option maxRecDepth 20000 in
theorem TfM_readsBetween {M M' : xMem} {r : Int32} (this : xId) (h : fM_readsBetween M this = some (r, M')) : xrun none 2 243 0 ([some (.inr (.inr (some this)))]) ([]) M (some (.inl r), M') := by
  unfold fM_readsBetween at h
  exact TfM_readsBetween_0   xF M _  h
-- 236: MagazineDepotModel.readsTrace()Z
def fM_readsTrace_44 (k12 : xMem → Option xId → Int32 → Option (Int32 × xMem)) (M : xMem) (l0 : Option xId) (s0 : Int32) : Option (Int32 × xMem) :=
  k12 M l0 s0
set_option maxRecDepth 20000 in
theorem TfM_readsTrace_44 {M' : xMem} {r : Int32} (k12 : xMem → Option xId → Int32 → Option (Int32 × xMem)) (hk12 : ∀ (M : xMem) (l0 : Option xId) (l1 : Int32) (o2 : Option xVal), k12 M l0 l1 = some (r, M') → xrun none 5 236 12 ([some (.inr (.inr l0)), some (.inl l1), o2]) ([]) M (some (.inl r), M')) (M : xMem) (l0 : Option xId) (s0 : Int32) (o1 : Int32) (o2 : Int32) (h : fM_readsTrace_44 k12 M l0 s0 = some (r, M')) : xrun none 5 236 44 ([some (.inr (.inr l0)), some (.inl o1), some (.inl o2)]) ([.inl s0]) M (some (.inl r), M') := by
  unfold fM_readsTrace_44 at h
  refine xr_istore_n (pc' := 45) rfl rfl rfl ?_
  refine xr_goto (t := 12) rfl ?_
  exact hk12 M _ _ _ h
def fM_readsTrace_39 (k12 : xMem → Option xId → Int32 → Option (Int32 × xMem)) (M : xMem) (l0 : Option xId)  : Option (Int32 × xMem) :=
  fM_readsTrace_44 k12 M l0 (1 : Int32)
set_option maxRecDepth 20000 in
theorem TfM_readsTrace_39 {M' : xMem} {r : Int32} (k12 : xMem → Option xId → Int32 → Option (Int32 × xMem)) (hk12 : ∀ (M : xMem) (l0 : Option xId) (l1 : Int32) (o2 : Option xVal), k12 M l0 l1 = some (r, M') → xrun none 5 236 12 ([some (.inr (.inr l0)), some (.inl l1), o2]) ([]) M (some (.inl r), M')) (M : xMem) (l0 : Option xId)  (o1 : Int32) (o2 : Int32) (h : fM_readsTrace_39 k12 M l0  = some (r, M')) : xrun none 5 236 39 ([some (.inr (.inr l0)), some (.inl o1), some (.inl o2)]) ([]) M (some (.inl r), M') := by
  unfold fM_readsTrace_39 at h
  refine xr_iconst (v := 1) (pc' := 40) rfl (by decide) rfl ?_
  refine xr_goto (t := 44) rfl ?_
  exact TfM_readsTrace_44 _ hk12 M _ _ _ _ h
def fM_readsTrace_12  : Nat → xMem → Option xId → Int32 → Option (Int32 × xMem)
  | 0, _, _, _ => none
  | n + 1, M, l0, l1 =>
    if l1 = 0 then (
      (xgI M l0 8 44).bind fun v3 =>
      (xgI M l0 8 42).bind fun v4 =>
      if v3 = v4 then (
        (xgI M l0 8 45).bind fun v5 =>
        if v5 = 0 then (
          some ((1 : Int32), M))
        else
        some ((0 : Int32), M))
      else
      some ((0 : Int32), M))
    else
    (xob M l0 8).bind fun u6 =>
    (fM_readsStatement M u6 ).bind fun q7 =>
    if q7.1 = 0 then (
      some ((0 : Int32), q7.2))
    else
    if q7.1 = (1 : Int32) then (
      fM_readsTrace_39 (fun M l0 l1 => fM_readsTrace_12  n M l0 l1) q7.2 l0 )
    else
    (xob q7.2 l0 8).bind fun u8 =>
    (fM_readsBetween q7.2 u8 ).bind fun q9 =>
    if q9.1 = 0 then (
      fM_readsTrace_44 (fun M l0 l1 => fM_readsTrace_12  n M l0 l1) q9.2 l0 (0 : Int32))
    else
    fM_readsTrace_39 (fun M l0 l1 => fM_readsTrace_12  n M l0 l1) q9.2 l0 
set_option maxRecDepth 20000 in
theorem TfM_readsTrace_12 {M' : xMem} {r : Int32}  : ∀ (n : Nat) (M : xMem) (l0 : Option xId) (l1 : Int32) (o2 : Option xVal), fM_readsTrace_12  n M l0 l1 = some (r, M') → xrun none 5 236 12 ([some (.inr (.inr l0)), some (.inl l1), o2]) ([]) M (some (.inl r), M') := by
  intro n
  induction n with
  | zero => intro M l0 l1 o2 h; unfold fM_readsTrace_12 at h; cases h
  | succ n ih =>
    intro M l0 l1 o2 h
    unfold fM_readsTrace_12 at h
    refine xr_iload_n (pc' := 13) rfl rfl rfl ?_
    rcases xite h with ⟨hc, h⟩ | ⟨hc, h⟩
    · refine xr_if_eq_t (t := 48) rfl hc ?_
      refine xr_aload_n (pc' := 49) rfl rfl rfl ?_
      obtain ⟨v3, hv3, h⟩ := xbind h
      refine xr_getI (pc' := 52) rfl (by decide) hv3 rfl ?_
      refine xr_aload_n (pc' := 53) rfl rfl rfl ?_
      obtain ⟨v4, hv4, h⟩ := xbind h
      refine xr_getI (pc' := 56) rfl (by decide) hv4 rfl ?_
      rcases xite h with ⟨hc, h⟩ | ⟨hc, h⟩
      · refine xr_icmp_ne_f (pc' := 59) rfl hc rfl ?_
        refine xr_aload_n (pc' := 60) rfl rfl rfl ?_
        obtain ⟨v5, hv5, h⟩ := xbind h
        refine xr_getI (pc' := 63) rfl (by decide) hv5 rfl ?_
        rcases xite h with ⟨hc, h⟩ | ⟨hc, h⟩
        · refine xr_if_ne_f (pc' := 66) rfl hc rfl ?_
          refine xr_iconst (v := 1) (pc' := 67) rfl (by decide) rfl ?_
          refine xr_goto (t := 71) rfl ?_
          obtain ⟨rfl, rfl⟩ := xsome2 h
          exact xr_zret rfl mR_236 (by decide)
        · refine xr_if_ne_t (t := 70) rfl hc ?_
          refine xr_iconst (v := 0) (pc' := 71) rfl (by decide) rfl ?_
          obtain ⟨rfl, rfl⟩ := xsome2 h
          exact xr_zret rfl mR_236 (by decide)
      · refine xr_icmp_ne_t (t := 70) rfl hc ?_
        refine xr_iconst (v := 0) (pc' := 71) rfl (by decide) rfl ?_
        obtain ⟨rfl, rfl⟩ := xsome2 h
        exact xr_zret rfl mR_236 (by decide)
    · refine xr_if_eq_f (pc' := 16) rfl hc rfl ?_
      refine xr_aload_n (pc' := 17) rfl rfl rfl ?_
      obtain ⟨u6, hu6, h⟩ := xbind h
      obtain ⟨q7, hq7, h⟩ := xbind h
      refine xr_callV (pc' := 20) (C := 8) (As := []) (rest := _) rfl hu6 mC_237 mL_237 rfl (Nat.le_of_ble_eq_true rfl) rfl (Nat.le_of_ble_eq_true rfl) (TfM_readsStatement _  hq7) rfl ?_
      refine xr_istore_n (pc' := 21) rfl rfl rfl ?_
      refine xr_iload_n (pc' := 22) rfl rfl rfl ?_
      rcases xite h with ⟨hc, h⟩ | ⟨hc, h⟩
      · refine xr_if_ne_f (pc' := 25) rfl hc rfl ?_
        refine xr_iconst (v := 0) (pc' := 26) rfl (by decide) rfl ?_
        obtain ⟨rfl, rfl⟩ := xsome2 h
        exact xr_zret rfl mR_236 (by decide)
      · refine xr_if_ne_t (t := 27) rfl hc ?_
        refine xr_iload_n (pc' := 28) rfl rfl rfl ?_
        refine xr_iconst (v := 1) (pc' := 29) rfl (by decide) rfl ?_
        rcases xite h with ⟨hc, h⟩ | ⟨hc, h⟩
        · refine xr_icmp_eq_t (t := 39) rfl hc ?_
          exact TfM_readsTrace_39 _ (fun M l0 l1 o2 h => ih M l0 l1 o2 h) q7.2 _  _ _ h
        · refine xr_icmp_eq_f (pc' := 32) rfl hc rfl ?_
          refine xr_aload_n (pc' := 33) rfl rfl rfl ?_
          obtain ⟨u8, hu8, h⟩ := xbind h
          obtain ⟨q9, hq9, h⟩ := xbind h
          refine xr_callV (pc' := 36) (C := 8) (As := []) (rest := _) rfl hu8 mC_243 mL_243 rfl (Nat.le_of_ble_eq_true rfl) rfl (Nat.le_of_ble_eq_true rfl) (TfM_readsBetween _  hq9) rfl ?_
          rcases xite h with ⟨hc, h⟩ | ⟨hc, h⟩
          · refine xr_if_eq_t (t := 43) rfl hc ?_
            refine xr_iconst (v := 0) (pc' := 44) rfl (by decide) rfl ?_
            exact TfM_readsTrace_44 _ (fun M l0 l1 o2 h => ih M l0 l1 o2 h) q9.2 _ _ _ _ h
          · refine xr_if_eq_f (pc' := 39) rfl hc rfl ?_
            exact TfM_readsTrace_39 _ (fun M l0 l1 o2 h => ih M l0 l1 o2 h) q9.2 _  _ _ h
def fM_readsTrace (M : xMem) (this : xId) : Option (Int32 × xMem) :=
  (xpI M (some this) 8 44 (0 : Int32)).bind fun M1 =>
  (xpI M1 (some this) 8 45 (0 : Int32)).bind fun M2 =>
  fM_readsTrace_12  xF M2 (some this) (1 : Int32)
set_option maxRecDepth 20000 in
theorem TfM_readsTrace {M M' : xMem} {r : Int32} (this : xId) (h : fM_readsTrace M this = some (r, M')) : xrun none 5 236 0 ([some (.inr (.inr (some this))), none, none]) ([]) M (some (.inl r), M') := by
  unfold fM_readsTrace at h
  refine xr_aload_n (pc' := 1) rfl rfl rfl ?_
  refine xr_iconst (v := 0) (pc' := 2) rfl (by decide) rfl ?_
  obtain ⟨M1, hM1, h⟩ := xbind h
  refine xr_putI (pc' := 5) rfl (by decide) hM1 rfl ?_
  refine xr_aload_n (pc' := 6) rfl rfl rfl ?_
  refine xr_iconst (v := 0) (pc' := 7) rfl (by decide) rfl ?_
  obtain ⟨M2, hM2, h⟩ := xbind h
  refine xr_putI (pc' := 10) rfl (by decide) hM2 rfl ?_
  refine xr_iconst (v := 1) (pc' := 11) rfl (by decide) rfl ?_
  refine xr_istore_n (pc' := 12) rfl rfl rfl ?_
  exact TfM_readsTrace_12   xF M2 _ _ _ h
-- 235: MagazineDepotModel.trace()I
def fM_trace_29  : Nat → xMem → Option xId → Int32 → Int32 → Option (Int32 × xMem)
  | 0, _, _, _, _ => none
  | n + 1, M, l0, l2, l3 =>
    if l2 ≤ l3 then (
      (xpI M l0 8 43 l2).bind fun M6 =>
      (xpZ M6 l0 8 46 (1 : Int32)).bind fun M7 =>
      some ((1 : Int32), M7))
    else
    (xgR M l0 8 39).bind fun v8 =>
    (xgR M l0 8 38).bind fun v9 =>
    (xaI M v9 l3).bind fun v10 =>
    (xuI M v8 l3 v10).bind fun M11 =>
    fM_trace_29  n M11 l0 l2 (l3 + 1)
set_option maxRecDepth 20000 in
theorem TfM_trace_29 {M' : xMem} {r : Int32}  : ∀ (n : Nat) (M : xMem) (l0 : Option xId) (l2 : Int32) (l3 : Int32) (o1 : Int32), fM_trace_29  n M l0 l2 l3 = some (r, M') → xrun none 6 235 29 ([some (.inr (.inr l0)), some (.inl o1), some (.inl l2), some (.inl l3)]) ([]) M (some (.inl r), M') := by
  intro n
  induction n with
  | zero => intro M l0 l2 l3 o1 h; unfold fM_trace_29 at h; cases h
  | succ n ih =>
    intro M l0 l2 l3 o1 h
    unfold fM_trace_29 at h
    refine xr_iload_n (pc' := 30) rfl rfl rfl ?_
    refine xr_iload_n (pc' := 31) rfl rfl rfl ?_
    rcases xite h with ⟨hc, h⟩ | ⟨hc, h⟩
    · refine xr_icmp_ge_t (t := 52) rfl hc ?_
      refine xr_aload_n (pc' := 53) rfl rfl rfl ?_
      refine xr_iload_n (pc' := 54) rfl rfl rfl ?_
      obtain ⟨M6, hM6, h⟩ := xbind h
      refine xr_putI (pc' := 57) rfl (by decide) hM6 rfl ?_
      refine xr_aload_n (pc' := 58) rfl rfl rfl ?_
      refine xr_iconst (v := 1) (pc' := 59) rfl (by decide) rfl ?_
      obtain ⟨M7, hM7, h⟩ := xbind h
      refine xr_putZ (pc' := 62) rfl (by decide) hM7 rfl ?_
      refine xr_iconst (v := 1) (pc' := 63) rfl (by decide) rfl ?_
      obtain ⟨rfl, rfl⟩ := xsome2 h
      exact xr_iret rfl mR_235
    · refine xr_icmp_ge_f (pc' := 34) rfl hc rfl ?_
      refine xr_aload_n (pc' := 35) rfl rfl rfl ?_
      obtain ⟨v8, hv8, h⟩ := xbind h
      refine xr_getR (pc' := 38) rfl (by decide) hv8 rfl ?_
      refine xr_iload_n (pc' := 39) rfl rfl rfl ?_
      refine xr_aload_n (pc' := 40) rfl rfl rfl ?_
      obtain ⟨v9, hv9, h⟩ := xbind h
      refine xr_getR (pc' := 43) rfl (by decide) hv9 rfl ?_
      refine xr_iload_n (pc' := 44) rfl rfl rfl ?_
      obtain ⟨v10, hv10, h⟩ := xbind h
      refine xr_aI (pc' := 45) rfl hv10 rfl ?_
      obtain ⟨M11, hM11, h⟩ := xbind h
      refine xr_uI (pc' := 46) rfl hM11 rfl ?_
      refine xr_iinc (c := 1) (pc' := 49) rfl (by decide) rfl rfl rfl ?_
      refine xr_goto (t := 29) rfl ?_
      exact ih M11 _ _ _ _ h
def fM_trace (M : xMem) (this : xId) : Option (Int32 × xMem) :=
  (xob M (some this) 8).bind fun u1 =>
  (fM_readsTrace M u1 ).bind fun q2 =>
  (xgI q2.2 (some this) 8 42).bind fun v3 =>
  (xpI q2.2 (some this) 8 42 (0 : Int32)).bind fun M4 =>
  if q2.1 = 0 then (
    (xgI M4 (some this) 8 44).bind fun v5 =>
    some (((-100 : Int32) - v5), M4))
  else
  fM_trace_29  xF M4 (some this) v3 (0 : Int32)
set_option maxRecDepth 20000 in
theorem TfM_trace {M M' : xMem} {r : Int32} (this : xId) (h : fM_trace M this = some (r, M')) : xrun none 6 235 0 ([some (.inr (.inr (some this))), none, none, none]) ([]) M (some (.inl r), M') := by
  unfold fM_trace at h
  refine xr_aload_n (pc' := 1) rfl rfl rfl ?_
  obtain ⟨u1, hu1, h⟩ := xbind h
  obtain ⟨q2, hq2, h⟩ := xbind h
  refine xr_callV (pc' := 4) (C := 8) (As := []) (rest := _) rfl hu1 mC_236 mL_236 rfl (Nat.le_of_ble_eq_true rfl) rfl (Nat.le_of_ble_eq_true rfl) (TfM_readsTrace _  hq2) rfl ?_
  refine xr_istore_n (pc' := 5) rfl rfl rfl ?_
  refine xr_aload_n (pc' := 6) rfl rfl rfl ?_
  obtain ⟨v3, hv3, h⟩ := xbind h
  refine xr_getI (pc' := 9) rfl (by decide) hv3 rfl ?_
  refine xr_istore_n (pc' := 10) rfl rfl rfl ?_
  refine xr_aload_n (pc' := 11) rfl rfl rfl ?_
  refine xr_iconst (v := 0) (pc' := 12) rfl (by decide) rfl ?_
  obtain ⟨M4, hM4, h⟩ := xbind h
  refine xr_putI (pc' := 15) rfl (by decide) hM4 rfl ?_
  refine xr_iload_n (pc' := 16) rfl rfl rfl ?_
  rcases xite h with ⟨hc, h⟩ | ⟨hc, h⟩
  · refine xr_if_ne_f (pc' := 19) rfl hc rfl ?_
    refine xr_bipush (v := -100) (pc' := 21) rfl (by decide) rfl ?_
    refine xr_aload_n (pc' := 22) rfl rfl rfl ?_
    obtain ⟨v5, hv5, h⟩ := xbind h
    refine xr_getI (pc' := 25) rfl (by decide) hv5 rfl ?_
    refine xr_isub (pc' := 26) rfl rfl ?_
    obtain ⟨rfl, rfl⟩ := xsome2 h
    exact xr_iret rfl mR_235
  · refine xr_if_ne_t (t := 27) rfl hc ?_
    refine xr_iconst (v := 0) (pc' := 28) rfl (by decide) rfl ?_
    refine xr_istore_n (pc' := 29) rfl rfl rfl ?_
    exact TfM_trace_29   xF M4 _ _ _ _ h
-- 246: MagazineDepotModel.goesStep()Z
def fM_goesStep (M : xMem) (this : xId) : Option (Int32 × xMem) :=
  (xgI M (some this) 8 47).bind fun v1 =>
  if v1 = (400 : Int32) then (
    (xpI M (some this) 8 48 (-6 : Int32)).bind fun M2 =>
    some ((0 : Int32), M2))
  else
  (xgI M (some this) 8 47).bind fun v3 =>
  (xpI M (some this) 8 47 (v3 + (1 : Int32))).bind fun M4 =>
  some ((1 : Int32), M4)
set_option maxRecDepth 20000 in
theorem TfM_goesStep {M M' : xMem} {r : Int32} (this : xId) (h : fM_goesStep M this = some (r, M')) : xrun none 0 246 0 ([some (.inr (.inr (some this)))]) ([]) M (some (.inl r), M') := by
  unfold fM_goesStep at h
  refine xr_aload_n (pc' := 1) rfl rfl rfl ?_
  obtain ⟨v1, hv1, h⟩ := xbind h
  refine xr_getI (pc' := 4) rfl (by decide) hv1 rfl ?_
  refine xr_sipush (v := 400) (pc' := 7) rfl (by decide) rfl ?_
  rcases xite h with ⟨hc, h⟩ | ⟨hc, h⟩
  · refine xr_icmp_ne_f (pc' := 10) rfl hc rfl ?_
    refine xr_aload_n (pc' := 11) rfl rfl rfl ?_
    refine xr_bipush (v := -6) (pc' := 13) rfl (by decide) rfl ?_
    obtain ⟨M2, hM2, h⟩ := xbind h
    refine xr_putI (pc' := 16) rfl (by decide) hM2 rfl ?_
    refine xr_iconst (v := 0) (pc' := 17) rfl (by decide) rfl ?_
    obtain ⟨rfl, rfl⟩ := xsome2 h
    exact xr_zret rfl mR_246 (by decide)
  · refine xr_icmp_ne_t (t := 18) rfl hc ?_
    refine xr_aload_n (pc' := 19) rfl rfl rfl ?_
    refine xr_dup_a (pc' := 20) rfl rfl ?_
    obtain ⟨v3, hv3, h⟩ := xbind h
    refine xr_getI (pc' := 23) rfl (by decide) hv3 rfl ?_
    refine xr_iconst (v := 1) (pc' := 24) rfl (by decide) rfl ?_
    refine xr_iadd (pc' := 25) rfl rfl ?_
    obtain ⟨M4, hM4, h⟩ := xbind h
    refine xr_putI (pc' := 28) rfl (by decide) hM4 rfl ?_
    refine xr_iconst (v := 1) (pc' := 29) rfl (by decide) rfl ?_
    obtain ⟨rfl, rfl⟩ := xsome2 h
    exact xr_zret rfl mR_246 (by decide)
-- 248: MagazineDepotModel.runsTake(I)V
def fM_runsTake_81  (M : xMem)  (s0 : Option xId) (s1 : Int32) : Option xMem :=
  (xpI M s0 8 48 s1).bind fun M19 =>
  some M19
set_option maxRecDepth 20000 in
theorem TfM_runsTake_81 {M' : xMem}  (M : xMem)  (s0 : Option xId) (s1 : Int32) (o0 : Option xId) (o1 : Int32) (o2 : Int32) (o3 : Int32) (o4 : Int32) (h : fM_runsTake_81  M  s0 s1 = some M') : xrun none 5 248 81 ([some (.inr (.inr o0)), some (.inl o1), some (.inl o2), some (.inl o3), some (.inl o4)]) ([.inl s1, .inr (.inr s0)]) M (none, M') := by
  unfold fM_runsTake_81 at h
  obtain ⟨M19, hM19, h⟩ := xbind h
  refine xr_putI (pc' := 84) rfl (by decide) hM19 rfl ?_
  refine xr_goto (t := 99) rfl ?_
  obtain rfl := xsome1 h
  exact xr_ret rfl mR_248
def fM_runsTake_59  (M : xMem) (l0 : Option xId) (l1 : Int32) (l2 : Int32) (s0 : Int32) : Option xMem :=
  if 0 ≤ s0 then (
    (xgR M l0 8 29).bind fun v13 =>
    (xob M l0 8).bind fun u14 =>
    (fM_addressOf M u14 s0).bind fun q15 =>
    (xuI q15.2 v13 l1 q15.1).bind fun M16 =>
    some M16)
  else
  (xob M l0 8).bind fun u17 =>
  (fM_isCache M u17 l2).bind fun q18 =>
  if q18.1 = 0 then (
    fM_runsTake_81  q18.2  l0 (-1 : Int32))
  else
  fM_runsTake_81  q18.2  l0 (-3 : Int32)
set_option maxRecDepth 20000 in
theorem TfM_runsTake_59 {M' : xMem}  (M : xMem) (l0 : Option xId) (l1 : Int32) (l2 : Int32) (s0 : Int32) (o3 : Int32) (o4 : Option xVal) (h : fM_runsTake_59  M l0 l1 l2 s0 = some M') : xrun none 5 248 59 ([some (.inr (.inr l0)), some (.inl l1), some (.inl l2), some (.inl o3), o4]) ([.inl s0]) M (none, M') := by
  unfold fM_runsTake_59 at h
  refine xr_istore (pc' := 61) rfl rfl rfl ?_
  refine xr_iload (pc' := 63) rfl rfl rfl ?_
  rcases xite h with ⟨hc, h⟩ | ⟨hc, h⟩
  · refine xr_if_ge_t (t := 87) rfl hc ?_
    refine xr_aload_n (pc' := 88) rfl rfl rfl ?_
    obtain ⟨v13, hv13, h⟩ := xbind h
    refine xr_getR (pc' := 91) rfl (by decide) hv13 rfl ?_
    refine xr_iload_n (pc' := 92) rfl rfl rfl ?_
    refine xr_aload_n (pc' := 93) rfl rfl rfl ?_
    refine xr_iload (pc' := 95) rfl rfl rfl ?_
    obtain ⟨u14, hu14, h⟩ := xbind h
    obtain ⟨q15, hq15, h⟩ := xbind h
    refine xr_callV (pc' := 98) (C := 8) (As := [_]) (rest := _) rfl hu14 mC_181 mL_181 rfl (Nat.le_of_ble_eq_true rfl) rfl (Nat.le_of_ble_eq_true rfl) (TfM_addressOf _ _ hq15) rfl ?_
    obtain ⟨M16, hM16, h⟩ := xbind h
    refine xr_uI (pc' := 99) rfl hM16 rfl ?_
    obtain rfl := xsome1 h
    exact xr_ret rfl mR_248
  · refine xr_if_ge_f (pc' := 66) rfl hc rfl ?_
    refine xr_aload_n (pc' := 67) rfl rfl rfl ?_
    refine xr_aload_n (pc' := 68) rfl rfl rfl ?_
    refine xr_iload_n (pc' := 69) rfl rfl rfl ?_
    obtain ⟨u17, hu17, h⟩ := xbind h
    obtain ⟨q18, hq18, h⟩ := xbind h
    refine xr_callV (pc' := 72) (C := 8) (As := [_]) (rest := _) rfl hu17 mC_166 mL_166 rfl (Nat.le_of_ble_eq_true rfl) rfl (Nat.le_of_ble_eq_true rfl) (TfM_isCache _ _ hq18) rfl ?_
    rcases xite h with ⟨hc, h⟩ | ⟨hc, h⟩
    · refine xr_if_eq_t (t := 80) rfl hc ?_
      refine xr_iconst (v := -1) (pc' := 81) rfl (by decide) rfl ?_
      exact TfM_runsTake_81   q18.2  _ _ _ _ _ _ _ h
    · refine xr_if_eq_f (pc' := 75) rfl hc rfl ?_
      refine xr_bipush (v := -3) (pc' := 77) rfl (by decide) rfl ?_
      refine xr_goto (t := 81) rfl ?_
      exact TfM_runsTake_81   q18.2  _ _ _ _ _ _ _ h
def fM_runsTake (M : xMem) (this : xId) (a0 : Int32) : Option xMem :=
  (xgR M (some this) 8 39).bind fun v1 =>
  (xgI M (some this) 8 44).bind fun v2 =>
  (xaI M v1 (v2 + (2 : Int32))).bind fun v3 =>
  (xgR M (some this) 8 39).bind fun v4 =>
  (xgI M (some this) 8 44).bind fun v5 =>
  (xaI M v4 (v5 + (4 : Int32))).bind fun v6 =>
  (xgI M (some this) 8 44).bind fun v7 =>
  (xpI M (some this) 8 44 (v7 + (5 : Int32))).bind fun M8 =>
  (xob M8 (some this) 8).bind fun u9 =>
  (fM_isCache M8 u9 (v3 - (48 : Int32))).bind fun q10 =>
  if q10.1 = 0 then (
    fM_runsTake_59  q10.2 (some this) a0 (v3 - (48 : Int32)) (-9 : Int32))
  else
  (xob q10.2 (some this) 8).bind fun u11 =>
  (fM_takes q10.2 u11 (v3 - (48 : Int32)) (v6 - (48 : Int32))).bind fun q12 =>
  fM_runsTake_59  q12.2 (some this) a0 (v3 - (48 : Int32)) q12.1
set_option maxRecDepth 20000 in
theorem TfM_runsTake {M M' : xMem} (this : xId) (a0 : Int32) (h : fM_runsTake M this a0 = some M') : xrun none 5 248 0 ([some (.inr (.inr (some this))), some (.inl a0), none, none, none]) ([]) M (none, M') := by
  unfold fM_runsTake at h
  refine xr_aload_n (pc' := 1) rfl rfl rfl ?_
  obtain ⟨v1, hv1, h⟩ := xbind h
  refine xr_getR (pc' := 4) rfl (by decide) hv1 rfl ?_
  refine xr_aload_n (pc' := 5) rfl rfl rfl ?_
  obtain ⟨v2, hv2, h⟩ := xbind h
  refine xr_getI (pc' := 8) rfl (by decide) hv2 rfl ?_
  refine xr_iconst (v := 2) (pc' := 9) rfl (by decide) rfl ?_
  refine xr_iadd (pc' := 10) rfl rfl ?_
  obtain ⟨v3, hv3, h⟩ := xbind h
  refine xr_aI (pc' := 11) rfl hv3 rfl ?_
  refine xr_bipush (v := 48) (pc' := 13) rfl (by decide) rfl ?_
  refine xr_isub (pc' := 14) rfl rfl ?_
  refine xr_istore_n (pc' := 15) rfl rfl rfl ?_
  refine xr_aload_n (pc' := 16) rfl rfl rfl ?_
  obtain ⟨v4, hv4, h⟩ := xbind h
  refine xr_getR (pc' := 19) rfl (by decide) hv4 rfl ?_
  refine xr_aload_n (pc' := 20) rfl rfl rfl ?_
  obtain ⟨v5, hv5, h⟩ := xbind h
  refine xr_getI (pc' := 23) rfl (by decide) hv5 rfl ?_
  refine xr_iconst (v := 4) (pc' := 24) rfl (by decide) rfl ?_
  refine xr_iadd (pc' := 25) rfl rfl ?_
  obtain ⟨v6, hv6, h⟩ := xbind h
  refine xr_aI (pc' := 26) rfl hv6 rfl ?_
  refine xr_bipush (v := 48) (pc' := 28) rfl (by decide) rfl ?_
  refine xr_isub (pc' := 29) rfl rfl ?_
  refine xr_istore_n (pc' := 30) rfl rfl rfl ?_
  refine xr_aload_n (pc' := 31) rfl rfl rfl ?_
  refine xr_dup_a (pc' := 32) rfl rfl ?_
  obtain ⟨v7, hv7, h⟩ := xbind h
  refine xr_getI (pc' := 35) rfl (by decide) hv7 rfl ?_
  refine xr_iconst (v := 5) (pc' := 36) rfl (by decide) rfl ?_
  refine xr_iadd (pc' := 37) rfl rfl ?_
  obtain ⟨M8, hM8, h⟩ := xbind h
  refine xr_putI (pc' := 40) rfl (by decide) hM8 rfl ?_
  refine xr_aload_n (pc' := 41) rfl rfl rfl ?_
  refine xr_iload_n (pc' := 42) rfl rfl rfl ?_
  obtain ⟨u9, hu9, h⟩ := xbind h
  obtain ⟨q10, hq10, h⟩ := xbind h
  refine xr_callV (pc' := 45) (C := 8) (As := [_]) (rest := _) rfl hu9 mC_166 mL_166 rfl (Nat.le_of_ble_eq_true rfl) rfl (Nat.le_of_ble_eq_true rfl) (TfM_isCache _ _ hq10) rfl ?_
  rcases xite h with ⟨hc, h⟩ | ⟨hc, h⟩
  · refine xr_if_eq_t (t := 57) rfl hc ?_
    refine xr_bipush (v := -9) (pc' := 59) rfl (by decide) rfl ?_
    exact TfM_runsTake_59   q10.2 _ _ _ _ _ _ h
  · refine xr_if_eq_f (pc' := 48) rfl hc rfl ?_
    refine xr_aload_n (pc' := 49) rfl rfl rfl ?_
    refine xr_iload_n (pc' := 50) rfl rfl rfl ?_
    refine xr_iload_n (pc' := 51) rfl rfl rfl ?_
    obtain ⟨u11, hu11, h⟩ := xbind h
    obtain ⟨q12, hq12, h⟩ := xbind h
    refine xr_callV (pc' := 54) (C := 8) (As := [_, _]) (rest := _) rfl hu11 mC_169 mL_169 rfl (Nat.le_of_ble_eq_true rfl) rfl (Nat.le_of_ble_eq_true rfl) (TfM_takes _ _ _ hq12) rfl ?_
    refine xr_goto (t := 59) rfl ?_
    exact TfM_runsTake_59   q12.2 _ _ _ _ _ _ h
-- 250: MagazineDepotModel.numberAt()I
def fM_numberAt_2  : Nat → xMem → Option xId → Int32 → Option (Int32 × xMem)
  | 0, _, _, _ => none
  | n + 1, M, l0, l1 =>
    (xgR M l0 8 39).bind fun v1 =>
    (xgI M l0 8 44).bind fun v2 =>
    (xaI M v1 v2).bind fun v3 =>
    (fM_isIn M v3 (48 : Int32) (57 : Int32)).bind fun q4 =>
    if q4.1 = 0 then (
      some (l1, q4.2))
    else
    (xgR q4.2 l0 8 39).bind fun v5 =>
    (xgI q4.2 l0 8 44).bind fun v6 =>
    (xaI q4.2 v5 v6).bind fun v7 =>
    (xgI q4.2 l0 8 44).bind fun v8 =>
    (xpI q4.2 l0 8 44 (v8 + (1 : Int32))).bind fun M9 =>
    (xgI M9 l0 8 44).bind fun v10 =>
    (xgI M9 l0 8 43).bind fun v11 =>
    if v10 = v11 then (
      some (((((10 : Int32) * l1) + v7) - (48 : Int32)), M9))
    else
    fM_numberAt_2  n M9 l0 ((((10 : Int32) * l1) + v7) - (48 : Int32))
set_option maxRecDepth 20000 in
theorem TfM_numberAt_2 {M' : xMem} {r : Int32}  : ∀ (n : Nat) (M : xMem) (l0 : Option xId) (l1 : Int32) , fM_numberAt_2  n M l0 l1 = some (r, M') → xrun none 1 250 2 ([some (.inr (.inr l0)), some (.inl l1)]) ([]) M (some (.inl r), M') := by
  intro n
  induction n with
  | zero => intro M l0 l1  h; unfold fM_numberAt_2 at h; cases h
  | succ n ih =>
    intro M l0 l1  h
    unfold fM_numberAt_2 at h
    refine xr_aload_n (pc' := 3) rfl rfl rfl ?_
    obtain ⟨v1, hv1, h⟩ := xbind h
    refine xr_getR (pc' := 6) rfl (by decide) hv1 rfl ?_
    refine xr_aload_n (pc' := 7) rfl rfl rfl ?_
    obtain ⟨v2, hv2, h⟩ := xbind h
    refine xr_getI (pc' := 10) rfl (by decide) hv2 rfl ?_
    obtain ⟨v3, hv3, h⟩ := xbind h
    refine xr_aI (pc' := 11) rfl hv3 rfl ?_
    refine xr_bipush (v := 48) (pc' := 13) rfl (by decide) rfl ?_
    refine xr_bipush (v := 57) (pc' := 15) rfl (by decide) rfl ?_
    obtain ⟨q4, hq4, h⟩ := xbind h
    refine xr_callS (pc' := 18) (As := [_, _, _]) (rest := _) rfl (by decide) mL_163 rfl (Nat.le_of_ble_eq_true rfl) rfl (Nat.le_of_ble_eq_true rfl) (TfM_isIn _ _ _ hq4) rfl ?_
    rcases xite h with ⟨hc, h⟩ | ⟨hc, h⟩
    · refine xr_if_eq_t (t := 62) rfl hc ?_
      refine xr_iload_n (pc' := 63) rfl rfl rfl ?_
      obtain ⟨rfl, rfl⟩ := xsome2 h
      exact xr_iret rfl mR_250
    · refine xr_if_eq_f (pc' := 21) rfl hc rfl ?_
      refine xr_bipush (v := 10) (pc' := 23) rfl (by decide) rfl ?_
      refine xr_iload_n (pc' := 24) rfl rfl rfl ?_
      refine xr_imul (pc' := 25) rfl rfl ?_
      refine xr_aload_n (pc' := 26) rfl rfl rfl ?_
      obtain ⟨v5, hv5, h⟩ := xbind h
      refine xr_getR (pc' := 29) rfl (by decide) hv5 rfl ?_
      refine xr_aload_n (pc' := 30) rfl rfl rfl ?_
      obtain ⟨v6, hv6, h⟩ := xbind h
      refine xr_getI (pc' := 33) rfl (by decide) hv6 rfl ?_
      obtain ⟨v7, hv7, h⟩ := xbind h
      refine xr_aI (pc' := 34) rfl hv7 rfl ?_
      refine xr_iadd (pc' := 35) rfl rfl ?_
      refine xr_bipush (v := 48) (pc' := 37) rfl (by decide) rfl ?_
      refine xr_isub (pc' := 38) rfl rfl ?_
      refine xr_istore_n (pc' := 39) rfl rfl rfl ?_
      refine xr_aload_n (pc' := 40) rfl rfl rfl ?_
      refine xr_dup_a (pc' := 41) rfl rfl ?_
      obtain ⟨v8, hv8, h⟩ := xbind h
      refine xr_getI (pc' := 44) rfl (by decide) hv8 rfl ?_
      refine xr_iconst (v := 1) (pc' := 45) rfl (by decide) rfl ?_
      refine xr_iadd (pc' := 46) rfl rfl ?_
      obtain ⟨M9, hM9, h⟩ := xbind h
      refine xr_putI (pc' := 49) rfl (by decide) hM9 rfl ?_
      refine xr_aload_n (pc' := 50) rfl rfl rfl ?_
      obtain ⟨v10, hv10, h⟩ := xbind h
      refine xr_getI (pc' := 53) rfl (by decide) hv10 rfl ?_
      refine xr_aload_n (pc' := 54) rfl rfl rfl ?_
      obtain ⟨v11, hv11, h⟩ := xbind h
      refine xr_getI (pc' := 57) rfl (by decide) hv11 rfl ?_
      rcases xite h with ⟨hc, h⟩ | ⟨hc, h⟩
      · refine xr_icmp_ne_f (pc' := 60) rfl hc rfl ?_
        refine xr_iload_n (pc' := 61) rfl rfl rfl ?_
        obtain ⟨rfl, rfl⟩ := xsome2 h
        exact xr_iret rfl mR_250
      · refine xr_icmp_ne_t (t := 2) rfl hc ?_
        exact ih M9 _ _  h
def fM_numberAt (M : xMem) (this : xId) : Option (Int32 × xMem) :=
  fM_numberAt_2  xF M (some this) (0 : Int32)
set_option maxRecDepth 20000 in
theorem TfM_numberAt {M M' : xMem} {r : Int32} (this : xId) (h : fM_numberAt M this = some (r, M')) : xrun none 1 250 0 ([some (.inr (.inr (some this))), none]) ([]) M (some (.inl r), M') := by
  unfold fM_numberAt at h
  refine xr_iconst (v := 0) (pc' := 1) rfl (by decide) rfl ?_
  refine xr_istore_n (pc' := 2) rfl rfl rfl ?_
  exact TfM_numberAt_2   xF M _ _  h
-- 249: MagazineDepotModel.runsWrite(I)V
def fM_runsWrite_60  (M : xMem)  (s0 : Option xId) (s1 : Int32) : Option xMem :=
  (xpI M s0 8 48 s1).bind fun M15 =>
  some M15
set_option maxRecDepth 20000 in
theorem TfM_runsWrite_60 {M' : xMem}  (M : xMem)  (s0 : Option xId) (s1 : Int32) (o0 : Option xId) (o1 : Int32) (o2 : Int32) (o3 : Int32) (h : fM_runsWrite_60  M  s0 s1 = some M') : xrun none 3 249 60 ([some (.inr (.inr o0)), some (.inl o1), some (.inl o2), some (.inl o3)]) ([.inl s1, .inr (.inr s0)]) M (none, M') := by
  unfold fM_runsWrite_60 at h
  obtain ⟨M15, hM15, h⟩ := xbind h
  refine xr_putI (pc' := 63) rfl (by decide) hM15 rfl ?_
  refine xr_goto (t := 73) rfl ?_
  obtain rfl := xsome1 h
  exact xr_ret rfl mR_249
def fM_runsWrite_39  (M : xMem) (l0 : Option xId) (l1 : Int32) (l2 : Int32) (s0 : Int32) : Option xMem :=
  if 0 ≤ s0 then (
    (xgR M l0 8 19).bind fun v11 =>
    (xuI M v11 s0 l2).bind fun M12 =>
    some M12)
  else
  (xgR M l0 8 29).bind fun v13 =>
  (xaI M v13 l1).bind fun v14 =>
  if 0 ≤ v14 then (
    fM_runsWrite_60  M  l0 (-1 : Int32))
  else
  fM_runsWrite_60  M  l0 (-11 : Int32)
set_option maxRecDepth 20000 in
theorem TfM_runsWrite_39 {M' : xMem}  (M : xMem) (l0 : Option xId) (l1 : Int32) (l2 : Int32) (s0 : Int32) (o3 : Option xVal) (h : fM_runsWrite_39  M l0 l1 l2 s0 = some M') : xrun none 3 249 39 ([some (.inr (.inr l0)), some (.inl l1), some (.inl l2), o3]) ([.inl s0]) M (none, M') := by
  unfold fM_runsWrite_39 at h
  refine xr_istore_n (pc' := 40) rfl rfl rfl ?_
  refine xr_iload_n (pc' := 41) rfl rfl rfl ?_
  rcases xite h with ⟨hc, h⟩ | ⟨hc, h⟩
  · refine xr_if_ge_t (t := 66) rfl hc ?_
    refine xr_aload_n (pc' := 67) rfl rfl rfl ?_
    obtain ⟨v11, hv11, h⟩ := xbind h
    refine xr_getR (pc' := 70) rfl (by decide) hv11 rfl ?_
    refine xr_iload_n (pc' := 71) rfl rfl rfl ?_
    refine xr_iload_n (pc' := 72) rfl rfl rfl ?_
    obtain ⟨M12, hM12, h⟩ := xbind h
    refine xr_uI (pc' := 73) rfl hM12 rfl ?_
    obtain rfl := xsome1 h
    exact xr_ret rfl mR_249
  · refine xr_if_ge_f (pc' := 44) rfl hc rfl ?_
    refine xr_aload_n (pc' := 45) rfl rfl rfl ?_
    refine xr_aload_n (pc' := 46) rfl rfl rfl ?_
    obtain ⟨v13, hv13, h⟩ := xbind h
    refine xr_getR (pc' := 49) rfl (by decide) hv13 rfl ?_
    refine xr_iload_n (pc' := 50) rfl rfl rfl ?_
    obtain ⟨v14, hv14, h⟩ := xbind h
    refine xr_aI (pc' := 51) rfl hv14 rfl ?_
    rcases xite h with ⟨hc, h⟩ | ⟨hc, h⟩
    · refine xr_if_ge_t (t := 59) rfl hc ?_
      refine xr_iconst (v := -1) (pc' := 60) rfl (by decide) rfl ?_
      exact TfM_runsWrite_60   M  _ _ _ _ _ _ h
    · refine xr_if_ge_f (pc' := 54) rfl hc rfl ?_
      refine xr_bipush (v := -11) (pc' := 56) rfl (by decide) rfl ?_
      refine xr_goto (t := 60) rfl ?_
      exact TfM_runsWrite_60   M  _ _ _ _ _ _ h
def fM_runsWrite (M : xMem) (this : xId) (a0 : Int32) : Option xMem :=
  (xgI M (some this) 8 44).bind fun v1 =>
  (xpI M (some this) 8 44 (v1 + (2 : Int32))).bind fun M2 =>
  (xob M2 (some this) 8).bind fun u3 =>
  (fM_numberAt M2 u3 ).bind fun q4 =>
  (xgR q4.2 (some this) 8 29).bind fun v5 =>
  (xaI q4.2 v5 a0).bind fun v6 =>
  if 0 ≤ v6 then (
    (xgR q4.2 (some this) 8 29).bind fun v7 =>
    (xaI q4.2 v7 a0).bind fun v8 =>
    (xob q4.2 (some this) 8).bind fun u9 =>
    (fM_liveAt q4.2 u9 v8).bind fun q10 =>
    fM_runsWrite_39  q10.2 (some this) a0 q4.1 q10.1)
  else
  fM_runsWrite_39  q4.2 (some this) a0 q4.1 (-9 : Int32)
set_option maxRecDepth 20000 in
theorem TfM_runsWrite {M M' : xMem} (this : xId) (a0 : Int32) (h : fM_runsWrite M this a0 = some M') : xrun none 3 249 0 ([some (.inr (.inr (some this))), some (.inl a0), none, none]) ([]) M (none, M') := by
  unfold fM_runsWrite at h
  refine xr_aload_n (pc' := 1) rfl rfl rfl ?_
  refine xr_dup_a (pc' := 2) rfl rfl ?_
  obtain ⟨v1, hv1, h⟩ := xbind h
  refine xr_getI (pc' := 5) rfl (by decide) hv1 rfl ?_
  refine xr_iconst (v := 2) (pc' := 6) rfl (by decide) rfl ?_
  refine xr_iadd (pc' := 7) rfl rfl ?_
  obtain ⟨M2, hM2, h⟩ := xbind h
  refine xr_putI (pc' := 10) rfl (by decide) hM2 rfl ?_
  refine xr_aload_n (pc' := 11) rfl rfl rfl ?_
  obtain ⟨u3, hu3, h⟩ := xbind h
  obtain ⟨q4, hq4, h⟩ := xbind h
  refine xr_callV (pc' := 14) (C := 8) (As := []) (rest := _) rfl hu3 mC_250 mL_250 rfl (Nat.le_of_ble_eq_true rfl) rfl (Nat.le_of_ble_eq_true rfl) (TfM_numberAt _  hq4) rfl ?_
  refine xr_istore_n (pc' := 15) rfl rfl rfl ?_
  refine xr_aload_n (pc' := 16) rfl rfl rfl ?_
  obtain ⟨v5, hv5, h⟩ := xbind h
  refine xr_getR (pc' := 19) rfl (by decide) hv5 rfl ?_
  refine xr_iload_n (pc' := 20) rfl rfl rfl ?_
  obtain ⟨v6, hv6, h⟩ := xbind h
  refine xr_aI (pc' := 21) rfl hv6 rfl ?_
  rcases xite h with ⟨hc, h⟩ | ⟨hc, h⟩
  · refine xr_if_ge_t (t := 29) rfl hc ?_
    refine xr_aload_n (pc' := 30) rfl rfl rfl ?_
    refine xr_aload_n (pc' := 31) rfl rfl rfl ?_
    obtain ⟨v7, hv7, h⟩ := xbind h
    refine xr_getR (pc' := 34) rfl (by decide) hv7 rfl ?_
    refine xr_iload_n (pc' := 35) rfl rfl rfl ?_
    obtain ⟨v8, hv8, h⟩ := xbind h
    refine xr_aI (pc' := 36) rfl hv8 rfl ?_
    obtain ⟨u9, hu9, h⟩ := xbind h
    obtain ⟨q10, hq10, h⟩ := xbind h
    refine xr_callV (pc' := 39) (C := 8) (As := [_]) (rest := _) rfl hu9 mC_187 mL_187 rfl (Nat.le_of_ble_eq_true rfl) rfl (Nat.le_of_ble_eq_true rfl) (TfM_liveAt _ _ hq10) rfl ?_
    exact TfM_runsWrite_39   q10.2 _ _ _ _ _ h
  · refine xr_if_ge_f (pc' := 24) rfl hc rfl ?_
    refine xr_bipush (v := -9) (pc' := 26) rfl (by decide) rfl ?_
    refine xr_goto (t := 39) rfl ?_
    exact TfM_runsWrite_39   q4.2 _ _ _ _ _ h
-- 251: MagazineDepotModel.runsGive(I)V
def fM_runsGive_70  (M : xMem)  (s0 : Option xId) (s1 : Int32) : Option xMem :=
  (xpI M s0 8 48 s1).bind fun M21 =>
  some M21
set_option maxRecDepth 20000 in
theorem TfM_runsGive_70 {M' : xMem}  (M : xMem)  (s0 : Option xId) (s1 : Int32) (o0 : Option xId) (o1 : Int32) (o2 : Int32) (o3 : Int32) (h : fM_runsGive_70  M  s0 s1 = some M') : xrun none 3 251 70 ([some (.inr (.inr o0)), some (.inl o1), some (.inl o2), some (.inl o3)]) ([.inl s1, .inr (.inr s0)]) M (none, M') := by
  unfold fM_runsGive_70 at h
  obtain ⟨M21, hM21, h⟩ := xbind h
  refine xr_putI (pc' := 73) rfl (by decide) hM21 rfl ?_
  refine xr_goto (t := 107) rfl ?_
  obtain rfl := xsome1 h
  exact xr_ret rfl mR_251
def fM_runsGive_49  (M : xMem) (l0 : Option xId) (l1 : Int32) (l2 : Int32) (s0 : Int32) : Option xMem :=
  if 0 ≤ s0 then (
    (xob M l0 8).bind fun u12 =>
    (fM_isFit M u12 s0).bind fun q13 =>
    if q13.1 = 0 then (
      (xpI q13.2 l0 8 48 (-5 : Int32)).bind fun M14 =>
      some M14)
    else
    (xob q13.2 l0 8).bind fun u15 =>
    (fM_gives q13.2 u15 s0 l2).bind fun q16 =>
    (xgR q16 l0 8 29).bind fun v17 =>
    (xuI q16 v17 l1 (-9 : Int32)).bind fun M18 =>
    some M18)
  else
  (xgR M l0 8 29).bind fun v19 =>
  (xaI M v19 l1).bind fun v20 =>
  if 0 ≤ v20 then (
    fM_runsGive_70  M  l0 (-1 : Int32))
  else
  fM_runsGive_70  M  l0 (-11 : Int32)
set_option maxRecDepth 20000 in
theorem TfM_runsGive_49 {M' : xMem}  (M : xMem) (l0 : Option xId) (l1 : Int32) (l2 : Int32) (s0 : Int32) (o3 : Option xVal) (h : fM_runsGive_49  M l0 l1 l2 s0 = some M') : xrun none 3 251 49 ([some (.inr (.inr l0)), some (.inl l1), some (.inl l2), o3]) ([.inl s0]) M (none, M') := by
  unfold fM_runsGive_49 at h
  refine xr_istore_n (pc' := 50) rfl rfl rfl ?_
  refine xr_iload_n (pc' := 51) rfl rfl rfl ?_
  rcases xite h with ⟨hc, h⟩ | ⟨hc, h⟩
  · refine xr_if_ge_t (t := 76) rfl hc ?_
    refine xr_aload_n (pc' := 77) rfl rfl rfl ?_
    refine xr_iload_n (pc' := 78) rfl rfl rfl ?_
    obtain ⟨u12, hu12, h⟩ := xbind h
    obtain ⟨q13, hq13, h⟩ := xbind h
    refine xr_callV (pc' := 81) (C := 8) (As := [_]) (rest := _) rfl hu12 mC_189 mL_189 rfl (Nat.le_of_ble_eq_true rfl) rfl (Nat.le_of_ble_eq_true rfl) (TfM_isFit _ _ hq13) rfl ?_
    rcases xite h with ⟨hc, h⟩ | ⟨hc, h⟩
    · refine xr_if_ne_f (pc' := 84) rfl hc rfl ?_
      refine xr_aload_n (pc' := 85) rfl rfl rfl ?_
      refine xr_bipush (v := -5) (pc' := 87) rfl (by decide) rfl ?_
      obtain ⟨M14, hM14, h⟩ := xbind h
      refine xr_putI (pc' := 90) rfl (by decide) hM14 rfl ?_
      refine xr_goto (t := 107) rfl ?_
      obtain rfl := xsome1 h
      exact xr_ret rfl mR_251
    · refine xr_if_ne_t (t := 93) rfl hc ?_
      refine xr_aload_n (pc' := 94) rfl rfl rfl ?_
      refine xr_iload_n (pc' := 95) rfl rfl rfl ?_
      refine xr_iload_n (pc' := 96) rfl rfl rfl ?_
      obtain ⟨u15, hu15, h⟩ := xbind h
      obtain ⟨q16, hq16, h⟩ := xbind h
      refine xr_callV (pc' := 99) (C := 8) (As := [_, _]) (rest := _) rfl hu15 mC_191 mL_191 rfl (Nat.le_of_ble_eq_true rfl) rfl (Nat.le_of_ble_eq_true rfl) (TfM_gives _ _ _ hq16) rfl ?_
      refine xr_aload_n (pc' := 100) rfl rfl rfl ?_
      obtain ⟨v17, hv17, h⟩ := xbind h
      refine xr_getR (pc' := 103) rfl (by decide) hv17 rfl ?_
      refine xr_iload_n (pc' := 104) rfl rfl rfl ?_
      refine xr_bipush (v := -9) (pc' := 106) rfl (by decide) rfl ?_
      obtain ⟨M18, hM18, h⟩ := xbind h
      refine xr_uI (pc' := 107) rfl hM18 rfl ?_
      obtain rfl := xsome1 h
      exact xr_ret rfl mR_251
  · refine xr_if_ge_f (pc' := 54) rfl hc rfl ?_
    refine xr_aload_n (pc' := 55) rfl rfl rfl ?_
    refine xr_aload_n (pc' := 56) rfl rfl rfl ?_
    obtain ⟨v19, hv19, h⟩ := xbind h
    refine xr_getR (pc' := 59) rfl (by decide) hv19 rfl ?_
    refine xr_iload_n (pc' := 60) rfl rfl rfl ?_
    obtain ⟨v20, hv20, h⟩ := xbind h
    refine xr_aI (pc' := 61) rfl hv20 rfl ?_
    rcases xite h with ⟨hc, h⟩ | ⟨hc, h⟩
    · refine xr_if_ge_t (t := 69) rfl hc ?_
      refine xr_iconst (v := -1) (pc' := 70) rfl (by decide) rfl ?_
      exact TfM_runsGive_70   M  _ _ _ _ _ _ h
    · refine xr_if_ge_f (pc' := 64) rfl hc rfl ?_
      refine xr_bipush (v := -11) (pc' := 66) rfl (by decide) rfl ?_
      refine xr_goto (t := 70) rfl ?_
      exact TfM_runsGive_70   M  _ _ _ _ _ _ h
def fM_runsGive (M : xMem) (this : xId) (a0 : Int32) : Option xMem :=
  (xgR M (some this) 8 39).bind fun v1 =>
  (xgI M (some this) 8 44).bind fun v2 =>
  (xaI M v1 (v2 + (3 : Int32))).bind fun v3 =>
  (xgI M (some this) 8 44).bind fun v4 =>
  (xpI M (some this) 8 44 (v4 + (4 : Int32))).bind fun M5 =>
  (xgR M5 (some this) 8 29).bind fun v6 =>
  (xaI M5 v6 a0).bind fun v7 =>
  if 0 ≤ v7 then (
    (xgR M5 (some this) 8 29).bind fun v8 =>
    (xaI M5 v8 a0).bind fun v9 =>
    (xob M5 (some this) 8).bind fun u10 =>
    (fM_liveAt M5 u10 v9).bind fun q11 =>
    fM_runsGive_49  q11.2 (some this) a0 (v3 - (48 : Int32)) q11.1)
  else
  fM_runsGive_49  M5 (some this) a0 (v3 - (48 : Int32)) (-9 : Int32)
set_option maxRecDepth 20000 in
theorem TfM_runsGive {M M' : xMem} (this : xId) (a0 : Int32) (h : fM_runsGive M this a0 = some M') : xrun none 3 251 0 ([some (.inr (.inr (some this))), some (.inl a0), none, none]) ([]) M (none, M') := by
  unfold fM_runsGive at h
  refine xr_aload_n (pc' := 1) rfl rfl rfl ?_
  obtain ⟨v1, hv1, h⟩ := xbind h
  refine xr_getR (pc' := 4) rfl (by decide) hv1 rfl ?_
  refine xr_aload_n (pc' := 5) rfl rfl rfl ?_
  obtain ⟨v2, hv2, h⟩ := xbind h
  refine xr_getI (pc' := 8) rfl (by decide) hv2 rfl ?_
  refine xr_iconst (v := 3) (pc' := 9) rfl (by decide) rfl ?_
  refine xr_iadd (pc' := 10) rfl rfl ?_
  obtain ⟨v3, hv3, h⟩ := xbind h
  refine xr_aI (pc' := 11) rfl hv3 rfl ?_
  refine xr_bipush (v := 48) (pc' := 13) rfl (by decide) rfl ?_
  refine xr_isub (pc' := 14) rfl rfl ?_
  refine xr_istore_n (pc' := 15) rfl rfl rfl ?_
  refine xr_aload_n (pc' := 16) rfl rfl rfl ?_
  refine xr_dup_a (pc' := 17) rfl rfl ?_
  obtain ⟨v4, hv4, h⟩ := xbind h
  refine xr_getI (pc' := 20) rfl (by decide) hv4 rfl ?_
  refine xr_iconst (v := 4) (pc' := 21) rfl (by decide) rfl ?_
  refine xr_iadd (pc' := 22) rfl rfl ?_
  obtain ⟨M5, hM5, h⟩ := xbind h
  refine xr_putI (pc' := 25) rfl (by decide) hM5 rfl ?_
  refine xr_aload_n (pc' := 26) rfl rfl rfl ?_
  obtain ⟨v6, hv6, h⟩ := xbind h
  refine xr_getR (pc' := 29) rfl (by decide) hv6 rfl ?_
  refine xr_iload_n (pc' := 30) rfl rfl rfl ?_
  obtain ⟨v7, hv7, h⟩ := xbind h
  refine xr_aI (pc' := 31) rfl hv7 rfl ?_
  rcases xite h with ⟨hc, h⟩ | ⟨hc, h⟩
  · refine xr_if_ge_t (t := 39) rfl hc ?_
    refine xr_aload_n (pc' := 40) rfl rfl rfl ?_
    refine xr_aload_n (pc' := 41) rfl rfl rfl ?_
    obtain ⟨v8, hv8, h⟩ := xbind h
    refine xr_getR (pc' := 44) rfl (by decide) hv8 rfl ?_
    refine xr_iload_n (pc' := 45) rfl rfl rfl ?_
    obtain ⟨v9, hv9, h⟩ := xbind h
    refine xr_aI (pc' := 46) rfl hv9 rfl ?_
    obtain ⟨u10, hu10, h⟩ := xbind h
    obtain ⟨q11, hq11, h⟩ := xbind h
    refine xr_callV (pc' := 49) (C := 8) (As := [_]) (rest := _) rfl hu10 mC_187 mL_187 rfl (Nat.le_of_ble_eq_true rfl) rfl (Nat.le_of_ble_eq_true rfl) (TfM_liveAt _ _ hq11) rfl ?_
    exact TfM_runsGive_49   q11.2 _ _ _ _ _ h
  · refine xr_if_ge_f (pc' := 34) rfl hc rfl ?_
    refine xr_bipush (v := -9) (pc' := 36) rfl (by decide) rfl ?_
    refine xr_goto (t := 49) rfl ?_
    exact TfM_runsGive_49   M5 _ _ _ _ _ h
