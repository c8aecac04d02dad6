/-! shallow functions of the methods (by program, out of the bytecode), and that a run is what they say -/
-- 21: MagazineDepot$Depot.takeBy(II)I
def fD_takeBy_63  (M : xMem) (l0 : Option xId) (l1 : Int32) (l3 : Option xId)  : Option (Int32 × xMem) :=
  (xob M l0 3).bind fun u20 =>
  (fD_takeFree M u20 l1 l3).bind fun q21 =>
  some (q21.1, q21.2)
set_option maxRecDepth 20000 in
theorem TfD_takeBy_63 {M' : xMem} {r : Int32}  (M : xMem) (l0 : Option xId) (l1 : Int32) (l3 : Option xId)  (o2 : Int32) (o4 : Option xId) (o5 : Option xVal) (h : fD_takeBy_63  M l0 l1 l3  = some (r, M')) : xrun none 3 21 63 ([some (.inr (.inr l0)), some (.inl l1), some (.inl o2), some (.inr (.inr l3)), some (.inr (.inr o4)), o5]) ([]) M (some (.inl r), M') := by
  unfold fD_takeBy_63 at h
  refine xr_aload_n (pc' := 64) rfl rfl rfl ?_
  refine xr_iload_n (pc' := 65) rfl rfl rfl ?_
  refine xr_aload_n (pc' := 66) rfl rfl rfl ?_
  obtain ⟨u20, hu20, h⟩ := xbind h
  obtain ⟨q21, hq21, h⟩ := xbind h
  refine xr_callV (pc' := 69) (C := 3) (As := [_, _]) (rest := _) rfl hu20 mC_31 mL_31 rfl (Nat.le_of_ble_eq_true rfl) rfl (Nat.le_of_ble_eq_true rfl) (TfD_takeFree _ _ _ hq21) rfl ?_
  obtain ⟨rfl, rfl⟩ := xsome2 h
  exact xr_iret rfl mR_21
def fD_takeBy_38  (M : xMem) (l0 : Option xId) (l1 : Int32) (l2 : Int32) (l3 : Option xId)  : Option (Int32 × xMem) :=
  (xgR M l3 2 14).bind fun v10 =>
  (xaI M v10 l2).bind fun v11 =>
  (xob M l0 3).bind fun u12 =>
  (fD_magazineAt M u12 v11).bind fun q13 =>
  if q13.1 = none then (
    fD_takeBy_63  q13.2 l0 l1 l3 )
  else
  (xgI q13.2 q13.1 4 1).bind fun v14 =>
  if v14 = 0 then (
    fD_takeBy_63  q13.2 l0 l1 l3 )
  else
  (xob q13.2 q13.1 4).bind fun u15 =>
  (fP_takeLatest q13.2 u15 ).bind fun q16 =>
  (xgR q16.2 l0 3 0).bind fun v17 =>
  (xob q16.2 v17 0).bind fun u18 =>
  (fA_mark q16.2 u18 q16.1 (1 : Int32)).bind fun q19 =>
  some (q16.1, q19)
set_option maxRecDepth 20000 in
theorem TfD_takeBy_38 {M' : xMem} {r : Int32}  (M : xMem) (l0 : Option xId) (l1 : Int32) (l2 : Int32) (l3 : Option xId)  (o4 : Option xVal) (o5 : Option xVal) (h : fD_takeBy_38  M l0 l1 l2 l3  = some (r, M')) : xrun none 3 21 38 ([some (.inr (.inr l0)), some (.inl l1), some (.inl l2), some (.inr (.inr l3)), o4, o5]) ([]) M (some (.inl r), M') := by
  unfold fD_takeBy_38 at h
  refine xr_aload_n (pc' := 39) rfl rfl rfl ?_
  refine xr_aload_n (pc' := 40) rfl rfl rfl ?_
  obtain ⟨v10, hv10, h⟩ := xbind h
  refine xr_getR (pc' := 43) rfl (by decide) hv10 rfl ?_
  refine xr_iload_n (pc' := 44) rfl rfl rfl ?_
  obtain ⟨v11, hv11, h⟩ := xbind h
  refine xr_aI (pc' := 45) rfl hv11 rfl ?_
  obtain ⟨u12, hu12, h⟩ := xbind h
  obtain ⟨q13, hq13, h⟩ := xbind h
  refine xr_callV (pc' := 48) (C := 3) (As := [_]) (rest := _) rfl hu12 mC_23 mL_23 rfl (Nat.le_of_ble_eq_true rfl) rfl (Nat.le_of_ble_eq_true rfl) (TfD_magazineAt _ _ hq13) rfl ?_
  refine xr_astore (pc' := 50) rfl rfl rfl ?_
  refine xr_aload (pc' := 52) rfl rfl rfl ?_
  rcases xite h with ⟨hc, h⟩ | ⟨hc, h⟩
  · refine xr_ifnull_n (t := 63) rfl hc ?_
    exact TfD_takeBy_63   q13.2 _ _ _  _ _ _ h
  · refine xr_ifnull_s (pc' := 55) rfl hc rfl ?_
    refine xr_aload (pc' := 57) rfl rfl rfl ?_
    obtain ⟨v14, hv14, h⟩ := xbind h
    refine xr_getI (pc' := 60) rfl (by decide) hv14 rfl ?_
    rcases xite h with ⟨hc, h⟩ | ⟨hc, h⟩
    · refine xr_if_ne_f (pc' := 63) rfl hc rfl ?_
      exact TfD_takeBy_63   q13.2 _ _ _  _ _ _ h
    · refine xr_if_ne_t (t := 70) rfl hc ?_
      refine xr_aload (pc' := 72) rfl rfl rfl ?_
      obtain ⟨u15, hu15, h⟩ := xbind h
      obtain ⟨q16, hq16, h⟩ := xbind h
      refine xr_callV (pc' := 75) (C := 4) (As := []) (rest := _) rfl hu15 mC_29 mL_29 rfl (Nat.le_of_ble_eq_true rfl) rfl (Nat.le_of_ble_eq_true rfl) (TfP_takeLatest _  hq16) rfl ?_
      refine xr_istore (pc' := 77) rfl rfl rfl ?_
      refine xr_aload_n (pc' := 78) rfl rfl rfl ?_
      obtain ⟨v17, hv17, h⟩ := xbind h
      refine xr_getR (pc' := 81) rfl (by decide) hv17 rfl ?_
      refine xr_iload (pc' := 83) rfl rfl rfl ?_
      refine xr_iconst (v := 1) (pc' := 84) rfl (by decide) rfl ?_
      obtain ⟨u18, hu18, h⟩ := xbind h
      obtain ⟨q19, hq19, h⟩ := xbind h
      refine xr_callV (pc' := 87) (C := 0) (As := [_, _]) (rest := _) rfl hu18 mC_41 mL_41 rfl (Nat.le_of_ble_eq_true rfl) rfl (Nat.le_of_ble_eq_true rfl) (TfA_mark _ _ _ hq19) rfl ?_
      refine xr_iload (pc' := 89) rfl rfl rfl ?_
      obtain ⟨rfl, rfl⟩ := xsome2 h
      exact xr_iret rfl mR_21
def fD_takeBy (M : xMem) (this : xId) (a0 : Int32) (a1 : Int32) : Option (Int32 × xMem) :=
  (xob M (some this) 3).bind fun u1 =>
  (fD_cacheAt M u1 a0).bind fun q2 =>
  if q2.1 = none then (
    some ((-1 : Int32), q2.2))
  else
  (fX_isProcessor q2.2 a1).bind fun q3 =>
  if q3.1 = 0 then (
    some ((-1 : Int32), q3.2))
  else
  (xgR q3.2 q2.1 2 14).bind fun v4 =>
  (xaI q3.2 v4 a1).bind fun v5 =>
  (xob q3.2 (some this) 3).bind fun u6 =>
  (fD_holdsSome q3.2 u6 v5).bind fun q7 =>
  if q7.1 = 0 then (
    (xob q7.2 (some this) 3).bind fun u8 =>
    (fD_loadSome q7.2 u8 q2.1 a1).bind fun q9 =>
    fD_takeBy_38  q9 (some this) a0 a1 q2.1 )
  else
  fD_takeBy_38  q7.2 (some this) a0 a1 q2.1 
set_option maxRecDepth 20000 in
theorem TfD_takeBy {M M' : xMem} {r : Int32} (this : xId) (a0 : Int32) (a1 : Int32) (h : fD_takeBy M this a0 a1 = some (r, M')) : xrun none 3 21 0 ([some (.inr (.inr (some this))), some (.inl a0), some (.inl a1), none, none, none]) ([]) M (some (.inl r), M') := by
  unfold fD_takeBy at h
  refine xr_aload_n (pc' := 1) rfl rfl rfl ?_
  refine xr_iload_n (pc' := 2) rfl rfl rfl ?_
  obtain ⟨u1, hu1, h⟩ := xbind h
  obtain ⟨q2, hq2, h⟩ := xbind h
  refine xr_callV (pc' := 5) (C := 3) (As := [_]) (rest := _) rfl hu1 mC_18 mL_18 rfl (Nat.le_of_ble_eq_true rfl) rfl (Nat.le_of_ble_eq_true rfl) (TfD_cacheAt _ _ hq2) rfl ?_
  refine xr_astore_n (pc' := 6) rfl rfl rfl ?_
  refine xr_aload_n (pc' := 7) rfl rfl rfl ?_
  rcases xite h with ⟨hc, h⟩ | ⟨hc, h⟩
  · refine xr_ifnull_n (t := 17) rfl hc ?_
    refine xr_iconst (v := -1) (pc' := 18) rfl (by decide) rfl ?_
    obtain ⟨rfl, rfl⟩ := xsome2 h
    exact xr_iret rfl mR_21
  · refine xr_ifnull_s (pc' := 10) rfl hc rfl ?_
    refine xr_iload_n (pc' := 11) rfl rfl rfl ?_
    obtain ⟨q3, hq3, h⟩ := xbind h
    refine xr_callS (pc' := 14) (As := [_]) (rest := _) rfl (by decide) mL_20 rfl (Nat.le_of_ble_eq_true rfl) rfl (Nat.le_of_ble_eq_true rfl) (TfX_isProcessor _ hq3) rfl ?_
    rcases xite h with ⟨hc, h⟩ | ⟨hc, h⟩
    · refine xr_if_ne_f (pc' := 17) rfl hc rfl ?_
      refine xr_iconst (v := -1) (pc' := 18) rfl (by decide) rfl ?_
      obtain ⟨rfl, rfl⟩ := xsome2 h
      exact xr_iret rfl mR_21
    · refine xr_if_ne_t (t := 19) rfl hc ?_
      refine xr_aload_n (pc' := 20) rfl rfl rfl ?_
      refine xr_aload_n (pc' := 21) rfl rfl rfl ?_
      obtain ⟨v4, hv4, h⟩ := xbind h
      refine xr_getR (pc' := 24) rfl (by decide) hv4 rfl ?_
      refine xr_iload_n (pc' := 25) rfl rfl rfl ?_
      obtain ⟨v5, hv5, h⟩ := xbind h
      refine xr_aI (pc' := 26) rfl hv5 rfl ?_
      obtain ⟨u6, hu6, h⟩ := xbind h
      obtain ⟨q7, hq7, h⟩ := xbind h
      refine xr_callV (pc' := 29) (C := 3) (As := [_]) (rest := _) rfl hu6 mC_22 mL_22 rfl (Nat.le_of_ble_eq_true rfl) rfl (Nat.le_of_ble_eq_true rfl) (TfD_holdsSome _ _ hq7) rfl ?_
      rcases xite h with ⟨hc, h⟩ | ⟨hc, h⟩
      · refine xr_if_ne_f (pc' := 32) rfl hc rfl ?_
        refine xr_aload_n (pc' := 33) rfl rfl rfl ?_
        refine xr_aload_n (pc' := 34) rfl rfl rfl ?_
        refine xr_iload_n (pc' := 35) rfl rfl rfl ?_
        obtain ⟨u8, hu8, h⟩ := xbind h
        obtain ⟨q9, hq9, h⟩ := xbind h
        refine xr_callV (pc' := 38) (C := 3) (As := [_, _]) (rest := _) rfl hu8 mC_24 mL_24 rfl (Nat.le_of_ble_eq_true rfl) rfl (Nat.le_of_ble_eq_true rfl) (TfD_loadSome _ _ _ hq9) rfl ?_
        exact TfD_takeBy_38   q9 _ _ _ _  _ _ h
      · refine xr_if_ne_t (t := 38) rfl hc ?_
        exact TfD_takeBy_38   q7.2 _ _ _ _  _ _ h
-- 19: MagazineDepot.take(II)I
def fX_take (M : xMem) (this : xId) (a0 : Int32) (a1 : Int32) : Option (Int32 × xMem) :=
  (xgR M (some this) 7 0).bind fun v1 =>
  (xob M v1 3).bind fun u2 =>
  (fD_cacheAt M u2 a0).bind fun q3 =>
  if q3.1 = none then (
    some ((-1 : Int32), q3.2))
  else
  (fX_isProcessor q3.2 a1).bind fun q4 =>
  if q4.1 = 0 then (
    some ((-1 : Int32), q4.2))
  else
  (xgR q4.2 (some this) 7 0).bind fun v5 =>
  (xob q4.2 v5 3).bind fun u6 =>
  (fD_takeBy q4.2 u6 a0 a1).bind fun q7 =>
  if q7.1 = (-1 : Int32) then (
    some ((-3 : Int32), q7.2))
  else
  (xgR q7.2 (some this) 7 0).bind fun v8 =>
  (xgR q7.2 v8 3 0).bind fun v9 =>
  (xob q7.2 v9 0).bind fun u10 =>
  (fA_addressOf q7.2 u10 q7.1).bind fun q11 =>
  some (q11.1, q11.2)
set_option maxRecDepth 20000 in
theorem TfX_take {M M' : xMem} {r : Int32} (this : xId) (a0 : Int32) (a1 : Int32) (h : fX_take M this a0 a1 = some (r, M')) : xrun none 4 19 0 ([some (.inr (.inr (some this))), some (.inl a0), some (.inl a1), none]) ([]) M (some (.inl r), M') := by
  unfold fX_take at h
  refine xr_aload_n (pc' := 1) rfl rfl rfl ?_
  obtain ⟨v1, hv1, h⟩ := xbind h
  refine xr_getR (pc' := 4) rfl (by decide) hv1 rfl ?_
  refine xr_iload_n (pc' := 5) rfl rfl rfl ?_
  obtain ⟨u2, hu2, h⟩ := xbind h
  obtain ⟨q3, hq3, h⟩ := xbind h
  refine xr_callV (pc' := 8) (C := 3) (As := [_]) (rest := _) rfl hu2 mC_18 mL_18 rfl (Nat.le_of_ble_eq_true rfl) rfl (Nat.le_of_ble_eq_true rfl) (TfD_cacheAt _ _ hq3) rfl ?_
  rcases xite h with ⟨hc, h⟩ | ⟨hc, h⟩
  · refine xr_ifnull_n (t := 18) rfl hc ?_
    refine xr_iconst (v := -1) (pc' := 19) rfl (by decide) rfl ?_
    obtain ⟨rfl, rfl⟩ := xsome2 h
    exact xr_iret rfl mR_19
  · refine xr_ifnull_s (pc' := 11) rfl hc rfl ?_
    refine xr_iload_n (pc' := 12) rfl rfl rfl ?_
    obtain ⟨q4, hq4, h⟩ := xbind h
    refine xr_callS (pc' := 15) (As := [_]) (rest := _) rfl (by decide) mL_20 rfl (Nat.le_of_ble_eq_true rfl) rfl (Nat.le_of_ble_eq_true rfl) (TfX_isProcessor _ hq4) rfl ?_
    rcases xite h with ⟨hc, h⟩ | ⟨hc, h⟩
    · refine xr_if_ne_f (pc' := 18) rfl hc rfl ?_
      refine xr_iconst (v := -1) (pc' := 19) rfl (by decide) rfl ?_
      obtain ⟨rfl, rfl⟩ := xsome2 h
      exact xr_iret rfl mR_19
    · refine xr_if_ne_t (t := 20) rfl hc ?_
      refine xr_aload_n (pc' := 21) rfl rfl rfl ?_
      obtain ⟨v5, hv5, h⟩ := xbind h
      refine xr_getR (pc' := 24) rfl (by decide) hv5 rfl ?_
      refine xr_iload_n (pc' := 25) rfl rfl rfl ?_
      refine xr_iload_n (pc' := 26) rfl rfl rfl ?_
      obtain ⟨u6, hu6, h⟩ := xbind h
      obtain ⟨q7, hq7, h⟩ := xbind h
      refine xr_callV (pc' := 29) (C := 3) (As := [_, _]) (rest := _) rfl hu6 mC_21 mL_21 rfl (Nat.le_of_ble_eq_true rfl) rfl (Nat.le_of_ble_eq_true rfl) (TfD_takeBy _ _ _ hq7) rfl ?_
      refine xr_istore_n (pc' := 30) rfl rfl rfl ?_
      refine xr_iload_n (pc' := 31) rfl rfl rfl ?_
      refine xr_iconst (v := -1) (pc' := 32) rfl (by decide) rfl ?_
      rcases xite h with ⟨hc, h⟩ | ⟨hc, h⟩
      · refine xr_icmp_ne_f (pc' := 35) rfl hc rfl ?_
        refine xr_bipush (v := -3) (pc' := 37) rfl (by decide) rfl ?_
        refine xr_goto (t := 51) rfl ?_
        obtain ⟨rfl, rfl⟩ := xsome2 h
        exact xr_iret rfl mR_19
      · refine xr_icmp_ne_t (t := 40) rfl hc ?_
        refine xr_aload_n (pc' := 41) rfl rfl rfl ?_
        obtain ⟨v8, hv8, h⟩ := xbind h
        refine xr_getR (pc' := 44) rfl (by decide) hv8 rfl ?_
        obtain ⟨v9, hv9, h⟩ := xbind h
        refine xr_getR (pc' := 47) rfl (by decide) hv9 rfl ?_
        refine xr_iload_n (pc' := 48) rfl rfl rfl ?_
        obtain ⟨u10, hu10, h⟩ := xbind h
        obtain ⟨q11, hq11, h⟩ := xbind h
        refine xr_callV (pc' := 51) (C := 0) (As := [_]) (rest := _) rfl hu10 mC_38 mL_38 rfl (Nat.le_of_ble_eq_true rfl) rfl (Nat.le_of_ble_eq_true rfl) (TfA_addressOf _ _ hq11) rfl ?_
        obtain ⟨rfl, rfl⟩ := xsome2 h
        exact xr_iret rfl mR_19
-- 44: MagazineDepot.isByte(I)Z
def fX_isByte (M : xMem) (a0 : Int32) : Option (Int32 × xMem) :=
  if a0 < 0 then (
    some ((0 : Int32), M))
  else
  if (32768 : Int32) ≤ a0 then (
    some ((0 : Int32), M))
  else
  some ((1 : Int32), M)
set_option maxRecDepth 20000 in
theorem TfX_isByte {M M' : xMem} {r : Int32} (a0 : Int32) (h : fX_isByte M a0 = some (r, M')) : xrun none 0 44 0 ([some (.inl a0)]) ([]) M (some (.inl r), M') := by
  unfold fX_isByte at h
  refine xr_iload_n (pc' := 1) rfl rfl rfl ?_
  rcases xite h with ⟨hc, h⟩ | ⟨hc, h⟩
  · refine xr_if_lt_t (t := 15) rfl hc ?_
    refine xr_iconst (v := 0) (pc' := 16) rfl (by decide) rfl ?_
    obtain ⟨rfl, rfl⟩ := xsome2 h
    exact xr_zret rfl mR_44 (by decide)
  · refine xr_if_lt_f (pc' := 4) rfl hc rfl ?_
    refine xr_iload_n (pc' := 5) rfl rfl rfl ?_
    refine xr_ldc_w (v := 32768) (pc' := 8) rfl (by decide) rfl ?_
    rcases xite h with ⟨hc, h⟩ | ⟨hc, h⟩
    · refine xr_icmp_ge_t (t := 15) rfl hc ?_
      refine xr_iconst (v := 0) (pc' := 16) rfl (by decide) rfl ?_
      obtain ⟨rfl, rfl⟩ := xsome2 h
      exact xr_zret rfl mR_44 (by decide)
    · refine xr_icmp_ge_f (pc' := 11) rfl hc rfl ?_
      refine xr_iconst (v := 1) (pc' := 12) rfl (by decide) rfl ?_
      refine xr_goto (t := 16) rfl ?_
      obtain ⟨rfl, rfl⟩ := xsome2 h
      exact xr_zret rfl mR_44 (by decide)
-- 43: MagazineDepot$Arena.slotOf(I)I
def fA_slotOf (M : xMem) (this : xId) (a0 : Int32) : Option (Int32 × xMem) :=
  (fX_isByte M a0).bind fun q1 =>
  if q1.1 = 0 then (
    some ((-1 : Int32), q1.2))
  else
  (xgR q1.2 (some this) 0 2).bind fun v2 =>
  (xaI q1.2 v2 (a0 / (1024 : Int32))).bind fun v3 =>
  (xgR q1.2 (some this) 0 0).bind fun v4 =>
  (xaI q1.2 v4 (a0 / (1024 : Int32))).bind fun v5 =>
  if v5 = (-1 : Int32) then (
    some ((-1 : Int32), q1.2))
  else
  if 0 < v3 then (
    (xgR q1.2 (some this) 0 1).bind fun v6 =>
    (xaI q1.2 v6 (a0 / (1024 : Int32))).bind fun v7 =>
    if (((a0 - a0 / (1024 : Int32) * (1024 : Int32)) - (32 : Int32)) - v7) < 0 then (
      some ((-1 : Int32), q1.2))
    else
    if v3 = 0 then none else
    if ((((a0 - a0 / (1024 : Int32) * (1024 : Int32)) - (32 : Int32)) - v7) - (((a0 - a0 / (1024 : Int32) * (1024 : Int32)) - (32 : Int32)) - v7) / v3 * v3) = 0 then (
      if v3 = 0 then none else
      (xgR q1.2 (some this) 0 3).bind fun v8 =>
      (xaI q1.2 v8 (a0 / (1024 : Int32))).bind fun v9 =>
      if ((((a0 - a0 / (1024 : Int32) * (1024 : Int32)) - (32 : Int32)) - v7) / v3) < v9 then (
        if v3 = 0 then none else
        some ((((a0 / (1024 : Int32)) * (62 : Int32)) + ((((a0 - a0 / (1024 : Int32) * (1024 : Int32)) - (32 : Int32)) - v7) / v3)), q1.2))
      else
      some ((-1 : Int32), q1.2))
    else
    some ((-1 : Int32), q1.2))
  else
  some ((-1 : Int32), q1.2)
set_option maxRecDepth 20000 in
theorem TfA_slotOf {M M' : xMem} {r : Int32} (this : xId) (a0 : Int32) (h : fA_slotOf M this a0 = some (r, M')) : xrun none 1 43 0 ([some (.inr (.inr (some this))), some (.inl a0), none, none, none]) ([]) M (some (.inl r), M') := by
  unfold fA_slotOf at h
  refine xr_iload_n (pc' := 1) rfl rfl rfl ?_
  obtain ⟨q1, hq1, h⟩ := xbind h
  refine xr_callS (pc' := 4) (As := [_]) (rest := _) rfl (by decide) mL_44 rfl (Nat.le_of_ble_eq_true rfl) rfl (Nat.le_of_ble_eq_true rfl) (TfX_isByte _ hq1) rfl ?_
  rcases xite h with ⟨hc, h⟩ | ⟨hc, h⟩
  · refine xr_if_ne_f (pc' := 7) rfl hc rfl ?_
    refine xr_iconst (v := -1) (pc' := 8) rfl (by decide) rfl ?_
    obtain ⟨rfl, rfl⟩ := xsome2 h
    exact xr_iret rfl mR_43
  · refine xr_if_ne_t (t := 9) rfl hc ?_
    refine xr_iload_n (pc' := 10) rfl rfl rfl ?_
    refine xr_sipush (v := 1024) (pc' := 13) rfl (by decide) rfl ?_
    refine xr_idiv (pc' := 14) rfl (by decide) rfl ?_
    refine xr_istore_n (pc' := 15) rfl rfl rfl ?_
    refine xr_aload_n (pc' := 16) rfl rfl rfl ?_
    obtain ⟨v2, hv2, h⟩ := xbind h
    refine xr_getR (pc' := 19) rfl (by decide) hv2 rfl ?_
    refine xr_iload_n (pc' := 20) rfl rfl rfl ?_
    obtain ⟨v3, hv3, h⟩ := xbind h
    refine xr_aI (pc' := 21) rfl hv3 rfl ?_
    refine xr_istore_n (pc' := 22) rfl rfl rfl ?_
    refine xr_aload_n (pc' := 23) rfl rfl rfl ?_
    obtain ⟨v4, hv4, h⟩ := xbind h
    refine xr_getR (pc' := 26) rfl (by decide) hv4 rfl ?_
    refine xr_iload_n (pc' := 27) rfl rfl rfl ?_
    obtain ⟨v5, hv5, h⟩ := xbind h
    refine xr_aI (pc' := 28) rfl hv5 rfl ?_
    refine xr_iconst (v := -1) (pc' := 29) rfl (by decide) rfl ?_
    rcases xite h with ⟨hc, h⟩ | ⟨hc, h⟩
    · refine xr_icmp_eq_t (t := 36) rfl hc ?_
      refine xr_iconst (v := -1) (pc' := 37) rfl (by decide) rfl ?_
      obtain ⟨rfl, rfl⟩ := xsome2 h
      exact xr_iret rfl mR_43
    · refine xr_icmp_eq_f (pc' := 32) rfl hc rfl ?_
      refine xr_iload_n (pc' := 33) rfl rfl rfl ?_
      rcases xite h with ⟨hc, h⟩ | ⟨hc, h⟩
      · refine xr_if_gt_t (t := 38) rfl hc ?_
        refine xr_iload_n (pc' := 39) rfl rfl rfl ?_
        refine xr_sipush (v := 1024) (pc' := 42) rfl (by decide) rfl ?_
        refine xr_irem (pc' := 43) rfl (by decide) rfl ?_
        refine xr_bipush (v := 32) (pc' := 45) rfl (by decide) rfl ?_
        refine xr_isub (pc' := 46) rfl rfl ?_
        refine xr_aload_n (pc' := 47) rfl rfl rfl ?_
        obtain ⟨v6, hv6, h⟩ := xbind h
        refine xr_getR (pc' := 50) rfl (by decide) hv6 rfl ?_
        refine xr_iload_n (pc' := 51) rfl rfl rfl ?_
        obtain ⟨v7, hv7, h⟩ := xbind h
        refine xr_aI (pc' := 52) rfl hv7 rfl ?_
        refine xr_isub (pc' := 53) rfl rfl ?_
        refine xr_istore (pc' := 55) rfl rfl rfl ?_
        refine xr_iload (pc' := 57) rfl rfl rfl ?_
        rcases xite h with ⟨hc, h⟩ | ⟨hc, h⟩
        · refine xr_if_lt_t (t := 80) rfl hc ?_
          refine xr_iconst (v := -1) (pc' := 81) rfl (by decide) rfl ?_
          obtain ⟨rfl, rfl⟩ := xsome2 h
          exact xr_iret rfl mR_43
        · refine xr_if_lt_f (pc' := 60) rfl hc rfl ?_
          refine xr_iload (pc' := 62) rfl rfl rfl ?_
          refine xr_iload_n (pc' := 63) rfl rfl rfl ?_
          rcases xite h with ⟨hc, h⟩ | ⟨hc, h⟩
          · cases h
          refine xr_irem (pc' := 64) rfl hc rfl ?_
          rcases xite h with ⟨hc, h⟩ | ⟨hc, h⟩
          · refine xr_if_ne_f (pc' := 67) rfl hc rfl ?_
            refine xr_iload (pc' := 69) rfl rfl rfl ?_
            refine xr_iload_n (pc' := 70) rfl rfl rfl ?_
            rcases xite h with ⟨hc, h⟩ | ⟨hc, h⟩
            · cases h
            refine xr_idiv (pc' := 71) rfl hc rfl ?_
            refine xr_aload_n (pc' := 72) rfl rfl rfl ?_
            obtain ⟨v8, hv8, h⟩ := xbind h
            refine xr_getR (pc' := 75) rfl (by decide) hv8 rfl ?_
            refine xr_iload_n (pc' := 76) rfl rfl rfl ?_
            obtain ⟨v9, hv9, h⟩ := xbind h
            refine xr_aI (pc' := 77) rfl hv9 rfl ?_
            rcases xite h with ⟨hc, h⟩ | ⟨hc, h⟩
            · refine xr_icmp_lt_t (t := 82) rfl hc ?_
              refine xr_iload_n (pc' := 83) rfl rfl rfl ?_
              refine xr_bipush (v := 62) (pc' := 85) rfl (by decide) rfl ?_
              refine xr_imul (pc' := 86) rfl rfl ?_
              refine xr_iload (pc' := 88) rfl rfl rfl ?_
              refine xr_iload_n (pc' := 89) rfl rfl rfl ?_
              rcases xite h with ⟨hc, h⟩ | ⟨hc, h⟩
              · cases h
              refine xr_idiv (pc' := 90) rfl hc rfl ?_
              refine xr_iadd (pc' := 91) rfl rfl ?_
              obtain ⟨rfl, rfl⟩ := xsome2 h
              exact xr_iret rfl mR_43
            · refine xr_icmp_lt_f (pc' := 80) rfl hc rfl ?_
              refine xr_iconst (v := -1) (pc' := 81) rfl (by decide) rfl ?_
              obtain ⟨rfl, rfl⟩ := xsome2 h
              exact xr_iret rfl mR_43
          · refine xr_if_ne_t (t := 80) rfl hc ?_
            refine xr_iconst (v := -1) (pc' := 81) rfl (by decide) rfl ?_
            obtain ⟨rfl, rfl⟩ := xsome2 h
            exact xr_iret rfl mR_43
      · refine xr_if_gt_f (pc' := 36) rfl hc rfl ?_
        refine xr_iconst (v := -1) (pc' := 37) rfl (by decide) rfl ?_
        obtain ⟨rfl, rfl⟩ := xsome2 h
        exact xr_iret rfl mR_43
-- 46: MagazineDepot$Arena.stateOf(I)I
def fA_stateOf (M : xMem) (this : xId) (a0 : Int32) : Option (Int32 × xMem) :=
  if a0 < 0 then (
    some ((-1 : Int32), M))
  else
  if a0 < (1984 : Int32) then (
    let x1 : Int64 := ((1 : Int64) <<< (Int32.toInt64 (a0 - a0 / (62 : Int32) * (62 : Int32)) &&& 63))
    (xgR M (some this) 0 4).bind fun v2 =>
    (xaL M v2 (a0 / (62 : Int32))).bind fun v3 =>
    if (lg_cmp (v3 &&& x1) (0 : Int64)) = 0 then (
      (xgR M (some this) 0 5).bind fun v4 =>
      (xaL M v4 (a0 / (62 : Int32))).bind fun v5 =>
      if (lg_cmp (v5 &&& x1) (0 : Int64)) = 0 then (
        some ((2 : Int32), M))
      else
      some ((1 : Int32), M))
    else
    some ((0 : Int32), M))
  else
  some ((-1 : Int32), M)
set_option maxRecDepth 20000 in
theorem TfA_stateOf {M M' : xMem} {r : Int32} (this : xId) (a0 : Int32) (h : fA_stateOf M this a0 = some (r, M')) : xrun none 0 46 0 ([some (.inr (.inr (some this))), some (.inl a0), none, none]) ([]) M (some (.inl r), M') := by
  unfold fA_stateOf at h
  refine xr_iload_n (pc' := 1) rfl rfl rfl ?_
  rcases xite h with ⟨hc, h⟩ | ⟨hc, h⟩
  · refine xr_if_lt_t (t := 11) rfl hc ?_
    refine xr_iconst (v := -1) (pc' := 12) rfl (by decide) rfl ?_
    obtain ⟨rfl, rfl⟩ := xsome2 h
    exact xr_iret rfl mR_46
  · refine xr_if_lt_f (pc' := 4) rfl hc rfl ?_
    refine xr_iload_n (pc' := 5) rfl rfl rfl ?_
    refine xr_sipush (v := 1984) (pc' := 8) rfl (by decide) rfl ?_
    rcases xite h with ⟨hc, h⟩ | ⟨hc, h⟩
    · refine xr_icmp_lt_t (t := 13) rfl hc ?_
      refine xr_lconst (v := 1) (pc' := 14) rfl (by decide) rfl ?_
      refine xr_iload_n (pc' := 15) rfl rfl rfl ?_
      refine xr_bipush (v := 62) (pc' := 17) rfl (by decide) rfl ?_
      refine xr_irem (pc' := 18) rfl (by decide) rfl ?_
      refine xr_lshl (pc' := 19) rfl rfl ?_
      refine xr_lstore_n (pc' := 20) rfl rfl rfl ?_
      refine xr_aload_n (pc' := 21) rfl rfl rfl ?_
      obtain ⟨v2, hv2, h⟩ := xbind h
      refine xr_getR (pc' := 24) rfl (by decide) hv2 rfl ?_
      refine xr_iload_n (pc' := 25) rfl rfl rfl ?_
      refine xr_bipush (v := 62) (pc' := 27) rfl (by decide) rfl ?_
      refine xr_idiv (pc' := 28) rfl (by decide) rfl ?_
      obtain ⟨v3, hv3, h⟩ := xbind h
      refine xr_aL (pc' := 29) rfl hv3 rfl ?_
      refine xr_lload_n (pc' := 30) rfl rfl rfl ?_
      refine xr_land (pc' := 31) rfl rfl ?_
      refine xr_lconst (v := 0) (pc' := 32) rfl (by decide) rfl ?_
      refine xr_lcmp (pc' := 33) rfl rfl ?_
      rcases xite h with ⟨hc, h⟩ | ⟨hc, h⟩
      · refine xr_if_eq_t (t := 38) rfl hc ?_
        refine xr_aload_n (pc' := 39) rfl rfl rfl ?_
        obtain ⟨v4, hv4, h⟩ := xbind h
        refine xr_getR (pc' := 42) rfl (by decide) hv4 rfl ?_
        refine xr_iload_n (pc' := 43) rfl rfl rfl ?_
        refine xr_bipush (v := 62) (pc' := 45) rfl (by decide) rfl ?_
        refine xr_idiv (pc' := 46) rfl (by decide) rfl ?_
        obtain ⟨v5, hv5, h⟩ := xbind h
        refine xr_aL (pc' := 47) rfl hv5 rfl ?_
        refine xr_lload_n (pc' := 48) rfl rfl rfl ?_
        refine xr_land (pc' := 49) rfl rfl ?_
        refine xr_lconst (v := 0) (pc' := 50) rfl (by decide) rfl ?_
        refine xr_lcmp (pc' := 51) rfl rfl ?_
        rcases xite h with ⟨hc, h⟩ | ⟨hc, h⟩
        · refine xr_if_eq_t (t := 58) rfl hc ?_
          refine xr_iconst (v := 2) (pc' := 59) rfl (by decide) rfl ?_
          obtain ⟨rfl, rfl⟩ := xsome2 h
          exact xr_iret rfl mR_46
        · refine xr_if_eq_f (pc' := 54) rfl hc rfl ?_
          refine xr_iconst (v := 1) (pc' := 55) rfl (by decide) rfl ?_
          refine xr_goto (t := 59) rfl ?_
          obtain ⟨rfl, rfl⟩ := xsome2 h
          exact xr_iret rfl mR_46
      · refine xr_if_eq_f (pc' := 36) rfl hc rfl ?_
        refine xr_iconst (v := 0) (pc' := 37) rfl (by decide) rfl ?_
        obtain ⟨rfl, rfl⟩ := xsome2 h
        exact xr_iret rfl mR_46
    · refine xr_icmp_lt_f (pc' := 11) rfl hc rfl ?_
      refine xr_iconst (v := -1) (pc' := 12) rfl (by decide) rfl ?_
      obtain ⟨rfl, rfl⟩ := xsome2 h
      exact xr_iret rfl mR_46
-- 45: MagazineDepot$Arena.isLive(I)Z
def fA_isLive (M : xMem) (this : xId) (a0 : Int32) : Option (Int32 × xMem) :=
  (xob M (some this) 0).bind fun u1 =>
  (fA_stateOf M u1 a0).bind fun q2 =>
  if q2.1 = (1 : Int32) then (
    some ((1 : Int32), q2.2))
  else
  some ((0 : Int32), q2.2)
set_option maxRecDepth 20000 in
theorem TfA_isLive {M M' : xMem} {r : Int32} (this : xId) (a0 : Int32) (h : fA_isLive M this a0 = some (r, M')) : xrun none 1 45 0 ([some (.inr (.inr (some this))), some (.inl a0)]) ([]) M (some (.inl r), M') := by
  unfold fA_isLive at h
  refine xr_aload_n (pc' := 1) rfl rfl rfl ?_
  refine xr_iload_n (pc' := 2) rfl rfl rfl ?_
  obtain ⟨u1, hu1, h⟩ := xbind h
  obtain ⟨q2, hq2, h⟩ := xbind h
  refine xr_callV (pc' := 5) (C := 0) (As := [_]) (rest := _) rfl hu1 mC_46 mL_46 rfl (Nat.le_of_ble_eq_true rfl) rfl (Nat.le_of_ble_eq_true rfl) (TfA_stateOf _ _ hq2) rfl ?_
  refine xr_iconst (v := 1) (pc' := 6) rfl (by decide) rfl ?_
  rcases xite h with ⟨hc, h⟩ | ⟨hc, h⟩
  · refine xr_icmp_ne_f (pc' := 9) rfl hc rfl ?_
    refine xr_iconst (v := 1) (pc' := 10) rfl (by decide) rfl ?_
    refine xr_goto (t := 14) rfl ?_
    obtain ⟨rfl, rfl⟩ := xsome2 h
    exact xr_zret rfl mR_45 (by decide)
  · refine xr_icmp_ne_t (t := 13) rfl hc ?_
    refine xr_iconst (v := 0) (pc' := 14) rfl (by decide) rfl ?_
    obtain ⟨rfl, rfl⟩ := xsome2 h
    exact xr_zret rfl mR_45 (by decide)
-- 48: MagazineDepot$Arena.cacheOfSlot(I)I
def fA_cacheOfSlot (M : xMem) (this : xId) (a0 : Int32) : Option (Int32 × xMem) :=
  if a0 < 0 then (
    some ((-1 : Int32), M))
  else
  if (1984 : Int32) ≤ a0 then (
    some ((-1 : Int32), M))
  else
  (xgR M (some this) 0 0).bind fun v1 =>
  (xaI M v1 (a0 / (62 : Int32))).bind fun v2 =>
  some (v2, M)
set_option maxRecDepth 20000 in
theorem TfA_cacheOfSlot {M M' : xMem} {r : Int32} (this : xId) (a0 : Int32) (h : fA_cacheOfSlot M this a0 = some (r, M')) : xrun none 0 48 0 ([some (.inr (.inr (some this))), some (.inl a0)]) ([]) M (some (.inl r), M') := by
  unfold fA_cacheOfSlot at h
  refine xr_iload_n (pc' := 1) rfl rfl rfl ?_
  rcases xite h with ⟨hc, h⟩ | ⟨hc, h⟩
  · refine xr_if_lt_t (t := 23) rfl hc ?_
    refine xr_iconst (v := -1) (pc' := 24) rfl (by decide) rfl ?_
    obtain ⟨rfl, rfl⟩ := xsome2 h
    exact xr_iret rfl mR_48
  · refine xr_if_lt_f (pc' := 4) rfl hc rfl ?_
    refine xr_iload_n (pc' := 5) rfl rfl rfl ?_
    refine xr_sipush (v := 1984) (pc' := 8) rfl (by decide) rfl ?_
    rcases xite h with ⟨hc, h⟩ | ⟨hc, h⟩
    · refine xr_icmp_ge_t (t := 23) rfl hc ?_
      refine xr_iconst (v := -1) (pc' := 24) rfl (by decide) rfl ?_
      obtain ⟨rfl, rfl⟩ := xsome2 h
      exact xr_iret rfl mR_48
    · refine xr_icmp_ge_f (pc' := 11) rfl hc rfl ?_
      refine xr_aload_n (pc' := 12) rfl rfl rfl ?_
      obtain ⟨v1, hv1, h⟩ := xbind h
      refine xr_getR (pc' := 15) rfl (by decide) hv1 rfl ?_
      refine xr_iload_n (pc' := 16) rfl rfl rfl ?_
      refine xr_bipush (v := 62) (pc' := 18) rfl (by decide) rfl ?_
      refine xr_idiv (pc' := 19) rfl (by decide) rfl ?_
      obtain ⟨v2, hv2, h⟩ := xbind h
      refine xr_aI (pc' := 20) rfl hv2 rfl ?_
      refine xr_goto (t := 24) rfl ?_
      obtain ⟨rfl, rfl⟩ := xsome2 h
      exact xr_iret rfl mR_48
-- 49: MagazineDepot$Arena.wordAt(I)I
def fA_wordAt (M : xMem) (this : xId) (a0 : Int32) : Option (Int32 × xMem) :=
  if a0 < 0 then (
    some ((0 : Int32), M))
  else
  if (1984 : Int32) ≤ a0 then (
    some ((0 : Int32), M))
  else
  (xgR M (some this) 0 6).bind fun v1 =>
  (xaI M v1 a0).bind fun v2 =>
  some (v2, M)
set_option maxRecDepth 20000 in
theorem TfA_wordAt {M M' : xMem} {r : Int32} (this : xId) (a0 : Int32) (h : fA_wordAt M this a0 = some (r, M')) : xrun none 0 49 0 ([some (.inr (.inr (some this))), some (.inl a0)]) ([]) M (some (.inl r), M') := by
  unfold fA_wordAt at h
  refine xr_iload_n (pc' := 1) rfl rfl rfl ?_
  rcases xite h with ⟨hc, h⟩ | ⟨hc, h⟩
  · refine xr_if_lt_t (t := 20) rfl hc ?_
    refine xr_iconst (v := 0) (pc' := 21) rfl (by decide) rfl ?_
    obtain ⟨rfl, rfl⟩ := xsome2 h
    exact xr_iret rfl mR_49
  · refine xr_if_lt_f (pc' := 4) rfl hc rfl ?_
    refine xr_iload_n (pc' := 5) rfl rfl rfl ?_
    refine xr_sipush (v := 1984) (pc' := 8) rfl (by decide) rfl ?_
    rcases xite h with ⟨hc, h⟩ | ⟨hc, h⟩
    · refine xr_icmp_ge_t (t := 20) rfl hc ?_
      refine xr_iconst (v := 0) (pc' := 21) rfl (by decide) rfl ?_
      obtain ⟨rfl, rfl⟩ := xsome2 h
      exact xr_iret rfl mR_49
    · refine xr_icmp_ge_f (pc' := 11) rfl hc rfl ?_
      refine xr_aload_n (pc' := 12) rfl rfl rfl ?_
      obtain ⟨v1, hv1, h⟩ := xbind h
      refine xr_getR (pc' := 15) rfl (by decide) hv1 rfl ?_
      refine xr_iload_n (pc' := 16) rfl rfl rfl ?_
      obtain ⟨v2, hv2, h⟩ := xbind h
      refine xr_aI (pc' := 17) rfl hv2 rfl ?_
      refine xr_goto (t := 21) rfl ?_
      obtain ⟨rfl, rfl⟩ := xsome2 h
      exact xr_iret rfl mR_49
-- 50: MagazineDepot$Kind.fits(III)Z
def fK_fits_36  (M : xMem) (l0 : Int32) (l1 : Int32) (l2 : Int32)  : Option (Int32 × xMem) :=
  (fK_makes M l0 l1).bind fun q1 =>
  if l2 = q1.1 then (
    some ((1 : Int32), q1.2))
  else
  some ((0 : Int32), q1.2)
set_option maxRecDepth 20000 in
theorem TfK_fits_36 {M' : xMem} {r : Int32}  (M : xMem) (l0 : Int32) (l1 : Int32) (l2 : Int32)   (h : fK_fits_36  M l0 l1 l2  = some (r, M')) : xrun none 1 50 36 ([some (.inl l0), some (.inl l1), some (.inl l2)]) ([]) M (some (.inl r), M') := by
  unfold fK_fits_36 at h
  refine xr_iload_n (pc' := 37) rfl rfl rfl ?_
  refine xr_iload_n (pc' := 38) rfl rfl rfl ?_
  refine xr_iload_n (pc' := 39) rfl rfl rfl ?_
  obtain ⟨q1, hq1, h⟩ := xbind h
  refine xr_callS (pc' := 42) (As := [_, _]) (rest := _) rfl (by decide) mL_39 rfl (Nat.le_of_ble_eq_true rfl) rfl (Nat.le_of_ble_eq_true rfl) (TfK_makes _ _ hq1) rfl ?_
  rcases xite h with ⟨hc, h⟩ | ⟨hc, h⟩
  · refine xr_icmp_ne_f (pc' := 45) rfl hc rfl ?_
    refine xr_iconst (v := 1) (pc' := 46) rfl (by decide) rfl ?_
    refine xr_goto (t := 50) rfl ?_
    obtain ⟨rfl, rfl⟩ := xsome2 h
    exact xr_zret rfl mR_50 (by decide)
  · refine xr_icmp_ne_t (t := 49) rfl hc ?_
    refine xr_iconst (v := 0) (pc' := 50) rfl (by decide) rfl ?_
    obtain ⟨rfl, rfl⟩ := xsome2 h
    exact xr_zret rfl mR_50 (by decide)
def fK_fits (M : xMem) (a0 : Int32) (a1 : Int32) (a2 : Int32) : Option (Int32 × xMem) :=
  if a0 = 1 then (
    fK_fits_36  M a0 a1 a2 )
  else
  if a0 = 2 then (
    fK_fits_36  M a0 a1 a2 )
  else
  if a0 = 3 then (
    fK_fits_36  M a0 a1 a2 )
  else
  if a0 = 4 then (
    if (a2 &&& (1 : Int32)) = 0 then (
      some ((1 : Int32), M))
    else
    some ((0 : Int32), M))
  else
  if a0 = 5 then (
    if (a2 &&& (1 : Int32)) = 0 then (
      if a2 < 0 then (
        some ((0 : Int32), M))
      else
      some ((1 : Int32), M))
    else
    some ((0 : Int32), M))
  else
  some ((1 : Int32), M)
set_option maxRecDepth 20000 in
theorem TfK_fits {M M' : xMem} {r : Int32} (a0 : Int32) (a1 : Int32) (a2 : Int32) (h : fK_fits M a0 a1 a2 = some (r, M')) : xrun none 1 50 0 ([some (.inl a0), some (.inl a1), some (.inl a2)]) ([]) M (some (.inl r), M') := by
  unfold fK_fits at h
  refine xr_iload_n (pc' := 1) rfl rfl rfl ?_
  rcases xite h with ⟨hc1_1, h⟩ | ⟨hc1_1, h⟩
  · refine xr_tsw_in (t := 36) rfl (by rw [hc1_1]; decide) (by rw [hc1_1]; rfl) (by decide) ?_
    exact TfK_fits_36   M _ _ _   h
  rcases xite h with ⟨hc1_2, h⟩ | ⟨hc1_2, h⟩
  · refine xr_tsw_in (t := 36) rfl (by rw [hc1_2]; decide) (by rw [hc1_2]; rfl) (by decide) ?_
    exact TfK_fits_36   M _ _ _   h
  rcases xite h with ⟨hc1_3, h⟩ | ⟨hc1_3, h⟩
  · refine xr_tsw_in (t := 36) rfl (by rw [hc1_3]; decide) (by rw [hc1_3]; rfl) (by decide) ?_
    exact TfK_fits_36   M _ _ _   h
  rcases xite h with ⟨hc1_4, h⟩ | ⟨hc1_4, h⟩
  · refine xr_tsw_in (t := 51) rfl (by rw [hc1_4]; decide) (by rw [hc1_4]; rfl) (by decide) ?_
    refine xr_iload_n (pc' := 52) rfl rfl rfl ?_
    refine xr_iconst (v := 1) (pc' := 53) rfl (by decide) rfl ?_
    refine xr_iand (pc' := 54) rfl rfl ?_
    rcases xite h with ⟨hc, h⟩ | ⟨hc, h⟩
    · refine xr_if_ne_f (pc' := 57) rfl hc rfl ?_
      refine xr_iconst (v := 1) (pc' := 58) rfl (by decide) rfl ?_
      refine xr_goto (t := 62) rfl ?_
      obtain ⟨rfl, rfl⟩ := xsome2 h
      exact xr_zret rfl mR_50 (by decide)
    · refine xr_if_ne_t (t := 61) rfl hc ?_
      refine xr_iconst (v := 0) (pc' := 62) rfl (by decide) rfl ?_
      obtain ⟨rfl, rfl⟩ := xsome2 h
      exact xr_zret rfl mR_50 (by decide)
  rcases xite h with ⟨hc1_5, h⟩ | ⟨hc1_5, h⟩
  · refine xr_tsw_in (t := 63) rfl (by rw [hc1_5]; decide) (by rw [hc1_5]; rfl) (by decide) ?_
    refine xr_iload_n (pc' := 64) rfl rfl rfl ?_
    refine xr_iconst (v := 1) (pc' := 65) rfl (by decide) rfl ?_
    refine xr_iand (pc' := 66) rfl rfl ?_
    rcases xite h with ⟨hc, h⟩ | ⟨hc, h⟩
    · refine xr_if_ne_f (pc' := 69) rfl hc rfl ?_
      refine xr_iload_n (pc' := 70) rfl rfl rfl ?_
      rcases xite h with ⟨hc, h⟩ | ⟨hc, h⟩
      · refine xr_if_lt_t (t := 77) rfl hc ?_
        refine xr_iconst (v := 0) (pc' := 78) rfl (by decide) rfl ?_
        obtain ⟨rfl, rfl⟩ := xsome2 h
        exact xr_zret rfl mR_50 (by decide)
      · refine xr_if_lt_f (pc' := 73) rfl hc rfl ?_
        refine xr_iconst (v := 1) (pc' := 74) rfl (by decide) rfl ?_
        refine xr_goto (t := 78) rfl ?_
        obtain ⟨rfl, rfl⟩ := xsome2 h
        exact xr_zret rfl mR_50 (by decide)
    · refine xr_if_ne_t (t := 77) rfl hc ?_
      refine xr_iconst (v := 0) (pc' := 78) rfl (by decide) rfl ?_
      obtain ⟨rfl, rfl⟩ := xsome2 h
      exact xr_zret rfl mR_50 (by decide)
  have hc1_1 := lv_neT hc1_1 (by decide : (1 : Int32).toInt = 1)
  have hc1_2 := lv_neT hc1_2 (by decide : (2 : Int32).toInt = 2)
  have hc1_3 := lv_neT hc1_3 (by decide : (3 : Int32).toInt = 3)
  have hc1_4 := lv_neT hc1_4 (by decide : (4 : Int32).toInt = 4)
  have hc1_5 := lv_neT hc1_5 (by decide : (5 : Int32).toInt = 5)
  refine xr_tsw_out (t := 79) rfl (by omega) (by decide) ?_
  refine xr_iconst (v := 1) (pc' := 80) rfl (by decide) rfl ?_
  obtain ⟨rfl, rfl⟩ := xsome2 h
  exact xr_zret rfl mR_50 (by decide)
-- 47: MagazineDepot$Depot.isFit(I)Z
def fD_isFit (M : xMem) (this : xId) (a0 : Int32) : Option (Int32 × xMem) :=
  (xgR M (some this) 3 0).bind fun v1 =>
  (xob M v1 0).bind fun u2 =>
  (fA_cacheOfSlot M u2 a0).bind fun q3 =>
  (xob q3.2 (some this) 3).bind fun u4 =>
  (fD_cacheAt q3.2 u4 q3.1).bind fun q5 =>
  if q5.1 = none then (
    some ((0 : Int32), q5.2))
  else
  (xgI q5.2 q5.1 2 0).bind fun v6 =>
  (xgR q5.2 (some this) 3 0).bind fun v7 =>
  (xob q5.2 v7 0).bind fun u8 =>
  (fA_addressOf q5.2 u8 a0).bind fun q9 =>
  (xgR q9.2 (some this) 3 0).bind fun v10 =>
  (xob q9.2 v10 0).bind fun u11 =>
  (fA_wordAt q9.2 u11 a0).bind fun q12 =>
  (fK_fits q12.2 v6 q9.1 q12.1).bind fun q13 =>
  if q13.1 = 0 then (
    some ((0 : Int32), q13.2))
  else
  some ((1 : Int32), q13.2)
set_option maxRecDepth 20000 in
theorem TfD_isFit {M M' : xMem} {r : Int32} (this : xId) (a0 : Int32) (h : fD_isFit M this a0 = some (r, M')) : xrun none 2 47 0 ([some (.inr (.inr (some this))), some (.inl a0), none]) ([]) M (some (.inl r), M') := by
  unfold fD_isFit at h
  refine xr_aload_n (pc' := 1) rfl rfl rfl ?_
  refine xr_aload_n (pc' := 2) rfl rfl rfl ?_
  obtain ⟨v1, hv1, h⟩ := xbind h
  refine xr_getR (pc' := 5) rfl (by decide) hv1 rfl ?_
  refine xr_iload_n (pc' := 6) rfl rfl rfl ?_
  obtain ⟨u2, hu2, h⟩ := xbind h
  obtain ⟨q3, hq3, h⟩ := xbind h
  refine xr_callV (pc' := 9) (C := 0) (As := [_]) (rest := _) rfl hu2 mC_48 mL_48 rfl (Nat.le_of_ble_eq_true rfl) rfl (Nat.le_of_ble_eq_true rfl) (TfA_cacheOfSlot _ _ hq3) rfl ?_
  obtain ⟨u4, hu4, h⟩ := xbind h
  obtain ⟨q5, hq5, h⟩ := xbind h
  refine xr_callV (pc' := 12) (C := 3) (As := [_]) (rest := _) rfl hu4 mC_18 mL_18 rfl (Nat.le_of_ble_eq_true rfl) rfl (Nat.le_of_ble_eq_true rfl) (TfD_cacheAt _ _ hq5) rfl ?_
  refine xr_astore_n (pc' := 13) rfl rfl rfl ?_
  refine xr_aload_n (pc' := 14) rfl rfl rfl ?_
  rcases xite h with ⟨hc, h⟩ | ⟨hc, h⟩
  · refine xr_ifnull_n (t := 47) rfl hc ?_
    refine xr_iconst (v := 0) (pc' := 48) rfl (by decide) rfl ?_
    obtain ⟨rfl, rfl⟩ := xsome2 h
    exact xr_zret rfl mR_47 (by decide)
  · refine xr_ifnull_s (pc' := 17) rfl hc rfl ?_
    refine xr_aload_n (pc' := 18) rfl rfl rfl ?_
    obtain ⟨v6, hv6, h⟩ := xbind h
    refine xr_getI (pc' := 21) rfl (by decide) hv6 rfl ?_
    refine xr_aload_n (pc' := 22) rfl rfl rfl ?_
    obtain ⟨v7, hv7, h⟩ := xbind h
    refine xr_getR (pc' := 25) rfl (by decide) hv7 rfl ?_
    refine xr_iload_n (pc' := 26) rfl rfl rfl ?_
    obtain ⟨u8, hu8, h⟩ := xbind h
    obtain ⟨q9, hq9, h⟩ := xbind h
    refine xr_callV (pc' := 29) (C := 0) (As := [_]) (rest := _) rfl hu8 mC_38 mL_38 rfl (Nat.le_of_ble_eq_true rfl) rfl (Nat.le_of_ble_eq_true rfl) (TfA_addressOf _ _ hq9) rfl ?_
    refine xr_aload_n (pc' := 30) rfl rfl rfl ?_
    obtain ⟨v10, hv10, h⟩ := xbind h
    refine xr_getR (pc' := 33) rfl (by decide) hv10 rfl ?_
    refine xr_iload_n (pc' := 34) rfl rfl rfl ?_
    obtain ⟨u11, hu11, h⟩ := xbind h
    obtain ⟨q12, hq12, h⟩ := xbind h
    refine xr_callV (pc' := 37) (C := 0) (As := [_]) (rest := _) rfl hu11 mC_49 mL_49 rfl (Nat.le_of_ble_eq_true rfl) rfl (Nat.le_of_ble_eq_true rfl) (TfA_wordAt _ _ hq12) rfl ?_
    obtain ⟨q13, hq13, h⟩ := xbind h
    refine xr_callS (pc' := 40) (As := [_, _, _]) (rest := _) rfl (by decide) mL_50 rfl (Nat.le_of_ble_eq_true rfl) rfl (Nat.le_of_ble_eq_true rfl) (TfK_fits _ _ _ hq13) rfl ?_
    rcases xite h with ⟨hc, h⟩ | ⟨hc, h⟩
    · refine xr_if_eq_t (t := 47) rfl hc ?_
      refine xr_iconst (v := 0) (pc' := 48) rfl (by decide) rfl ?_
      obtain ⟨rfl, rfl⟩ := xsome2 h
      exact xr_zret rfl mR_47 (by decide)
    · refine xr_if_eq_f (pc' := 43) rfl hc rfl ?_
      refine xr_iconst (v := 1) (pc' := 44) rfl (by decide) rfl ?_
      refine xr_goto (t := 48) rfl ?_
      obtain ⟨rfl, rfl⟩ := xsome2 h
      exact xr_zret rfl mR_47 (by decide)
-- 52: MagazineDepot$Depot.hasRoom(LMagazineDepot$Cache;I)Z
def fD_hasRoom (M : xMem) (this : xId) (a0 : Option xId) (a1 : Int32) : Option (Int32 × xMem) :=
  (xob M (some this) 3).bind fun u1 =>
  (fD_magazineAt M u1 a1).bind fun q2 =>
  if q2.1 = none then (
    some ((0 : Int32), q2.2))
  else
  (xgI q2.2 q2.1 4 1).bind fun v3 =>
  (xgI q2.2 a0 2 4).bind fun v4 =>
  if v4 ≤ v3 then (
    some ((0 : Int32), q2.2))
  else
  some ((1 : Int32), q2.2)
set_option maxRecDepth 20000 in
theorem TfD_hasRoom {M M' : xMem} {r : Int32} (this : xId) (a0 : Option xId) (a1 : Int32) (h : fD_hasRoom M this a0 a1 = some (r, M')) : xrun none 1 52 0 ([some (.inr (.inr (some this))), some (.inr (.inr a0)), some (.inl a1), none]) ([]) M (some (.inl r), M') := by
  unfold fD_hasRoom at h
  refine xr_aload_n (pc' := 1) rfl rfl rfl ?_
  refine xr_iload_n (pc' := 2) rfl rfl rfl ?_
  obtain ⟨u1, hu1, h⟩ := xbind h
  obtain ⟨q2, hq2, h⟩ := xbind h
  refine xr_callV (pc' := 5) (C := 3) (As := [_]) (rest := _) rfl hu1 mC_23 mL_23 rfl (Nat.le_of_ble_eq_true rfl) rfl (Nat.le_of_ble_eq_true rfl) (TfD_magazineAt _ _ hq2) rfl ?_
  refine xr_astore_n (pc' := 6) rfl rfl rfl ?_
  refine xr_aload_n (pc' := 7) rfl rfl rfl ?_
  rcases xite h with ⟨hc, h⟩ | ⟨hc, h⟩
  · refine xr_ifnull_n (t := 25) rfl hc ?_
    refine xr_iconst (v := 0) (pc' := 26) rfl (by decide) rfl ?_
    obtain ⟨rfl, rfl⟩ := xsome2 h
    exact xr_zret rfl mR_52 (by decide)
  · refine xr_ifnull_s (pc' := 10) rfl hc rfl ?_
    refine xr_aload_n (pc' := 11) rfl rfl rfl ?_
    obtain ⟨v3, hv3, h⟩ := xbind h
    refine xr_getI (pc' := 14) rfl (by decide) hv3 rfl ?_
    refine xr_aload_n (pc' := 15) rfl rfl rfl ?_
    obtain ⟨v4, hv4, h⟩ := xbind h
    refine xr_getI (pc' := 18) rfl (by decide) hv4 rfl ?_
    rcases xite h with ⟨hc, h⟩ | ⟨hc, h⟩
    · refine xr_icmp_ge_t (t := 25) rfl hc ?_
      refine xr_iconst (v := 0) (pc' := 26) rfl (by decide) rfl ?_
      obtain ⟨rfl, rfl⟩ := xsome2 h
      exact xr_zret rfl mR_52 (by decide)
    · refine xr_icmp_ge_f (pc' := 21) rfl hc rfl ?_
      refine xr_iconst (v := 1) (pc' := 22) rfl (by decide) rfl ?_
      refine xr_goto (t := 26) rfl ?_
      obtain ⟨rfl, rfl⟩ := xsome2 h
      exact xr_zret rfl mR_52 (by decide)
-- 54: MagazineDepot$Cache.fetchEmpty()I
def fC_fetchEmpty (M : xMem) (this : xId) : Option (Int32 × xMem) :=
  (xgR M (some this) 2 17).bind fun v1 =>
  (xob M v1 4).bind fun u2 =>
  (fP_takeLatest M u2 ).bind fun q3 =>
  (xgI q3.2 (some this) 2 9).bind fun v4 =>
  (xgR q3.2 (some this) 2 17).bind fun v5 =>
  (xgI q3.2 v5 4 1).bind fun v6 =>
  (xpI q3.2 (some this) 2 9 (if v6 < v4 then v6 else v4)).bind fun M7 =>
  some (q3.1, M7)
set_option maxRecDepth 20000 in
theorem TfC_fetchEmpty {M M' : xMem} {r : Int32} (this : xId) (h : fC_fetchEmpty M this = some (r, M')) : xrun none 1 54 0 ([some (.inr (.inr (some this))), none]) ([]) M (some (.inl r), M') := by
  unfold fC_fetchEmpty at h
  refine xr_aload_n (pc' := 1) rfl rfl rfl ?_
  obtain ⟨v1, hv1, h⟩ := xbind h
  refine xr_getR (pc' := 4) rfl (by decide) hv1 rfl ?_
  obtain ⟨u2, hu2, h⟩ := xbind h
  obtain ⟨q3, hq3, h⟩ := xbind h
  refine xr_callV (pc' := 7) (C := 4) (As := []) (rest := _) rfl hu2 mC_29 mL_29 rfl (Nat.le_of_ble_eq_true rfl) rfl (Nat.le_of_ble_eq_true rfl) (TfP_takeLatest _  hq3) rfl ?_
  refine xr_istore_n (pc' := 8) rfl rfl rfl ?_
  refine xr_aload_n (pc' := 9) rfl rfl rfl ?_
  refine xr_aload_n (pc' := 10) rfl rfl rfl ?_
  obtain ⟨v4, hv4, h⟩ := xbind h
  refine xr_getI (pc' := 13) rfl (by decide) hv4 rfl ?_
  refine xr_aload_n (pc' := 14) rfl rfl rfl ?_
  obtain ⟨v5, hv5, h⟩ := xbind h
  refine xr_getR (pc' := 17) rfl (by decide) hv5 rfl ?_
  obtain ⟨v6, hv6, h⟩ := xbind h
  refine xr_getI (pc' := 20) rfl (by decide) hv6 rfl ?_
  refine xr_min (pc' := 23) rfl (Nat.le_of_ble_eq_true rfl) (Nat.le_of_ble_eq_true rfl) rfl ?_
  obtain ⟨M7, hM7, h⟩ := xbind h
  refine xr_putI (pc' := 26) rfl (by decide) hM7 rfl ?_
  refine xr_iload_n (pc' := 27) rfl rfl rfl ?_
  obtain ⟨rfl, rfl⟩ := xsome2 h
  exact xr_iret rfl mR_54
-- 55: MagazineDepot$Depot.makeMagazine()I
def fD_makeMagazine_2  : Nat → xMem → Option xId → Int32 → Option (Int32 × xMem)
  | 0, _, _, _ => none
  | n + 1, M, l0, l1 =>
    if (24 : Int32) ≤ l1 then (
      some ((-1 : Int32), M))
    else
    (xgR M l0 3 3).bind fun v1 =>
    (xaZ M v1 l1).bind fun v2 =>
    if v2 = 0 then (
      (xgR M l0 3 3).bind fun v3 =>
      (xuZ M v3 l1 (1 : Int32)).bind fun M4 =>
      (xgR M4 l0 3 2).bind fun v5 =>
      (xaR M4 24 v5 l1).bind fun v6 =>
      (xob M4 v6 4).bind fun u7 =>
      (fP_clear M4 u7 ).bind fun q8 =>
      (xgI q8 l0 3 5).bind fun v9 =>
      (xpI q8 l0 3 5 (v9 + (1 : Int32))).bind fun M10 =>
      some (l1, M10))
    else
    fD_makeMagazine_2  n M l0 (l1 + 1)
set_option maxRecDepth 20000 in
theorem TfD_makeMagazine_2 {M' : xMem} {r : Int32}  : ∀ (n : Nat) (M : xMem) (l0 : Option xId) (l1 : Int32) , fD_makeMagazine_2  n M l0 l1 = some (r, M') → xrun none 1 55 2 ([some (.inr (.inr l0)), some (.inl l1)]) ([]) M (some (.inl r), M') := by
  intro n
  induction n with
  | zero => intro M l0 l1  h; unfold fD_makeMagazine_2 at h; cases h
  | succ n ih =>
    intro M l0 l1  h
    unfold fD_makeMagazine_2 at h
    refine xr_iload_n (pc' := 3) rfl rfl rfl ?_
    refine xr_bipush (v := 24) (pc' := 5) rfl (by decide) rfl ?_
    rcases xite h with ⟨hc, h⟩ | ⟨hc, h⟩
    · refine xr_icmp_ge_t (t := 51) rfl hc ?_
      refine xr_iconst (v := -1) (pc' := 52) rfl (by decide) rfl ?_
      obtain ⟨rfl, rfl⟩ := xsome2 h
      exact xr_iret rfl mR_55
    · refine xr_icmp_ge_f (pc' := 8) rfl hc rfl ?_
      refine xr_aload_n (pc' := 9) rfl rfl rfl ?_
      obtain ⟨v1, hv1, h⟩ := xbind h
      refine xr_getR (pc' := 12) rfl (by decide) hv1 rfl ?_
      refine xr_iload_n (pc' := 13) rfl rfl rfl ?_
      obtain ⟨v2, hv2, h⟩ := xbind h
      refine xr_aZ (pc' := 14) rfl hv2 rfl ?_
      rcases xite h with ⟨hc, h⟩ | ⟨hc, h⟩
      · refine xr_if_ne_f (pc' := 17) rfl hc rfl ?_
        refine xr_aload_n (pc' := 18) rfl rfl rfl ?_
        obtain ⟨v3, hv3, h⟩ := xbind h
        refine xr_getR (pc' := 21) rfl (by decide) hv3 rfl ?_
        refine xr_iload_n (pc' := 22) rfl rfl rfl ?_
        refine xr_iconst (v := 1) (pc' := 23) rfl (by decide) rfl ?_
        obtain ⟨M4, hM4, h⟩ := xbind h
        refine xr_uZ (pc' := 24) rfl hM4 rfl ?_
        refine xr_aload_n (pc' := 25) rfl rfl rfl ?_
        obtain ⟨v5, hv5, h⟩ := xbind h
        refine xr_getR (pc' := 28) rfl (by decide) hv5 rfl ?_
        refine xr_iload_n (pc' := 29) rfl rfl rfl ?_
        obtain ⟨v6, hv6, h⟩ := xbind h
        refine xr_aR (pc' := 30) rfl hv6 rfl ?_
        obtain ⟨u7, hu7, h⟩ := xbind h
        obtain ⟨q8, hq8, h⟩ := xbind h
        refine xr_callV (pc' := 33) (C := 4) (As := []) (rest := _) rfl hu7 mC_15 mL_15 rfl (Nat.le_of_ble_eq_true rfl) rfl (Nat.le_of_ble_eq_true rfl) (TfP_clear _  hq8) rfl ?_
        refine xr_aload_n (pc' := 34) rfl rfl rfl ?_
        refine xr_dup_a (pc' := 35) rfl rfl ?_
        obtain ⟨v9, hv9, h⟩ := xbind h
        refine xr_getI (pc' := 38) rfl (by decide) hv9 rfl ?_
        refine xr_iconst (v := 1) (pc' := 39) rfl (by decide) rfl ?_
        refine xr_iadd (pc' := 40) rfl rfl ?_
        obtain ⟨M10, hM10, h⟩ := xbind h
        refine xr_putI (pc' := 43) rfl (by decide) hM10 rfl ?_
        refine xr_iload_n (pc' := 44) rfl rfl rfl ?_
        obtain ⟨rfl, rfl⟩ := xsome2 h
        exact xr_iret rfl mR_55
      · refine xr_if_ne_t (t := 45) rfl hc ?_
        refine xr_iinc (c := 1) (pc' := 48) rfl (by decide) rfl rfl rfl ?_
        refine xr_goto (t := 2) rfl ?_
        exact ih M _ _  h
def fD_makeMagazine (M : xMem) (this : xId) : Option (Int32 × xMem) :=
  fD_makeMagazine_2  xF M (some this) (0 : Int32)
set_option maxRecDepth 20000 in
theorem TfD_makeMagazine {M M' : xMem} {r : Int32} (this : xId) (h : fD_makeMagazine M this = some (r, M')) : xrun none 1 55 0 ([some (.inr (.inr (some this))), none]) ([]) M (some (.inl r), M') := by
  unfold fD_makeMagazine at h
  refine xr_iconst (v := 0) (pc' := 1) rfl (by decide) rfl ?_
  refine xr_istore_n (pc' := 2) rfl rfl rfl ?_
  exact TfD_makeMagazine_2   xF M _ _  h
-- 53: MagazineDepot$Depot.loadRoom(LMagazineDepot$Cache;I)V
def fD_loadRoom_76  (M : xMem) (l1 : Option xId) (l2 : Int32) (l3 : Int32)  : Option xMem :=
  (xgR M l1 2 15).bind fun v22 =>
  (xgR M l1 2 14).bind fun v23 =>
  (xaI M v23 l2).bind fun v24 =>
  (xuI M v22 l2 v24).bind fun M25 =>
  (xgR M25 l1 2 14).bind fun v26 =>
  (xuI M25 v26 l2 l3).bind fun M27 =>
  some M27
set_option maxRecDepth 20000 in
theorem TfD_loadRoom_76 {M' : xMem}  (M : xMem) (l1 : Option xId) (l2 : Int32) (l3 : Int32)  (o0 : Option xId) (h : fD_loadRoom_76  M l1 l2 l3  = some M') : xrun none 2 53 76 ([some (.inr (.inr o0)), some (.inr (.inr l1)), some (.inl l2), some (.inl l3)]) ([]) M (none, M') := by
  unfold fD_loadRoom_76 at h
  refine xr_aload_n (pc' := 77) rfl rfl rfl ?_
  obtain ⟨v22, hv22, h⟩ := xbind h
  refine xr_getR (pc' := 80) rfl (by decide) hv22 rfl ?_
  refine xr_iload_n (pc' := 81) rfl rfl rfl ?_
  refine xr_aload_n (pc' := 82) rfl rfl rfl ?_
  obtain ⟨v23, hv23, h⟩ := xbind h
  refine xr_getR (pc' := 85) rfl (by decide) hv23 rfl ?_
  refine xr_iload_n (pc' := 86) rfl rfl rfl ?_
  obtain ⟨v24, hv24, h⟩ := xbind h
  refine xr_aI (pc' := 87) rfl hv24 rfl ?_
  obtain ⟨M25, hM25, h⟩ := xbind h
  refine xr_uI (pc' := 88) rfl hM25 rfl ?_
  refine xr_aload_n (pc' := 89) rfl rfl rfl ?_
  obtain ⟨v26, hv26, h⟩ := xbind h
  refine xr_getR (pc' := 92) rfl (by decide) hv26 rfl ?_
  refine xr_iload_n (pc' := 93) rfl rfl rfl ?_
  refine xr_iload_n (pc' := 94) rfl rfl rfl ?_
  obtain ⟨M27, hM27, h⟩ := xbind h
  refine xr_uI (pc' := 95) rfl hM27 rfl ?_
  obtain rfl := xsome1 h
  exact xr_ret rfl mR_53
def fD_loadRoom_41  (M : xMem) (l0 : Option xId) (l1 : Option xId) (l2 : Int32) (s0 : Int32) : Option xMem :=
  if s0 = (-1 : Int32) then (
    some M)
  else
  (xob M l0 3).bind fun u13 =>
  (fD_visit M u13 l1).bind fun q14 =>
  (xgR q14 l1 2 15).bind fun v15 =>
  (xaI q14 v15 l2).bind fun v16 =>
  if v16 = (-1 : Int32) then (
    fD_loadRoom_76  q14 l1 l2 s0 )
  else
  (xgR q14 l1 2 16).bind fun v17 =>
  (xgR q14 l1 2 15).bind fun v18 =>
  (xaI q14 v18 l2).bind fun v19 =>
  (xob q14 v17 4).bind fun u20 =>
  (fP_put q14 u20 v19).bind fun q21 =>
  fD_loadRoom_76  q21 l1 l2 s0 
set_option maxRecDepth 20000 in
theorem TfD_loadRoom_41 {M' : xMem}  (M : xMem) (l0 : Option xId) (l1 : Option xId) (l2 : Int32) (s0 : Int32) (o3 : Option xVal) (h : fD_loadRoom_41  M l0 l1 l2 s0 = some M') : xrun none 2 53 41 ([some (.inr (.inr l0)), some (.inr (.inr l1)), some (.inl l2), o3]) ([.inl s0]) M (none, M') := by
  unfold fD_loadRoom_41 at h
  refine xr_istore_n (pc' := 42) rfl rfl rfl ?_
  refine xr_iload_n (pc' := 43) rfl rfl rfl ?_
  refine xr_iconst (v := -1) (pc' := 44) rfl (by decide) rfl ?_
  rcases xite h with ⟨hc, h⟩ | ⟨hc, h⟩
  · refine xr_icmp_ne_f (pc' := 47) rfl hc rfl ?_
    obtain rfl := xsome1 h
    exact xr_ret rfl mR_53
  · refine xr_icmp_ne_t (t := 48) rfl hc ?_
    refine xr_aload_n (pc' := 49) rfl rfl rfl ?_
    refine xr_aload_n (pc' := 50) rfl rfl rfl ?_
    obtain ⟨u13, hu13, h⟩ := xbind h
    obtain ⟨q14, hq14, h⟩ := xbind h
    refine xr_callV (pc' := 53) (C := 3) (As := [_]) (rest := _) rfl hu13 mC_26 mL_26 rfl (Nat.le_of_ble_eq_true rfl) rfl (Nat.le_of_ble_eq_true rfl) (TfD_visit _ _ hq14) rfl ?_
    refine xr_aload_n (pc' := 54) rfl rfl rfl ?_
    obtain ⟨v15, hv15, h⟩ := xbind h
    refine xr_getR (pc' := 57) rfl (by decide) hv15 rfl ?_
    refine xr_iload_n (pc' := 58) rfl rfl rfl ?_
    obtain ⟨v16, hv16, h⟩ := xbind h
    refine xr_aI (pc' := 59) rfl hv16 rfl ?_
    refine xr_iconst (v := -1) (pc' := 60) rfl (by decide) rfl ?_
    rcases xite h with ⟨hc, h⟩ | ⟨hc, h⟩
    · refine xr_icmp_eq_t (t := 76) rfl hc ?_
      exact TfD_loadRoom_76   q14 _ _ _  _ h
    · refine xr_icmp_eq_f (pc' := 63) rfl hc rfl ?_
      refine xr_aload_n (pc' := 64) rfl rfl rfl ?_
      obtain ⟨v17, hv17, h⟩ := xbind h
      refine xr_getR (pc' := 67) rfl (by decide) hv17 rfl ?_
      refine xr_aload_n (pc' := 68) rfl rfl rfl ?_
      obtain ⟨v18, hv18, h⟩ := xbind h
      refine xr_getR (pc' := 71) rfl (by decide) hv18 rfl ?_
      refine xr_iload_n (pc' := 72) rfl rfl rfl ?_
      obtain ⟨v19, hv19, h⟩ := xbind h
      refine xr_aI (pc' := 73) rfl hv19 rfl ?_
      obtain ⟨u20, hu20, h⟩ := xbind h
      obtain ⟨q21, hq21, h⟩ := xbind h
      refine xr_callV (pc' := 76) (C := 4) (As := [_]) (rest := _) rfl hu20 mC_27 mL_27 rfl (Nat.le_of_ble_eq_true rfl) rfl (Nat.le_of_ble_eq_true rfl) (TfP_put _ _ hq21) rfl ?_
      exact TfD_loadRoom_76   q21 _ _ _  _ h
def fD_loadRoom (M : xMem) (this : xId) (a0 : Option xId) (a1 : Int32) : Option xMem :=
  (xgR M a0 2 15).bind fun v1 =>
  (xaI M v1 a1).bind fun v2 =>
  (xob M (some this) 3).bind fun u3 =>
  (fD_hasRoom M u3 a0 v2).bind fun q4 =>
  if q4.1 = 0 then (
    (xgR q4.2 a0 2 17).bind fun v5 =>
    (xgI q4.2 v5 4 1).bind fun v6 =>
    if v6 ≤ 0 then (
      (xob q4.2 (some this) 3).bind fun u7 =>
      (fD_makeMagazine q4.2 u7 ).bind fun q8 =>
      fD_loadRoom_41  q8.2 (some this) a0 a1 q8.1)
    else
    (xob q4.2 a0 2).bind fun u9 =>
    (fC_fetchEmpty q4.2 u9 ).bind fun q10 =>
    fD_loadRoom_41  q10.2 (some this) a0 a1 q10.1)
  else
  (xob q4.2 a0 2).bind fun u11 =>
  (fC_exchange q4.2 u11 a1).bind fun q12 =>
  some q12
set_option maxRecDepth 20000 in
theorem TfD_loadRoom {M M' : xMem} (this : xId) (a0 : Option xId) (a1 : Int32) (h : fD_loadRoom M this a0 a1 = some M') : xrun none 2 53 0 ([some (.inr (.inr (some this))), some (.inr (.inr a0)), some (.inl a1), none]) ([]) M (none, M') := by
  unfold fD_loadRoom at h
  refine xr_aload_n (pc' := 1) rfl rfl rfl ?_
  refine xr_aload_n (pc' := 2) rfl rfl rfl ?_
  refine xr_aload_n (pc' := 3) rfl rfl rfl ?_
  obtain ⟨v1, hv1, h⟩ := xbind h
  refine xr_getR (pc' := 6) rfl (by decide) hv1 rfl ?_
  refine xr_iload_n (pc' := 7) rfl rfl rfl ?_
  obtain ⟨v2, hv2, h⟩ := xbind h
  refine xr_aI (pc' := 8) rfl hv2 rfl ?_
  obtain ⟨u3, hu3, h⟩ := xbind h
  obtain ⟨q4, hq4, h⟩ := xbind h
  refine xr_callV (pc' := 11) (C := 3) (As := [_, _]) (rest := _) rfl hu3 mC_52 mL_52 rfl (Nat.le_of_ble_eq_true rfl) rfl (Nat.le_of_ble_eq_true rfl) (TfD_hasRoom _ _ _ hq4) rfl ?_
  rcases xite h with ⟨hc, h⟩ | ⟨hc, h⟩
  · refine xr_if_eq_t (t := 20) rfl hc ?_
    refine xr_aload_n (pc' := 21) rfl rfl rfl ?_
    obtain ⟨v5, hv5, h⟩ := xbind h
    refine xr_getR (pc' := 24) rfl (by decide) hv5 rfl ?_
    obtain ⟨v6, hv6, h⟩ := xbind h
    refine xr_getI (pc' := 27) rfl (by decide) hv6 rfl ?_
    rcases xite h with ⟨hc, h⟩ | ⟨hc, h⟩
    · refine xr_if_le_t (t := 37) rfl hc ?_
      refine xr_aload_n (pc' := 38) rfl rfl rfl ?_
      obtain ⟨u7, hu7, h⟩ := xbind h
      obtain ⟨q8, hq8, h⟩ := xbind h
      refine xr_callV (pc' := 41) (C := 3) (As := []) (rest := _) rfl hu7 mC_55 mL_55 rfl (Nat.le_of_ble_eq_true rfl) rfl (Nat.le_of_ble_eq_true rfl) (TfD_makeMagazine _  hq8) rfl ?_
      exact TfD_loadRoom_41   q8.2 _ _ _ _ _ h
    · refine xr_if_le_f (pc' := 30) rfl hc rfl ?_
      refine xr_aload_n (pc' := 31) rfl rfl rfl ?_
      obtain ⟨u9, hu9, h⟩ := xbind h
      obtain ⟨q10, hq10, h⟩ := xbind h
      refine xr_callV (pc' := 34) (C := 2) (As := []) (rest := _) rfl hu9 mC_54 mL_54 rfl (Nat.le_of_ble_eq_true rfl) rfl (Nat.le_of_ble_eq_true rfl) (TfC_fetchEmpty _  hq10) rfl ?_
      refine xr_goto (t := 41) rfl ?_
      exact TfD_loadRoom_41   q10.2 _ _ _ _ _ h
  · refine xr_if_eq_f (pc' := 14) rfl hc rfl ?_
    refine xr_aload_n (pc' := 15) rfl rfl rfl ?_
    refine xr_iload_n (pc' := 16) rfl rfl rfl ?_
    obtain ⟨u11, hu11, h⟩ := xbind h
    obtain ⟨q12, hq12, h⟩ := xbind h
    refine xr_callV (pc' := 19) (C := 2) (As := [_]) (rest := _) rfl hu11 mC_25 mL_25 rfl (Nat.le_of_ble_eq_true rfl) rfl (Nat.le_of_ble_eq_true rfl) (TfC_exchange _ _ hq12) rfl ?_
    obtain rfl := xsome1 h
    exact xr_ret rfl mR_53
-- 57: MagazineDepot$Kind.ends(II)J
def fK_ends_20  (M : xMem) (l0 : Int32) (l2 : Int64)  : Option (Int64 × xMem) :=
  if l0 = (5 : Int32) then (
    some ((l2 * (3 : Int64)), M))
  else
  some (l2, M)
set_option maxRecDepth 20000 in
theorem TfK_ends_20 {M' : xMem} {r : Int64}  (M : xMem) (l0 : Int32) (l2 : Int64)  (o1 : Int32) (h : fK_ends_20  M l0 l2  = some (r, M')) : xrun none 0 57 20 ([some (.inl l0), some (.inl o1), some (.inr (.inl l2)), none]) ([]) M (some (.inr (.inl r)), M') := by
  unfold fK_ends_20 at h
  refine xr_iload_n (pc' := 21) rfl rfl rfl ?_
  refine xr_iconst (v := 5) (pc' := 22) rfl (by decide) rfl ?_
  rcases xite h with ⟨hc, h⟩ | ⟨hc, h⟩
  · refine xr_icmp_ne_f (pc' := 25) rfl hc rfl ?_
    refine xr_lload_n (pc' := 26) rfl rfl rfl ?_
    refine xr_ldc2_w (v := 3) (pc' := 29) rfl (by decide) rfl ?_
    refine xr_lmul (pc' := 30) rfl rfl ?_
    refine xr_lstore_n (pc' := 31) rfl rfl rfl ?_
    refine xr_lload_n (pc' := 32) rfl rfl rfl ?_
    obtain ⟨rfl, rfl⟩ := xsome2 h
    exact xr_lret rfl mR_57
  · refine xr_icmp_ne_t (t := 31) rfl hc ?_
    refine xr_lload_n (pc' := 32) rfl rfl rfl ?_
    obtain ⟨rfl, rfl⟩ := xsome2 h
    exact xr_lret rfl mR_57
def fK_ends_16  (M : xMem) (l0 : Int32) (l2 : Int64)  : Option (Int64 × xMem) :=
  fK_ends_20  M l0 (l2 + (1 : Int64)) 
set_option maxRecDepth 20000 in
theorem TfK_ends_16 {M' : xMem} {r : Int64}  (M : xMem) (l0 : Int32) (l2 : Int64)  (o1 : Int32) (h : fK_ends_16  M l0 l2  = some (r, M')) : xrun none 0 57 16 ([some (.inl l0), some (.inl o1), some (.inr (.inl l2)), none]) ([]) M (some (.inr (.inl r)), M') := by
  unfold fK_ends_16 at h
  refine xr_lload_n (pc' := 17) rfl rfl rfl ?_
  refine xr_lconst (v := 1) (pc' := 18) rfl (by decide) rfl ?_
  refine xr_ladd (pc' := 19) rfl rfl ?_
  refine xr_lstore_n (pc' := 20) rfl rfl rfl ?_
  exact TfK_ends_20   M _ _  _ h
def fK_ends (M : xMem) (a0 : Int32) (a1 : Int32) : Option (Int64 × xMem) :=
  if a0 = (2 : Int32) then (
    fK_ends_16  M a0 (Int32.toInt64 (a1 &&& (15 : Int32))) )
  else
  if a0 = (3 : Int32) then (
    fK_ends_16  M a0 (Int32.toInt64 (a1 &&& (15 : Int32))) )
  else
  fK_ends_20  M a0 (Int32.toInt64 (a1 &&& (15 : Int32))) 
set_option maxRecDepth 20000 in
theorem TfK_ends {M M' : xMem} {r : Int64} (a0 : Int32) (a1 : Int32) (h : fK_ends M a0 a1 = some (r, M')) : xrun none 0 57 0 ([some (.inl a0), some (.inl a1), none, none]) ([]) M (some (.inr (.inl r)), M') := by
  unfold fK_ends at h
  refine xr_iload_n (pc' := 1) rfl rfl rfl ?_
  refine xr_bipush (v := 15) (pc' := 3) rfl (by decide) rfl ?_
  refine xr_iand (pc' := 4) rfl rfl ?_
  refine xr_i2l (pc' := 5) rfl rfl ?_
  refine xr_lstore_n (pc' := 6) rfl rfl rfl ?_
  refine xr_iload_n (pc' := 7) rfl rfl rfl ?_
  refine xr_iconst (v := 2) (pc' := 8) rfl (by decide) rfl ?_
  rcases xite h with ⟨hc, h⟩ | ⟨hc, h⟩
  · refine xr_icmp_eq_t (t := 16) rfl hc ?_
    exact TfK_ends_16   M _ _  _ h
  · refine xr_icmp_eq_f (pc' := 11) rfl hc rfl ?_
    refine xr_iload_n (pc' := 12) rfl rfl rfl ?_
    refine xr_iconst (v := 3) (pc' := 13) rfl (by decide) rfl ?_
    rcases xite h with ⟨hc, h⟩ | ⟨hc, h⟩
    · refine xr_icmp_ne_f (pc' := 16) rfl hc rfl ?_
      exact TfK_ends_16   M _ _  _ h
    · refine xr_icmp_ne_t (t := 20) rfl hc ?_
      exact TfK_ends_20   M _ _  _ h
-- 56: MagazineDepot$Depot.endBuffer(LMagazineDepot$Cache;I)V
def fD_endBuffer (M : xMem) (this : xId) (a0 : Option xId) (a1 : Int32) : Option xMem :=
  (xgL M a0 2 13).bind fun v1 =>
  (xgI M a0 2 0).bind fun v2 =>
  (xgR M (some this) 3 0).bind fun v3 =>
  (xob M v3 0).bind fun u4 =>
  (fA_wordAt M u4 a1).bind fun q5 =>
  (fK_ends q5.2 v2 q5.1).bind fun q6 =>
  (xpL q6.2 a0 2 13 (v1 + q6.1)).bind fun M7 =>
  (xgI M7 a0 2 12).bind fun v8 =>
  (xpI M7 a0 2 12 (v8 + (1 : Int32))).bind fun M9 =>
  (xgR M9 (some this) 3 0).bind fun v10 =>
  (xob M9 v10 0).bind fun u11 =>
  (fA_mark M9 u11 a1 (0 : Int32)).bind fun q12 =>
  some q12
set_option maxRecDepth 20000 in
theorem TfD_endBuffer {M M' : xMem} (this : xId) (a0 : Option xId) (a1 : Int32) (h : fD_endBuffer M this a0 a1 = some M') : xrun none 1 56 0 ([some (.inr (.inr (some this))), some (.inr (.inr a0)), some (.inl a1)]) ([]) M (none, M') := by
  unfold fD_endBuffer at h
  refine xr_aload_n (pc' := 1) rfl rfl rfl ?_
  refine xr_dup_a (pc' := 2) rfl rfl ?_
  obtain ⟨v1, hv1, h⟩ := xbind h
  refine xr_getL (pc' := 5) rfl (by decide) hv1 rfl ?_
  refine xr_aload_n (pc' := 6) rfl rfl rfl ?_
  obtain ⟨v2, hv2, h⟩ := xbind h
  refine xr_getI (pc' := 9) rfl (by decide) hv2 rfl ?_
  refine xr_aload_n (pc' := 10) rfl rfl rfl ?_
  obtain ⟨v3, hv3, h⟩ := xbind h
  refine xr_getR (pc' := 13) rfl (by decide) hv3 rfl ?_
  refine xr_iload_n (pc' := 14) rfl rfl rfl ?_
  obtain ⟨u4, hu4, h⟩ := xbind h
  obtain ⟨q5, hq5, h⟩ := xbind h
  refine xr_callV (pc' := 17) (C := 0) (As := [_]) (rest := _) rfl hu4 mC_49 mL_49 rfl (Nat.le_of_ble_eq_true rfl) rfl (Nat.le_of_ble_eq_true rfl) (TfA_wordAt _ _ hq5) rfl ?_
  obtain ⟨q6, hq6, h⟩ := xbind h
  refine xr_callS (pc' := 20) (As := [_, _]) (rest := _) rfl (by decide) mL_57 rfl (Nat.le_of_ble_eq_true rfl) rfl (Nat.le_of_ble_eq_true rfl) (TfK_ends _ _ hq6) rfl ?_
  refine xr_ladd (pc' := 21) rfl rfl ?_
  obtain ⟨M7, hM7, h⟩ := xbind h
  refine xr_putL (pc' := 24) rfl (by decide) hM7 rfl ?_
  refine xr_aload_n (pc' := 25) rfl rfl rfl ?_
  refine xr_dup_a (pc' := 26) rfl rfl ?_
  obtain ⟨v8, hv8, h⟩ := xbind h
  refine xr_getI (pc' := 29) rfl (by decide) hv8 rfl ?_
  refine xr_iconst (v := 1) (pc' := 30) rfl (by decide) rfl ?_
  refine xr_iadd (pc' := 31) rfl rfl ?_
  obtain ⟨M9, hM9, h⟩ := xbind h
  refine xr_putI (pc' := 34) rfl (by decide) hM9 rfl ?_
  refine xr_aload_n (pc' := 35) rfl rfl rfl ?_
  obtain ⟨v10, hv10, h⟩ := xbind h
  refine xr_getR (pc' := 38) rfl (by decide) hv10 rfl ?_
  refine xr_iload_n (pc' := 39) rfl rfl rfl ?_
  refine xr_iconst (v := 0) (pc' := 40) rfl (by decide) rfl ?_
  obtain ⟨u11, hu11, h⟩ := xbind h
  obtain ⟨q12, hq12, h⟩ := xbind h
  refine xr_callV (pc' := 43) (C := 0) (As := [_, _]) (rest := _) rfl hu11 mC_41 mL_41 rfl (Nat.le_of_ble_eq_true rfl) rfl (Nat.le_of_ble_eq_true rfl) (TfA_mark _ _ _ hq12) rfl ?_
  obtain rfl := xsome1 h
  exact xr_ret rfl mR_56
-- 51: MagazineDepot$Depot.giveBy(II)V
def fD_giveBy_74  (M : xMem) (l0 : Option xId) (l1 : Int32) (l3 : Option xId)  : Option xMem :=
  (xob M l0 3).bind fun u24 =>
  (fD_endBuffer M u24 l3 l1).bind fun q25 =>
  some q25
set_option maxRecDepth 20000 in
theorem TfD_giveBy_74 {M' : xMem}  (M : xMem) (l0 : Option xId) (l1 : Int32) (l3 : Option xId)  (o2 : Int32) (o4 : Option xId) (h : fD_giveBy_74  M l0 l1 l3  = some M') : xrun none 3 51 74 ([some (.inr (.inr l0)), some (.inl l1), some (.inl o2), some (.inr (.inr l3)), some (.inr (.inr o4))]) ([]) M (none, M') := by
  unfold fD_giveBy_74 at h
  refine xr_aload_n (pc' := 75) rfl rfl rfl ?_
  refine xr_aload_n (pc' := 76) rfl rfl rfl ?_
  refine xr_iload_n (pc' := 77) rfl rfl rfl ?_
  obtain ⟨u24, hu24, h⟩ := xbind h
  obtain ⟨q25, hq25, h⟩ := xbind h
  refine xr_callV (pc' := 80) (C := 3) (As := [_, _]) (rest := _) rfl hu24 mC_56 mL_56 rfl (Nat.le_of_ble_eq_true rfl) rfl (Nat.le_of_ble_eq_true rfl) (TfD_endBuffer _ _ _ hq25) rfl ?_
  obtain rfl := xsome1 h
  exact xr_ret rfl mR_51
def fD_giveBy_45  (M : xMem) (l0 : Option xId) (l1 : Int32) (l2 : Int32) (l3 : Option xId)  : Option xMem :=
  (xgR M l3 2 14).bind fun v13 =>
  (xaI M v13 l2).bind fun v14 =>
  (xob M l0 3).bind fun u15 =>
  (fD_magazineAt M u15 v14).bind fun q16 =>
  if q16.1 = none then (
    fD_giveBy_74  q16.2 l0 l1 l3 )
  else
  (xgI q16.2 q16.1 4 1).bind fun v17 =>
  (xgI q16.2 l3 2 4).bind fun v18 =>
  if v17 < v18 then (
    (xob q16.2 q16.1 4).bind fun u19 =>
    (fP_put q16.2 u19 l1).bind fun q20 =>
    (xgR q20 l0 3 0).bind fun v21 =>
    (xob q20 v21 0).bind fun u22 =>
    (fA_mark q20 u22 l1 (2 : Int32)).bind fun q23 =>
    some q23)
  else
  fD_giveBy_74  q16.2 l0 l1 l3 
set_option maxRecDepth 20000 in
theorem TfD_giveBy_45 {M' : xMem}  (M : xMem) (l0 : Option xId) (l1 : Int32) (l2 : Int32) (l3 : Option xId)  (o4 : Option xVal) (h : fD_giveBy_45  M l0 l1 l2 l3  = some M') : xrun none 3 51 45 ([some (.inr (.inr l0)), some (.inl l1), some (.inl l2), some (.inr (.inr l3)), o4]) ([]) M (none, M') := by
  unfold fD_giveBy_45 at h
  refine xr_aload_n (pc' := 46) rfl rfl rfl ?_
  refine xr_aload_n (pc' := 47) rfl rfl rfl ?_
  obtain ⟨v13, hv13, h⟩ := xbind h
  refine xr_getR (pc' := 50) rfl (by decide) hv13 rfl ?_
  refine xr_iload_n (pc' := 51) rfl rfl rfl ?_
  obtain ⟨v14, hv14, h⟩ := xbind h
  refine xr_aI (pc' := 52) rfl hv14 rfl ?_
  obtain ⟨u15, hu15, h⟩ := xbind h
  obtain ⟨q16, hq16, h⟩ := xbind h
  refine xr_callV (pc' := 55) (C := 3) (As := [_]) (rest := _) rfl hu15 mC_23 mL_23 rfl (Nat.le_of_ble_eq_true rfl) rfl (Nat.le_of_ble_eq_true rfl) (TfD_magazineAt _ _ hq16) rfl ?_
  refine xr_astore (pc' := 57) rfl rfl rfl ?_
  refine xr_aload (pc' := 59) rfl rfl rfl ?_
  rcases xite h with ⟨hc, h⟩ | ⟨hc, h⟩
  · refine xr_ifnull_n (t := 74) rfl hc ?_
    exact TfD_giveBy_74   q16.2 _ _ _  _ _ h
  · refine xr_ifnull_s (pc' := 62) rfl hc rfl ?_
    refine xr_aload (pc' := 64) rfl rfl rfl ?_
    obtain ⟨v17, hv17, h⟩ := xbind h
    refine xr_getI (pc' := 67) rfl (by decide) hv17 rfl ?_
    refine xr_aload_n (pc' := 68) rfl rfl rfl ?_
    obtain ⟨v18, hv18, h⟩ := xbind h
    refine xr_getI (pc' := 71) rfl (by decide) hv18 rfl ?_
    rcases xite h with ⟨hc, h⟩ | ⟨hc, h⟩
    · refine xr_icmp_lt_t (t := 81) rfl hc ?_
      refine xr_aload (pc' := 83) rfl rfl rfl ?_
      refine xr_iload_n (pc' := 84) rfl rfl rfl ?_
      obtain ⟨u19, hu19, h⟩ := xbind h
      obtain ⟨q20, hq20, h⟩ := xbind h
      refine xr_callV (pc' := 87) (C := 4) (As := [_]) (rest := _) rfl hu19 mC_27 mL_27 rfl (Nat.le_of_ble_eq_true rfl) rfl (Nat.le_of_ble_eq_true rfl) (TfP_put _ _ hq20) rfl ?_
      refine xr_aload_n (pc' := 88) rfl rfl rfl ?_
      obtain ⟨v21, hv21, h⟩ := xbind h
      refine xr_getR (pc' := 91) rfl (by decide) hv21 rfl ?_
      refine xr_iload_n (pc' := 92) rfl rfl rfl ?_
      refine xr_iconst (v := 2) (pc' := 93) rfl (by decide) rfl ?_
      obtain ⟨u22, hu22, h⟩ := xbind h
      obtain ⟨q23, hq23, h⟩ := xbind h
      refine xr_callV (pc' := 96) (C := 0) (As := [_, _]) (rest := _) rfl hu22 mC_41 mL_41 rfl (Nat.le_of_ble_eq_true rfl) rfl (Nat.le_of_ble_eq_true rfl) (TfA_mark _ _ _ hq23) rfl ?_
      obtain rfl := xsome1 h
      exact xr_ret rfl mR_51
    · refine xr_icmp_lt_f (pc' := 74) rfl hc rfl ?_
      exact TfD_giveBy_74   q16.2 _ _ _  _ _ h
def fD_giveBy (M : xMem) (this : xId) (a0 : Int32) (a1 : Int32) : Option xMem :=
  (xgR M (some this) 3 0).bind fun v1 =>
  (xob M v1 0).bind fun u2 =>
  (fA_cacheOfSlot M u2 a0).bind fun q3 =>
  (xob q3.2 (some this) 3).bind fun u4 =>
  (fD_cacheAt q3.2 u4 q3.1).bind fun q5 =>
  if q5.1 = none then (
    some q5.2)
  else
  (fX_isProcessor q5.2 a1).bind fun q6 =>
  if q6.1 = 0 then (
    some q6.2)
  else
  (xgR q6.2 q5.1 2 14).bind fun v7 =>
  (xaI q6.2 v7 a1).bind fun v8 =>
  (xob q6.2 (some this) 3).bind fun u9 =>
  (fD_hasRoom q6.2 u9 q5.1 v8).bind fun q10 =>
  if q10.1 = 0 then (
    (xob q10.2 (some this) 3).bind fun u11 =>
    (fD_loadRoom q10.2 u11 q5.1 a1).bind fun q12 =>
    fD_giveBy_45  q12 (some this) a0 a1 q5.1 )
  else
  fD_giveBy_45  q10.2 (some this) a0 a1 q5.1 
set_option maxRecDepth 20000 in
theorem TfD_giveBy {M M' : xMem} (this : xId) (a0 : Int32) (a1 : Int32) (h : fD_giveBy M this a0 a1 = some M') : xrun none 3 51 0 ([some (.inr (.inr (some this))), some (.inl a0), some (.inl a1), none, none]) ([]) M (none, M') := by
  unfold fD_giveBy at h
  refine xr_aload_n (pc' := 1) rfl rfl rfl ?_
  refine xr_aload_n (pc' := 2) rfl rfl rfl ?_
  obtain ⟨v1, hv1, h⟩ := xbind h
  refine xr_getR (pc' := 5) rfl (by decide) hv1 rfl ?_
  refine xr_iload_n (pc' := 6) rfl rfl rfl ?_
  obtain ⟨u2, hu2, h⟩ := xbind h
  obtain ⟨q3, hq3, h⟩ := xbind h
  refine xr_callV (pc' := 9) (C := 0) (As := [_]) (rest := _) rfl hu2 mC_48 mL_48 rfl (Nat.le_of_ble_eq_true rfl) rfl (Nat.le_of_ble_eq_true rfl) (TfA_cacheOfSlot _ _ hq3) rfl ?_
  obtain ⟨u4, hu4, h⟩ := xbind h
  obtain ⟨q5, hq5, h⟩ := xbind h
  refine xr_callV (pc' := 12) (C := 3) (As := [_]) (rest := _) rfl hu4 mC_18 mL_18 rfl (Nat.le_of_ble_eq_true rfl) rfl (Nat.le_of_ble_eq_true rfl) (TfD_cacheAt _ _ hq5) rfl ?_
  refine xr_astore_n (pc' := 13) rfl rfl rfl ?_
  refine xr_aload_n (pc' := 14) rfl rfl rfl ?_
  rcases xite h with ⟨hc, h⟩ | ⟨hc, h⟩
  · refine xr_ifnull_n (t := 24) rfl hc ?_
    obtain rfl := xsome1 h
    exact xr_ret rfl mR_51
  · refine xr_ifnull_s (pc' := 17) rfl hc rfl ?_
    refine xr_iload_n (pc' := 18) rfl rfl rfl ?_
    obtain ⟨q6, hq6, h⟩ := xbind h
    refine xr_callS (pc' := 21) (As := [_]) (rest := _) rfl (by decide) mL_20 rfl (Nat.le_of_ble_eq_true rfl) rfl (Nat.le_of_ble_eq_true rfl) (TfX_isProcessor _ hq6) rfl ?_
    rcases xite h with ⟨hc, h⟩ | ⟨hc, h⟩
    · refine xr_if_ne_f (pc' := 24) rfl hc rfl ?_
      obtain rfl := xsome1 h
      exact xr_ret rfl mR_51
    · refine xr_if_ne_t (t := 25) rfl hc ?_
      refine xr_aload_n (pc' := 26) rfl rfl rfl ?_
      refine xr_aload_n (pc' := 27) rfl rfl rfl ?_
      refine xr_aload_n (pc' := 28) rfl rfl rfl ?_
      obtain ⟨v7, hv7, h⟩ := xbind h
      refine xr_getR (pc' := 31) rfl (by decide) hv7 rfl ?_
      refine xr_iload_n (pc' := 32) rfl rfl rfl ?_
      obtain ⟨v8, hv8, h⟩ := xbind h
      refine xr_aI (pc' := 33) rfl hv8 rfl ?_
      obtain ⟨u9, hu9, h⟩ := xbind h
      obtain ⟨q10, hq10, h⟩ := xbind h
      refine xr_callV (pc' := 36) (C := 3) (As := [_, _]) (rest := _) rfl hu9 mC_52 mL_52 rfl (Nat.le_of_ble_eq_true rfl) rfl (Nat.le_of_ble_eq_true rfl) (TfD_hasRoom _ _ _ hq10) rfl ?_
      rcases xite h with ⟨hc, h⟩ | ⟨hc, h⟩
      · refine xr_if_ne_f (pc' := 39) rfl hc rfl ?_
        refine xr_aload_n (pc' := 40) rfl rfl rfl ?_
        refine xr_aload_n (pc' := 41) rfl rfl rfl ?_
        refine xr_iload_n (pc' := 42) rfl rfl rfl ?_
        obtain ⟨u11, hu11, h⟩ := xbind h
        obtain ⟨q12, hq12, h⟩ := xbind h
        refine xr_callV (pc' := 45) (C := 3) (As := [_, _]) (rest := _) rfl hu11 mC_53 mL_53 rfl (Nat.le_of_ble_eq_true rfl) rfl (Nat.le_of_ble_eq_true rfl) (TfD_loadRoom _ _ _ hq12) rfl ?_
        exact TfD_giveBy_45   q12 _ _ _ _  _ h
      · refine xr_if_ne_t (t := 45) rfl hc ?_
        exact TfD_giveBy_45   q10.2 _ _ _ _  _ h
-- 59: MagazineDepot$Arena.inPage(II)I
def fA_inPage (M : xMem) (this : xId) (a0 : Int32) (a1 : Int32) : Option (Int32 × xMem) :=
  if a0 < 0 then (
    some ((0 : Int32), M))
  else
  if a0 < (32 : Int32) then (
    (xgR M (some this) 0 4).bind fun v1 =>
    (xaL M v1 a0).bind fun v2 =>
    (fJ_bitCount M v2).bind fun q3 =>
    (xgR q3.2 (some this) 0 5).bind fun v4 =>
    (xaL q3.2 v4 a0).bind fun v5 =>
    (fJ_bitCount q3.2 v5).bind fun q6 =>
    if a1 = 0 then (
      some (q3.1, q6.2))
    else
    if a1 = (1 : Int32) then (
      some (q6.1, q6.2))
    else
    (xgR q6.2 (some this) 0 3).bind fun v7 =>
    (xaI q6.2 v7 a0).bind fun v8 =>
    some (((v8 - q3.1) - q6.1), q6.2))
  else
  some ((0 : Int32), M)
set_option maxRecDepth 20000 in
theorem TfA_inPage {M M' : xMem} {r : Int32} (this : xId) (a0 : Int32) (a1 : Int32) (h : fA_inPage M this a0 a1 = some (r, M')) : xrun none 1 59 0 ([some (.inr (.inr (some this))), some (.inl a0), some (.inl a1), none, none]) ([]) M (some (.inl r), M') := by
  unfold fA_inPage at h
  refine xr_iload_n (pc' := 1) rfl rfl rfl ?_
  rcases xite h with ⟨hc, h⟩ | ⟨hc, h⟩
  · refine xr_if_lt_t (t := 10) rfl hc ?_
    refine xr_iconst (v := 0) (pc' := 11) rfl (by decide) rfl ?_
    obtain ⟨rfl, rfl⟩ := xsome2 h
    exact xr_iret rfl mR_59
  · refine xr_if_lt_f (pc' := 4) rfl hc rfl ?_
    refine xr_iload_n (pc' := 5) rfl rfl rfl ?_
    refine xr_bipush (v := 32) (pc' := 7) rfl (by decide) rfl ?_
    rcases xite h with ⟨hc, h⟩ | ⟨hc, h⟩
    · refine xr_icmp_lt_t (t := 12) rfl hc ?_
      refine xr_aload_n (pc' := 13) rfl rfl rfl ?_
      obtain ⟨v1, hv1, h⟩ := xbind h
      refine xr_getR (pc' := 16) rfl (by decide) hv1 rfl ?_
      refine xr_iload_n (pc' := 17) rfl rfl rfl ?_
      obtain ⟨v2, hv2, h⟩ := xbind h
      refine xr_aL (pc' := 18) rfl hv2 rfl ?_
      obtain ⟨q3, hq3, h⟩ := xbind h
      refine xr_callS (pc' := 21) (As := [_]) (rest := _) rfl (by decide) mL_37 rfl (Nat.le_of_ble_eq_true rfl) rfl (Nat.le_of_ble_eq_true rfl) (TfJ_bitCount _ hq3) rfl ?_
      refine xr_istore_n (pc' := 22) rfl rfl rfl ?_
      refine xr_aload_n (pc' := 23) rfl rfl rfl ?_
      obtain ⟨v4, hv4, h⟩ := xbind h
      refine xr_getR (pc' := 26) rfl (by decide) hv4 rfl ?_
      refine xr_iload_n (pc' := 27) rfl rfl rfl ?_
      obtain ⟨v5, hv5, h⟩ := xbind h
      refine xr_aL (pc' := 28) rfl hv5 rfl ?_
      obtain ⟨q6, hq6, h⟩ := xbind h
      refine xr_callS (pc' := 31) (As := [_]) (rest := _) rfl (by decide) mL_37 rfl (Nat.le_of_ble_eq_true rfl) rfl (Nat.le_of_ble_eq_true rfl) (TfJ_bitCount _ hq6) rfl ?_
      refine xr_istore (pc' := 33) rfl rfl rfl ?_
      refine xr_iload_n (pc' := 34) rfl rfl rfl ?_
      rcases xite h with ⟨hc, h⟩ | ⟨hc, h⟩
      · refine xr_if_ne_f (pc' := 37) rfl hc rfl ?_
        refine xr_iload_n (pc' := 38) rfl rfl rfl ?_
        obtain ⟨rfl, rfl⟩ := xsome2 h
        exact xr_iret rfl mR_59
      · refine xr_if_ne_t (t := 39) rfl hc ?_
        refine xr_iload_n (pc' := 40) rfl rfl rfl ?_
        refine xr_iconst (v := 1) (pc' := 41) rfl (by decide) rfl ?_
        rcases xite h with ⟨hc, h⟩ | ⟨hc, h⟩
        · refine xr_icmp_ne_f (pc' := 44) rfl hc rfl ?_
          refine xr_iload (pc' := 46) rfl rfl rfl ?_
          refine xr_goto (t := 60) rfl ?_
          obtain ⟨rfl, rfl⟩ := xsome2 h
          exact xr_iret rfl mR_59
        · refine xr_icmp_ne_t (t := 49) rfl hc ?_
          refine xr_aload_n (pc' := 50) rfl rfl rfl ?_
          obtain ⟨v7, hv7, h⟩ := xbind h
          refine xr_getR (pc' := 53) rfl (by decide) hv7 rfl ?_
          refine xr_iload_n (pc' := 54) rfl rfl rfl ?_
          obtain ⟨v8, hv8, h⟩ := xbind h
          refine xr_aI (pc' := 55) rfl hv8 rfl ?_
          refine xr_iload_n (pc' := 56) rfl rfl rfl ?_
          refine xr_isub (pc' := 57) rfl rfl ?_
          refine xr_iload (pc' := 59) rfl rfl rfl ?_
          refine xr_isub (pc' := 60) rfl rfl ?_
          obtain ⟨rfl, rfl⟩ := xsome2 h
          exact xr_iret rfl mR_59
    · refine xr_icmp_lt_f (pc' := 10) rfl hc rfl ?_
      refine xr_iconst (v := 0) (pc' := 11) rfl (by decide) rfl ?_
      obtain ⟨rfl, rfl⟩ := xsome2 h
      exact xr_iret rfl mR_59
-- 58: MagazineDepot$Arena.howMany(II)I
def fA_howMany_49 (k5 : xMem → Option xId → Int32 → Int32 → Int32 → Int32 → Option (Int32 × xMem)) (M : xMem) (l0 : Option xId) (l1 : Int32) (l2 : Int32) (l3 : Int32) (l4 : Int32)  : Option (Int32 × xMem) :=
  k5 M l0 l1 l2 l3 (l4 + 1)
set_option maxRecDepth 20000 in
theorem TfA_howMany_49 {M' : xMem} {r : Int32} (k5 : xMem → Option xId → Int32 → Int32 → Int32 → Int32 → Option (Int32 × xMem)) (hk5 : ∀ (M : xMem) (l0 : Option xId) (l1 : Int32) (l2 : Int32) (l3 : Int32) (l4 : Int32) , k5 M l0 l1 l2 l3 l4 = some (r, M') → xrun none 2 58 5 ([some (.inr (.inr l0)), some (.inl l1), some (.inl l2), some (.inl l3), some (.inl l4)]) ([]) M (some (.inl r), M')) (M : xMem) (l0 : Option xId) (l1 : Int32) (l2 : Int32) (l3 : Int32) (l4 : Int32)   (h : fA_howMany_49 k5 M l0 l1 l2 l3 l4  = some (r, M')) : xrun none 2 58 49 ([some (.inr (.inr l0)), some (.inl l1), some (.inl l2), some (.inl l3), some (.inl l4)]) ([]) M (some (.inl r), M') := by
  unfold fA_howMany_49 at h
  refine xr_iinc (c := 1) (pc' := 52) rfl (by decide) rfl rfl rfl ?_
  refine xr_goto (t := 5) rfl ?_
  exact hk5 M _ _ _ _ _  h
def fA_howMany_39 (k5 : xMem → Option xId → Int32 → Int32 → Int32 → Int32 → Option (Int32 × xMem)) (M : xMem) (l0 : Option xId) (l1 : Int32) (l2 : Int32) (l3 : Int32) (l4 : Int32)  : Option (Int32 × xMem) :=
  (xob M l0 0).bind fun u5 =>
  (fA_inPage M u5 l4 l2).bind fun q6 =>
  fA_howMany_49 k5 q6.2 l0 l1 l2 (l3 + q6.1) l4 
set_option maxRecDepth 20000 in
theorem TfA_howMany_39 {M' : xMem} {r : Int32} (k5 : xMem → Option xId → Int32 → Int32 → Int32 → Int32 → Option (Int32 × xMem)) (hk5 : ∀ (M : xMem) (l0 : Option xId) (l1 : Int32) (l2 : Int32) (l3 : Int32) (l4 : Int32) , k5 M l0 l1 l2 l3 l4 = some (r, M') → xrun none 2 58 5 ([some (.inr (.inr l0)), some (.inl l1), some (.inl l2), some (.inl l3), some (.inl l4)]) ([]) M (some (.inl r), M')) (M : xMem) (l0 : Option xId) (l1 : Int32) (l2 : Int32) (l3 : Int32) (l4 : Int32)   (h : fA_howMany_39 k5 M l0 l1 l2 l3 l4  = some (r, M')) : xrun none 2 58 39 ([some (.inr (.inr l0)), some (.inl l1), some (.inl l2), some (.inl l3), some (.inl l4)]) ([]) M (some (.inl r), M') := by
  unfold fA_howMany_39 at h
  refine xr_iload_n (pc' := 40) rfl rfl rfl ?_
  refine xr_aload_n (pc' := 41) rfl rfl rfl ?_
  refine xr_iload (pc' := 43) rfl rfl rfl ?_
  refine xr_iload_n (pc' := 44) rfl rfl rfl ?_
  obtain ⟨u5, hu5, h⟩ := xbind h
  obtain ⟨q6, hq6, h⟩ := xbind h
  refine xr_callV (pc' := 47) (C := 0) (As := [_, _]) (rest := _) rfl hu5 mC_59 mL_59 rfl (Nat.le_of_ble_eq_true rfl) rfl (Nat.le_of_ble_eq_true rfl) (TfA_inPage _ _ _ hq6) rfl ?_
  refine xr_iadd (pc' := 48) rfl rfl ?_
  refine xr_istore_n (pc' := 49) rfl rfl rfl ?_
  exact TfA_howMany_49 _ hk5 q6.2 _ _ _ _ _   h
def fA_howMany_5  : Nat → xMem → Option xId → Int32 → Int32 → Int32 → Int32 → Option (Int32 × xMem)
  | 0, _, _, _, _, _, _ => none
  | n + 1, M, l0, l1, l2, l3, l4 =>
    if (32 : Int32) ≤ l4 then (
      some (l3, M))
    else
    (xgR M l0 0 0).bind fun v1 =>
    (xaI M v1 l4).bind fun v2 =>
    if v2 = (-1 : Int32) then (
      fA_howMany_49 (fun M l0 l1 l2 l3 l4 => fA_howMany_5  n M l0 l1 l2 l3 l4) M l0 l1 l2 l3 l4 )
    else
    if l1 = (-1 : Int32) then (
      fA_howMany_39 (fun M l0 l1 l2 l3 l4 => fA_howMany_5  n M l0 l1 l2 l3 l4) M l0 l1 l2 l3 l4 )
    else
    (xgR M l0 0 0).bind fun v3 =>
    (xaI M v3 l4).bind fun v4 =>
    if v4 = l1 then (
      fA_howMany_39 (fun M l0 l1 l2 l3 l4 => fA_howMany_5  n M l0 l1 l2 l3 l4) M l0 l1 l2 l3 l4 )
    else
    fA_howMany_49 (fun M l0 l1 l2 l3 l4 => fA_howMany_5  n M l0 l1 l2 l3 l4) M l0 l1 l2 l3 l4 
set_option maxRecDepth 20000 in
theorem TfA_howMany_5 {M' : xMem} {r : Int32}  : ∀ (n : Nat) (M : xMem) (l0 : Option xId) (l1 : Int32) (l2 : Int32) (l3 : Int32) (l4 : Int32) , fA_howMany_5  n M l0 l1 l2 l3 l4 = some (r, M') → xrun none 2 58 5 ([some (.inr (.inr l0)), some (.inl l1), some (.inl l2), some (.inl l3), some (.inl l4)]) ([]) M (some (.inl r), M') := by
  intro n
  induction n with
  | zero => intro M l0 l1 l2 l3 l4  h; unfold fA_howMany_5 at h; cases h
  | succ n ih =>
    intro M l0 l1 l2 l3 l4  h
    unfold fA_howMany_5 at h
    refine xr_iload (pc' := 7) rfl rfl rfl ?_
    refine xr_bipush (v := 32) (pc' := 9) rfl (by decide) rfl ?_
    rcases xite h with ⟨hc, h⟩ | ⟨hc, h⟩
    · refine xr_icmp_ge_t (t := 55) rfl hc ?_
      refine xr_iload_n (pc' := 56) rfl rfl rfl ?_
      obtain ⟨rfl, rfl⟩ := xsome2 h
      exact xr_iret rfl mR_58
    · refine xr_icmp_ge_f (pc' := 12) rfl hc rfl ?_
      refine xr_aload_n (pc' := 13) rfl rfl rfl ?_
      obtain ⟨v1, hv1, h⟩ := xbind h
      refine xr_getR (pc' := 16) rfl (by decide) hv1 rfl ?_
      refine xr_iload (pc' := 18) rfl rfl rfl ?_
      obtain ⟨v2, hv2, h⟩ := xbind h
      refine xr_aI (pc' := 19) rfl hv2 rfl ?_
      refine xr_iconst (v := -1) (pc' := 20) rfl (by decide) rfl ?_
      rcases xite h with ⟨hc, h⟩ | ⟨hc, h⟩
      · refine xr_icmp_eq_t (t := 49) rfl hc ?_
        exact TfA_howMany_49 _ (fun M l0 l1 l2 l3 l4  h => ih M l0 l1 l2 l3 l4  h) M _ _ _ _ _   h
      · refine xr_icmp_eq_f (pc' := 23) rfl hc rfl ?_
        refine xr_iload_n (pc' := 24) rfl rfl rfl ?_
        refine xr_iconst (v := -1) (pc' := 25) rfl (by decide) rfl ?_
        rcases xite h with ⟨hc, h⟩ | ⟨hc, h⟩
        · refine xr_icmp_eq_t (t := 39) rfl hc ?_
          exact TfA_howMany_39 _ (fun M l0 l1 l2 l3 l4  h => ih M l0 l1 l2 l3 l4  h) M _ _ _ _ _   h
        · refine xr_icmp_eq_f (pc' := 28) rfl hc rfl ?_
          refine xr_aload_n (pc' := 29) rfl rfl rfl ?_
          obtain ⟨v3, hv3, h⟩ := xbind h
          refine xr_getR (pc' := 32) rfl (by decide) hv3 rfl ?_
          refine xr_iload (pc' := 34) rfl rfl rfl ?_
          obtain ⟨v4, hv4, h⟩ := xbind h
          refine xr_aI (pc' := 35) rfl hv4 rfl ?_
          refine xr_iload_n (pc' := 36) rfl rfl rfl ?_
          rcases xite h with ⟨hc, h⟩ | ⟨hc, h⟩
          · refine xr_icmp_ne_f (pc' := 39) rfl hc rfl ?_
            exact TfA_howMany_39 _ (fun M l0 l1 l2 l3 l4  h => ih M l0 l1 l2 l3 l4  h) M _ _ _ _ _   h
          · refine xr_icmp_ne_t (t := 49) rfl hc ?_
            exact TfA_howMany_49 _ (fun M l0 l1 l2 l3 l4  h => ih M l0 l1 l2 l3 l4  h) M _ _ _ _ _   h
def fA_howMany (M : xMem) (this : xId) (a0 : Int32) (a1 : Int32) : Option (Int32 × xMem) :=
  fA_howMany_5  xF M (some this) a0 a1 (0 : Int32) (0 : Int32)
set_option maxRecDepth 20000 in
theorem TfA_howMany {M M' : xMem} {r : Int32} (this : xId) (a0 : Int32) (a1 : Int32) (h : fA_howMany M this a0 a1 = some (r, M')) : xrun none 2 58 0 ([some (.inr (.inr (some this))), some (.inl a0), some (.inl a1), none, none]) ([]) M (some (.inl r), M') := by
  unfold fA_howMany at h
  refine xr_iconst (v := 0) (pc' := 1) rfl (by decide) rfl ?_
  refine xr_istore_n (pc' := 2) rfl rfl rfl ?_
  refine xr_iconst (v := 0) (pc' := 3) rfl (by decide) rfl ?_
  refine xr_istore (pc' := 5) rfl rfl rfl ?_
  exact TfA_howMany_5   xF M _ _ _ _ _  h
-- 42: MagazineDepot.give(II)I
def fX_give (M : xMem) (this : xId) (a0 : Int32) (a1 : Int32) : Option (Int32 × xMem) :=
  (xgR M (some this) 7 0).bind fun v1 =>
  (xgR M v1 3 0).bind fun v2 =>
  (xob M v2 0).bind fun u3 =>
  (fA_slotOf M u3 a0).bind fun q4 =>
  (xgR q4.2 (some this) 7 0).bind fun v5 =>
  (xgR q4.2 v5 3 0).bind fun v6 =>
  (xob q4.2 v6 0).bind fun u7 =>
  (fA_isLive q4.2 u7 q4.1).bind fun q8 =>
  if q8.1 = 0 then (
    some ((-1 : Int32), q8.2))
  else
  (fX_isProcessor q8.2 a1).bind fun q9 =>
  if q9.1 = 0 then (
    some ((-1 : Int32), q9.2))
  else
  (xgR q9.2 (some this) 7 0).bind fun v10 =>
  (xob q9.2 v10 3).bind fun u11 =>
  (fD_isFit q9.2 u11 q4.1).bind fun q12 =>
  if q12.1 = 0 then (
    some ((-5 : Int32), q12.2))
  else
  (xgR q12.2 (some this) 7 0).bind fun v13 =>
  (xob q12.2 v13 3).bind fun u14 =>
  (fD_giveBy q12.2 u14 q4.1 a1).bind fun q15 =>
  (xgR q15 (some this) 7 0).bind fun v16 =>
  (xgR q15 v16 3 0).bind fun v17 =>
  (xgR q15 (some this) 7 0).bind fun v18 =>
  (xgR q15 v18 3 0).bind fun v19 =>
  (xob q15 v19 0).bind fun u20 =>
  (fA_cacheOfSlot q15 u20 q4.1).bind fun q21 =>
  (xob q21.2 v17 0).bind fun u22 =>
  (fA_howMany q21.2 u22 q21.1 (2 : Int32)).bind fun q23 =>
  some (q23.1, q23.2)
set_option maxRecDepth 20000 in
theorem TfX_give {M M' : xMem} {r : Int32} (this : xId) (a0 : Int32) (a1 : Int32) (h : fX_give M this a0 a1 = some (r, M')) : xrun none 4 42 0 ([some (.inr (.inr (some this))), some (.inl a0), some (.inl a1), none]) ([]) M (some (.inl r), M') := by
  unfold fX_give at h
  refine xr_aload_n (pc' := 1) rfl rfl rfl ?_
  obtain ⟨v1, hv1, h⟩ := xbind h
  refine xr_getR (pc' := 4) rfl (by decide) hv1 rfl ?_
  obtain ⟨v2, hv2, h⟩ := xbind h
  refine xr_getR (pc' := 7) rfl (by decide) hv2 rfl ?_
  refine xr_iload_n (pc' := 8) rfl rfl rfl ?_
  obtain ⟨u3, hu3, h⟩ := xbind h
  obtain ⟨q4, hq4, h⟩ := xbind h
  refine xr_callV (pc' := 11) (C := 0) (As := [_]) (rest := _) rfl hu3 mC_43 mL_43 rfl (Nat.le_of_ble_eq_true rfl) rfl (Nat.le_of_ble_eq_true rfl) (TfA_slotOf _ _ hq4) rfl ?_
  refine xr_istore_n (pc' := 12) rfl rfl rfl ?_
  refine xr_aload_n (pc' := 13) rfl rfl rfl ?_
  obtain ⟨v5, hv5, h⟩ := xbind h
  refine xr_getR (pc' := 16) rfl (by decide) hv5 rfl ?_
  obtain ⟨v6, hv6, h⟩ := xbind h
  refine xr_getR (pc' := 19) rfl (by decide) hv6 rfl ?_
  refine xr_iload_n (pc' := 20) rfl rfl rfl ?_
  obtain ⟨u7, hu7, h⟩ := xbind h
  obtain ⟨q8, hq8, h⟩ := xbind h
  refine xr_callV (pc' := 23) (C := 0) (As := [_]) (rest := _) rfl hu7 mC_45 mL_45 rfl (Nat.le_of_ble_eq_true rfl) rfl (Nat.le_of_ble_eq_true rfl) (TfA_isLive _ _ hq8) rfl ?_
  rcases xite h with ⟨hc, h⟩ | ⟨hc, h⟩
  · refine xr_if_eq_t (t := 33) rfl hc ?_
    refine xr_iconst (v := -1) (pc' := 34) rfl (by decide) rfl ?_
    obtain ⟨rfl, rfl⟩ := xsome2 h
    exact xr_iret rfl mR_42
  · refine xr_if_eq_f (pc' := 26) rfl hc rfl ?_
    refine xr_iload_n (pc' := 27) rfl rfl rfl ?_
    obtain ⟨q9, hq9, h⟩ := xbind h
    refine xr_callS (pc' := 30) (As := [_]) (rest := _) rfl (by decide) mL_20 rfl (Nat.le_of_ble_eq_true rfl) rfl (Nat.le_of_ble_eq_true rfl) (TfX_isProcessor _ hq9) rfl ?_
    rcases xite h with ⟨hc, h⟩ | ⟨hc, h⟩
    · refine xr_if_ne_f (pc' := 33) rfl hc rfl ?_
      refine xr_iconst (v := -1) (pc' := 34) rfl (by decide) rfl ?_
      obtain ⟨rfl, rfl⟩ := xsome2 h
      exact xr_iret rfl mR_42
    · refine xr_if_ne_t (t := 35) rfl hc ?_
      refine xr_aload_n (pc' := 36) rfl rfl rfl ?_
      obtain ⟨v10, hv10, h⟩ := xbind h
      refine xr_getR (pc' := 39) rfl (by decide) hv10 rfl ?_
      refine xr_iload_n (pc' := 40) rfl rfl rfl ?_
      obtain ⟨u11, hu11, h⟩ := xbind h
      obtain ⟨q12, hq12, h⟩ := xbind h
      refine xr_callV (pc' := 43) (C := 3) (As := [_]) (rest := _) rfl hu11 mC_47 mL_47 rfl (Nat.le_of_ble_eq_true rfl) rfl (Nat.le_of_ble_eq_true rfl) (TfD_isFit _ _ hq12) rfl ?_
      rcases xite h with ⟨hc, h⟩ | ⟨hc, h⟩
      · refine xr_if_ne_f (pc' := 46) rfl hc rfl ?_
        refine xr_bipush (v := -5) (pc' := 48) rfl (by decide) rfl ?_
        obtain ⟨rfl, rfl⟩ := xsome2 h
        exact xr_iret rfl mR_42
      · refine xr_if_ne_t (t := 49) rfl hc ?_
        refine xr_aload_n (pc' := 50) rfl rfl rfl ?_
        obtain ⟨v13, hv13, h⟩ := xbind h
        refine xr_getR (pc' := 53) rfl (by decide) hv13 rfl ?_
        refine xr_iload_n (pc' := 54) rfl rfl rfl ?_
        refine xr_iload_n (pc' := 55) rfl rfl rfl ?_
        obtain ⟨u14, hu14, h⟩ := xbind h
        obtain ⟨q15, hq15, h⟩ := xbind h
        refine xr_callV (pc' := 58) (C := 3) (As := [_, _]) (rest := _) rfl hu14 mC_51 mL_51 rfl (Nat.le_of_ble_eq_true rfl) rfl (Nat.le_of_ble_eq_true rfl) (TfD_giveBy _ _ _ hq15) rfl ?_
        refine xr_aload_n (pc' := 59) rfl rfl rfl ?_
        obtain ⟨v16, hv16, h⟩ := xbind h
        refine xr_getR (pc' := 62) rfl (by decide) hv16 rfl ?_
        obtain ⟨v17, hv17, h⟩ := xbind h
        refine xr_getR (pc' := 65) rfl (by decide) hv17 rfl ?_
        refine xr_aload_n (pc' := 66) rfl rfl rfl ?_
        obtain ⟨v18, hv18, h⟩ := xbind h
        refine xr_getR (pc' := 69) rfl (by decide) hv18 rfl ?_
        obtain ⟨v19, hv19, h⟩ := xbind h
        refine xr_getR (pc' := 72) rfl (by decide) hv19 rfl ?_
        refine xr_iload_n (pc' := 73) rfl rfl rfl ?_
        obtain ⟨u20, hu20, h⟩ := xbind h
        obtain ⟨q21, hq21, h⟩ := xbind h
        refine xr_callV (pc' := 76) (C := 0) (As := [_]) (rest := _) rfl hu20 mC_48 mL_48 rfl (Nat.le_of_ble_eq_true rfl) rfl (Nat.le_of_ble_eq_true rfl) (TfA_cacheOfSlot _ _ hq21) rfl ?_
        refine xr_iconst (v := 2) (pc' := 77) rfl (by decide) rfl ?_
        obtain ⟨u22, hu22, h⟩ := xbind h
        obtain ⟨q23, hq23, h⟩ := xbind h
        refine xr_callV (pc' := 80) (C := 0) (As := [_, _]) (rest := _) rfl hu22 mC_58 mL_58 rfl (Nat.le_of_ble_eq_true rfl) rfl (Nat.le_of_ble_eq_true rfl) (TfA_howMany _ _ _ hq23) rfl ?_
        obtain ⟨rfl, rfl⟩ := xsome2 h
        exact xr_iret rfl mR_42
-- 60: MagazineDepot.write(II)I
def fX_write (M : xMem) (this : xId) (a0 : Int32) (a1 : Int32) : Option (Int32 × xMem) :=
  (xgR M (some this) 7 0).bind fun v1 =>
  (xgR M v1 3 0).bind fun v2 =>
  (xob M v2 0).bind fun u3 =>
  (fA_slotOf M u3 a0).bind fun q4 =>
  (xgR q4.2 (some this) 7 0).bind fun v5 =>
  (xgR q4.2 v5 3 0).bind fun v6 =>
  (xob q4.2 v6 0).bind fun u7 =>
  (fA_isLive q4.2 u7 q4.1).bind fun q8 =>
  if q8.1 = 0 then (
    some ((-1 : Int32), q8.2))
  else
  (xgR q8.2 (some this) 7 0).bind fun v9 =>
  (xgR q8.2 v9 3 0).bind fun v10 =>
  (xob q8.2 v10 0).bind fun u11 =>
  (fA_setWord q8.2 u11 q4.1 a1).bind fun q12 =>
  some ((1 : Int32), q12)
set_option maxRecDepth 20000 in
theorem TfX_write {M M' : xMem} {r : Int32} (this : xId) (a0 : Int32) (a1 : Int32) (h : fX_write M this a0 a1 = some (r, M')) : xrun none 2 60 0 ([some (.inr (.inr (some this))), some (.inl a0), some (.inl a1), none]) ([]) M (some (.inl r), M') := by
  unfold fX_write at h
  refine xr_aload_n (pc' := 1) rfl rfl rfl ?_
  obtain ⟨v1, hv1, h⟩ := xbind h
  refine xr_getR (pc' := 4) rfl (by decide) hv1 rfl ?_
  obtain ⟨v2, hv2, h⟩ := xbind h
  refine xr_getR (pc' := 7) rfl (by decide) hv2 rfl ?_
  refine xr_iload_n (pc' := 8) rfl rfl rfl ?_
  obtain ⟨u3, hu3, h⟩ := xbind h
  obtain ⟨q4, hq4, h⟩ := xbind h
  refine xr_callV (pc' := 11) (C := 0) (As := [_]) (rest := _) rfl hu3 mC_43 mL_43 rfl (Nat.le_of_ble_eq_true rfl) rfl (Nat.le_of_ble_eq_true rfl) (TfA_slotOf _ _ hq4) rfl ?_
  refine xr_istore_n (pc' := 12) rfl rfl rfl ?_
  refine xr_aload_n (pc' := 13) rfl rfl rfl ?_
  obtain ⟨v5, hv5, h⟩ := xbind h
  refine xr_getR (pc' := 16) rfl (by decide) hv5 rfl ?_
  obtain ⟨v6, hv6, h⟩ := xbind h
  refine xr_getR (pc' := 19) rfl (by decide) hv6 rfl ?_
  refine xr_iload_n (pc' := 20) rfl rfl rfl ?_
  obtain ⟨u7, hu7, h⟩ := xbind h
  obtain ⟨q8, hq8, h⟩ := xbind h
  refine xr_callV (pc' := 23) (C := 0) (As := [_]) (rest := _) rfl hu7 mC_45 mL_45 rfl (Nat.le_of_ble_eq_true rfl) rfl (Nat.le_of_ble_eq_true rfl) (TfA_isLive _ _ hq8) rfl ?_
  rcases xite h with ⟨hc, h⟩ | ⟨hc, h⟩
  · refine xr_if_ne_f (pc' := 26) rfl hc rfl ?_
    refine xr_iconst (v := -1) (pc' := 27) rfl (by decide) rfl ?_
    obtain ⟨rfl, rfl⟩ := xsome2 h
    exact xr_iret rfl mR_60
  · refine xr_if_ne_t (t := 28) rfl hc ?_
    refine xr_aload_n (pc' := 29) rfl rfl rfl ?_
    obtain ⟨v9, hv9, h⟩ := xbind h
    refine xr_getR (pc' := 32) rfl (by decide) hv9 rfl ?_
    obtain ⟨v10, hv10, h⟩ := xbind h
    refine xr_getR (pc' := 35) rfl (by decide) hv10 rfl ?_
    refine xr_iload_n (pc' := 36) rfl rfl rfl ?_
    refine xr_iload_n (pc' := 37) rfl rfl rfl ?_
    obtain ⟨u11, hu11, h⟩ := xbind h
    obtain ⟨q12, hq12, h⟩ := xbind h
    refine xr_callV (pc' := 40) (C := 0) (As := [_, _]) (rest := _) rfl hu11 mC_40 mL_40 rfl (Nat.le_of_ble_eq_true rfl) rfl (Nat.le_of_ble_eq_true rfl) (TfA_setWord _ _ _ hq12) rfl ?_
    refine xr_iconst (v := 1) (pc' := 41) rfl (by decide) rfl ?_
    obtain ⟨rfl, rfl⟩ := xsome2 h
    exact xr_iret rfl mR_60
-- 61: MagazineDepot.word(I)J
def fX_word_34  (M : xMem) (l0 : Option xId) (l2 : Int32)  : Option (Int64 × xMem) :=
  (xgR M l0 7 0).bind fun v9 =>
  (xgR M v9 3 0).bind fun v10 =>
  (xob M v10 0).bind fun u11 =>
  (fA_wordAt M u11 l2).bind fun q12 =>
  some ((Int32.toInt64 q12.1), q12.2)
set_option maxRecDepth 20000 in
theorem TfX_word_34 {M' : xMem} {r : Int64}  (M : xMem) (l0 : Option xId) (l2 : Int32)  (o1 : Int32) (o3 : Int32) (h : fX_word_34  M l0 l2  = some (r, M')) : xrun none 2 61 34 ([some (.inr (.inr l0)), some (.inl o1), some (.inl l2), some (.inl o3)]) ([]) M (some (.inr (.inl r)), M') := by
  unfold fX_word_34 at h
  refine xr_aload_n (pc' := 35) rfl rfl rfl ?_
  obtain ⟨v9, hv9, h⟩ := xbind h
  refine xr_getR (pc' := 38) rfl (by decide) hv9 rfl ?_
  obtain ⟨v10, hv10, h⟩ := xbind h
  refine xr_getR (pc' := 41) rfl (by decide) hv10 rfl ?_
  refine xr_iload_n (pc' := 42) rfl rfl rfl ?_
  obtain ⟨u11, hu11, h⟩ := xbind h
  obtain ⟨q12, hq12, h⟩ := xbind h
  refine xr_callV (pc' := 45) (C := 0) (As := [_]) (rest := _) rfl hu11 mC_49 mL_49 rfl (Nat.le_of_ble_eq_true rfl) rfl (Nat.le_of_ble_eq_true rfl) (TfA_wordAt _ _ hq12) rfl ?_
  refine xr_i2l (pc' := 46) rfl rfl ?_
  refine xr_goto (t := 52) rfl ?_
  obtain ⟨rfl, rfl⟩ := xsome2 h
  exact xr_lret rfl mR_61
def fX_word (M : xMem) (this : xId) (a0 : Int32) : Option (Int64 × xMem) :=
  (xgR M (some this) 7 0).bind fun v1 =>
  (xgR M v1 3 0).bind fun v2 =>
  (xob M v2 0).bind fun u3 =>
  (fA_slotOf M u3 a0).bind fun q4 =>
  (xgR q4.2 (some this) 7 0).bind fun v5 =>
  (xgR q4.2 v5 3 0).bind fun v6 =>
  (xob q4.2 v6 0).bind fun u7 =>
  (fA_stateOf q4.2 u7 q4.1).bind fun q8 =>
  if q8.1 = (1 : Int32) then (
    fX_word_34  q8.2 (some this) q4.1 )
  else
  if q8.1 = (2 : Int32) then (
    fX_word_34  q8.2 (some this) q4.1 )
  else
  some ((-9223372036854775808 : Int64), q8.2)
set_option maxRecDepth 20000 in
theorem TfX_word {M M' : xMem} {r : Int64} (this : xId) (a0 : Int32) (h : fX_word M this a0 = some (r, M')) : xrun none 2 61 0 ([some (.inr (.inr (some this))), some (.inl a0), none, none]) ([]) M (some (.inr (.inl r)), M') := by
  unfold fX_word at h
  refine xr_aload_n (pc' := 1) rfl rfl rfl ?_
  obtain ⟨v1, hv1, h⟩ := xbind h
  refine xr_getR (pc' := 4) rfl (by decide) hv1 rfl ?_
  obtain ⟨v2, hv2, h⟩ := xbind h
  refine xr_getR (pc' := 7) rfl (by decide) hv2 rfl ?_
  refine xr_iload_n (pc' := 8) rfl rfl rfl ?_
  obtain ⟨u3, hu3, h⟩ := xbind h
  obtain ⟨q4, hq4, h⟩ := xbind h
  refine xr_callV (pc' := 11) (C := 0) (As := [_]) (rest := _) rfl hu3 mC_43 mL_43 rfl (Nat.le_of_ble_eq_true rfl) rfl (Nat.le_of_ble_eq_true rfl) (TfA_slotOf _ _ hq4) rfl ?_
  refine xr_istore_n (pc' := 12) rfl rfl rfl ?_
  refine xr_aload_n (pc' := 13) rfl rfl rfl ?_
  obtain ⟨v5, hv5, h⟩ := xbind h
  refine xr_getR (pc' := 16) rfl (by decide) hv5 rfl ?_
  obtain ⟨v6, hv6, h⟩ := xbind h
  refine xr_getR (pc' := 19) rfl (by decide) hv6 rfl ?_
  refine xr_iload_n (pc' := 20) rfl rfl rfl ?_
  obtain ⟨u7, hu7, h⟩ := xbind h
  obtain ⟨q8, hq8, h⟩ := xbind h
  refine xr_callV (pc' := 23) (C := 0) (As := [_]) (rest := _) rfl hu7 mC_46 mL_46 rfl (Nat.le_of_ble_eq_true rfl) rfl (Nat.le_of_ble_eq_true rfl) (TfA_stateOf _ _ hq8) rfl ?_
  refine xr_istore_n (pc' := 24) rfl rfl rfl ?_
  refine xr_iload_n (pc' := 25) rfl rfl rfl ?_
  refine xr_iconst (v := 1) (pc' := 26) rfl (by decide) rfl ?_
  rcases xite h with ⟨hc, h⟩ | ⟨hc, h⟩
  · refine xr_icmp_eq_t (t := 34) rfl hc ?_
    exact TfX_word_34   q8.2 _ _  _ _ h
  · refine xr_icmp_eq_f (pc' := 29) rfl hc rfl ?_
    refine xr_iload_n (pc' := 30) rfl rfl rfl ?_
    refine xr_iconst (v := 2) (pc' := 31) rfl (by decide) rfl ?_
    rcases xite h with ⟨hc, h⟩ | ⟨hc, h⟩
    · refine xr_icmp_ne_f (pc' := 34) rfl hc rfl ?_
      exact TfX_word_34   q8.2 _ _  _ _ h
    · refine xr_icmp_ne_t (t := 49) rfl hc ?_
      refine xr_ldc2_w (v := -9223372036854775808) (pc' := 52) rfl (by decide) rfl ?_
      obtain ⟨rfl, rfl⟩ := xsome2 h
      exact xr_lret rfl mR_61
