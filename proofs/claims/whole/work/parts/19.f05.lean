/-! shallow functions of the methods (by program, out of the bytecode), and that a run is what they say -/
-- 125: MagazineDepot$Run.close(I)I
def fR_close_32  (M : xMem) (l1 : Int32)  : Option (Int32 × xMem) :=
  some ((l1 + (1 : Int32)), M)
set_option maxRecDepth 20000 in
theorem TfR_close_32 {M' : xMem} {r : Int32}  (M : xMem) (l1 : Int32)  (o0 : Option xId) (o2 : Int32) (h : fR_close_32  M l1  = some (r, M')) : xrun none 1 125 32 ([some (.inr (.inr o0)), some (.inl l1), some (.inl o2)]) ([]) M (some (.inl r), M') := by
  unfold fR_close_32 at h
  refine xr_iload_n (pc' := 33) rfl rfl rfl ?_
  refine xr_iconst (v := 1) (pc' := 34) rfl (by decide) rfl ?_
  refine xr_iadd (pc' := 35) rfl rfl ?_
  obtain ⟨rfl, rfl⟩ := xsome2 h
  exact xr_iret rfl mR_125
def fR_close (M : xMem) (this : xId) (a0 : Int32) : Option (Int32 × xMem) :=
  (xgR M (some this) 5 3).bind fun v1 =>
  (xgR M v1 6 5).bind fun v2 =>
  (xaI M v2 a0).bind fun v3 =>
  if v3 < 0 then (
    fR_close_32  M a0 )
  else
  (xgR M (some this) 5 2).bind fun v4 =>
  (xal M v4).bind fun v5 =>
  if v5 ≤ v3 then (
    fR_close_32  M a0 )
  else
  (xgR M (some this) 5 2).bind fun v6 =>
  (xaI M v6 v3).bind fun v7 =>
  if 0 < v7 then (
    (xob M (some this) 5).bind fun u8 =>
    (fR_step M u8 ).bind fun q9 =>
    if q9.1 = 0 then (
      some (a0, q9.2))
    else
    (xgR q9.2 (some this) 5 2).bind fun v10 =>
    (xaI q9.2 v10 v3).bind fun v11 =>
    (xuI q9.2 v10 v3 (v11 - (1 : Int32))).bind fun M12 =>
    some ((v3 + (1 : Int32)), M12))
  else
  fR_close_32  M a0 
set_option maxRecDepth 20000 in
theorem TfR_close {M M' : xMem} {r : Int32} (this : xId) (a0 : Int32) (h : fR_close M this a0 = some (r, M')) : xrun none 1 125 0 ([some (.inr (.inr (some this))), some (.inl a0), none]) ([]) M (some (.inl r), M') := by
  unfold fR_close at h
  refine xr_aload_n (pc' := 1) rfl rfl rfl ?_
  obtain ⟨v1, hv1, h⟩ := xbind h
  refine xr_getR (pc' := 4) rfl (by decide) hv1 rfl ?_
  obtain ⟨v2, hv2, h⟩ := xbind h
  refine xr_getR (pc' := 7) rfl (by decide) hv2 rfl ?_
  refine xr_iload_n (pc' := 8) rfl rfl rfl ?_
  obtain ⟨v3, hv3, h⟩ := xbind h
  refine xr_aI (pc' := 9) rfl hv3 rfl ?_
  refine xr_istore_n (pc' := 10) rfl rfl rfl ?_
  refine xr_iload_n (pc' := 11) rfl rfl rfl ?_
  rcases xite h with ⟨hc, h⟩ | ⟨hc, h⟩
  · refine xr_if_lt_t (t := 32) rfl hc ?_
    exact TfR_close_32   M _  _ _ h
  · refine xr_if_lt_f (pc' := 14) rfl hc rfl ?_
    refine xr_iload_n (pc' := 15) rfl rfl rfl ?_
    refine xr_aload_n (pc' := 16) rfl rfl rfl ?_
    obtain ⟨v4, hv4, h⟩ := xbind h
    refine xr_getR (pc' := 19) rfl (by decide) hv4 rfl ?_
    obtain ⟨v5, hv5, h⟩ := xbind h
    refine xr_alen (pc' := 20) rfl hv5 rfl ?_
    rcases xite h with ⟨hc, h⟩ | ⟨hc, h⟩
    · refine xr_icmp_ge_t (t := 32) rfl hc ?_
      exact TfR_close_32   M _  _ _ h
    · refine xr_icmp_ge_f (pc' := 23) rfl hc rfl ?_
      refine xr_aload_n (pc' := 24) rfl rfl rfl ?_
      obtain ⟨v6, hv6, h⟩ := xbind h
      refine xr_getR (pc' := 27) rfl (by decide) hv6 rfl ?_
      refine xr_iload_n (pc' := 28) rfl rfl rfl ?_
      obtain ⟨v7, hv7, h⟩ := xbind h
      refine xr_aI (pc' := 29) rfl hv7 rfl ?_
      rcases xite h with ⟨hc, h⟩ | ⟨hc, h⟩
      · refine xr_if_gt_t (t := 36) rfl hc ?_
        refine xr_aload_n (pc' := 37) rfl rfl rfl ?_
        obtain ⟨u8, hu8, h⟩ := xbind h
        obtain ⟨q9, hq9, h⟩ := xbind h
        refine xr_callV (pc' := 40) (C := 5) (As := []) (rest := _) rfl hu8 mC_126 mL_126 rfl (Nat.le_of_ble_eq_true rfl) rfl (Nat.le_of_ble_eq_true rfl) (TfR_step _  hq9) rfl ?_
        rcases xite h with ⟨hc, h⟩ | ⟨hc, h⟩
        · refine xr_if_ne_f (pc' := 43) rfl hc rfl ?_
          refine xr_iload_n (pc' := 44) rfl rfl rfl ?_
          obtain ⟨rfl, rfl⟩ := xsome2 h
          exact xr_iret rfl mR_125
        · refine xr_if_ne_t (t := 45) rfl hc ?_
          refine xr_aload_n (pc' := 46) rfl rfl rfl ?_
          obtain ⟨v10, hv10, h⟩ := xbind h
          refine xr_getR (pc' := 49) rfl (by decide) hv10 rfl ?_
          refine xr_iload_n (pc' := 50) rfl rfl rfl ?_
          refine xr_dup2_ia (pc' := 51) rfl rfl ?_
          obtain ⟨v11, hv11, h⟩ := xbind h
          refine xr_aI (pc' := 52) rfl hv11 rfl ?_
          refine xr_iconst (v := 1) (pc' := 53) rfl (by decide) rfl ?_
          refine xr_isub (pc' := 54) rfl rfl ?_
          obtain ⟨M12, hM12, h⟩ := xbind h
          refine xr_uI (pc' := 55) rfl hM12 rfl ?_
          refine xr_iload_n (pc' := 56) rfl rfl rfl ?_
          refine xr_iconst (v := 1) (pc' := 57) rfl (by decide) rfl ?_
          refine xr_iadd (pc' := 58) rfl rfl ?_
          obtain ⟨rfl, rfl⟩ := xsome2 h
          exact xr_iret rfl mR_125
      · refine xr_if_gt_f (pc' := 32) rfl hc rfl ?_
        exact TfR_close_32   M _  _ _ h
-- 127: MagazineDepot$Run.takeNamed(I)V
def fR_takeNamed_42  (M : xMem) (l0 : Option xId)  : Option xMem :=
  (xpI M l0 5 1 (-1 : Int32)).bind fun M28 =>
  some M28
set_option maxRecDepth 20000 in
theorem TfR_takeNamed_42 {M' : xMem}  (M : xMem) (l0 : Option xId)  (o1 : Int32) (o2 : Int32) (o3 : Option xVal) (h : fR_takeNamed_42  M l0  = some M') : xrun none 4 127 42 ([some (.inr (.inr l0)), some (.inl o1), some (.inl o2), o3]) ([]) M (none, M') := by
  unfold fR_takeNamed_42 at h
  refine xr_aload_n (pc' := 43) rfl rfl rfl ?_
  refine xr_iconst (v := -1) (pc' := 44) rfl (by decide) rfl ?_
  obtain ⟨M28, hM28, h⟩ := xbind h
  refine xr_putI (pc' := 47) rfl (by decide) hM28 rfl ?_
  obtain rfl := xsome1 h
  exact xr_ret rfl mR_127
def fR_takeNamed (M : xMem) (this : xId) (a0 : Int32) : Option xMem :=
  (xgR M (some this) 5 3).bind fun v1 =>
  (xgR M v1 6 1).bind fun v2 =>
  (xaI M v2 a0).bind fun v3 =>
  (xgR M (some this) 5 4).bind fun v4 =>
  (xgR M (some this) 5 3).bind fun v5 =>
  (xgR M v5 6 2).bind fun v6 =>
  (xaI M v6 a0).bind fun v7 =>
  (xob M v4 3).bind fun u8 =>
  (fD_cacheAt M u8 v7).bind fun q9 =>
  if q9.1 = none then (
    fR_takeNamed_42  q9.2 (some this) )
  else
  if v3 < 0 then (
    fR_takeNamed_42  q9.2 (some this) )
  else
  (xgR q9.2 (some this) 5 5).bind fun v10 =>
  (xal q9.2 v10).bind fun v11 =>
  if v3 < v11 then (
    (xgR q9.2 (some this) 5 4).bind fun v12 =>
    (xgR q9.2 (some this) 5 3).bind fun v13 =>
    (xgR q9.2 v13 6 2).bind fun v14 =>
    (xaI q9.2 v14 a0).bind fun v15 =>
    (xgR q9.2 (some this) 5 3).bind fun v16 =>
    (xgR q9.2 v16 6 3).bind fun v17 =>
    (xaI q9.2 v17 a0).bind fun v18 =>
    (xob q9.2 v12 3).bind fun u19 =>
    (fD_takeBy q9.2 u19 v15 v18).bind fun q20 =>
    if q20.1 = (-1 : Int32) then (
      (xpI q20.2 (some this) 5 1 (-3 : Int32)).bind fun M21 =>
      some M21)
    else
    (xgR q20.2 (some this) 5 5).bind fun v22 =>
    (xgR q20.2 (some this) 5 4).bind fun v23 =>
    (xgR q20.2 v23 3 0).bind fun v24 =>
    (xob q20.2 v24 0).bind fun u25 =>
    (fA_addressOf q20.2 u25 q20.1).bind fun q26 =>
    (xuI q26.2 v22 v3 q26.1).bind fun M27 =>
    some M27)
  else
  fR_takeNamed_42  q9.2 (some this) 
set_option maxRecDepth 20000 in
theorem TfR_takeNamed {M M' : xMem} (this : xId) (a0 : Int32) (h : fR_takeNamed M this a0 = some M') : xrun none 4 127 0 ([some (.inr (.inr (some this))), some (.inl a0), none, none]) ([]) M (none, M') := by
  unfold fR_takeNamed at h
  refine xr_aload_n (pc' := 1) rfl rfl rfl ?_
  obtain ⟨v1, hv1, h⟩ := xbind h
  refine xr_getR (pc' := 4) rfl (by decide) hv1 rfl ?_
  obtain ⟨v2, hv2, h⟩ := xbind h
  refine xr_getR (pc' := 7) rfl (by decide) hv2 rfl ?_
  refine xr_iload_n (pc' := 8) rfl rfl rfl ?_
  obtain ⟨v3, hv3, h⟩ := xbind h
  refine xr_aI (pc' := 9) rfl hv3 rfl ?_
  refine xr_istore_n (pc' := 10) rfl rfl rfl ?_
  refine xr_aload_n (pc' := 11) rfl rfl rfl ?_
  obtain ⟨v4, hv4, h⟩ := xbind h
  refine xr_getR (pc' := 14) rfl (by decide) hv4 rfl ?_
  refine xr_aload_n (pc' := 15) rfl rfl rfl ?_
  obtain ⟨v5, hv5, h⟩ := xbind h
  refine xr_getR (pc' := 18) rfl (by decide) hv5 rfl ?_
  obtain ⟨v6, hv6, h⟩ := xbind h
  refine xr_getR (pc' := 21) rfl (by decide) hv6 rfl ?_
  refine xr_iload_n (pc' := 22) rfl rfl rfl ?_
  obtain ⟨v7, hv7, h⟩ := xbind h
  refine xr_aI (pc' := 23) rfl hv7 rfl ?_
  obtain ⟨u8, hu8, h⟩ := xbind h
  obtain ⟨q9, hq9, h⟩ := xbind h
  refine xr_callV (pc' := 26) (C := 3) (As := [_]) (rest := _) rfl hu8 mC_18 mL_18 rfl (Nat.le_of_ble_eq_true rfl) rfl (Nat.le_of_ble_eq_true rfl) (TfD_cacheAt _ _ hq9) rfl ?_
  rcases xite h with ⟨hc, h⟩ | ⟨hc, h⟩
  · refine xr_ifnull_n (t := 42) rfl hc ?_
    exact TfR_takeNamed_42   q9.2 _  _ _ _ h
  · refine xr_ifnull_s (pc' := 29) rfl hc rfl ?_
    refine xr_iload_n (pc' := 30) rfl rfl rfl ?_
    rcases xite h with ⟨hc, h⟩ | ⟨hc, h⟩
    · refine xr_if_lt_t (t := 42) rfl hc ?_
      exact TfR_takeNamed_42   q9.2 _  _ _ _ h
    · refine xr_if_lt_f (pc' := 33) rfl hc rfl ?_
      refine xr_iload_n (pc' := 34) rfl rfl rfl ?_
      refine xr_aload_n (pc' := 35) rfl rfl rfl ?_
      obtain ⟨v10, hv10, h⟩ := xbind h
      refine xr_getR (pc' := 38) rfl (by decide) hv10 rfl ?_
      obtain ⟨v11, hv11, h⟩ := xbind h
      refine xr_alen (pc' := 39) rfl hv11 rfl ?_
      rcases xite h with ⟨hc, h⟩ | ⟨hc, h⟩
      · refine xr_icmp_lt_t (t := 48) rfl hc ?_
        refine xr_aload_n (pc' := 49) rfl rfl rfl ?_
        obtain ⟨v12, hv12, h⟩ := xbind h
        refine xr_getR (pc' := 52) rfl (by decide) hv12 rfl ?_
        refine xr_aload_n (pc' := 53) rfl rfl rfl ?_
        obtain ⟨v13, hv13, h⟩ := xbind h
        refine xr_getR (pc' := 56) rfl (by decide) hv13 rfl ?_
        obtain ⟨v14, hv14, h⟩ := xbind h
        refine xr_getR (pc' := 59) rfl (by decide) hv14 rfl ?_
        refine xr_iload_n (pc' := 60) rfl rfl rfl ?_
        obtain ⟨v15, hv15, h⟩ := xbind h
        refine xr_aI (pc' := 61) rfl hv15 rfl ?_
        refine xr_aload_n (pc' := 62) rfl rfl rfl ?_
        obtain ⟨v16, hv16, h⟩ := xbind h
        refine xr_getR (pc' := 65) rfl (by decide) hv16 rfl ?_
        obtain ⟨v17, hv17, h⟩ := xbind h
        refine xr_getR (pc' := 68) rfl (by decide) hv17 rfl ?_
        refine xr_iload_n (pc' := 69) rfl rfl rfl ?_
        obtain ⟨v18, hv18, h⟩ := xbind h
        refine xr_aI (pc' := 70) rfl hv18 rfl ?_
        obtain ⟨u19, hu19, h⟩ := xbind h
        obtain ⟨q20, hq20, h⟩ := xbind h
        refine xr_callV (pc' := 73) (C := 3) (As := [_, _]) (rest := _) rfl hu19 mC_21 mL_21 rfl (Nat.le_of_ble_eq_true rfl) rfl (Nat.le_of_ble_eq_true rfl) (TfD_takeBy _ _ _ hq20) rfl ?_
        refine xr_istore_n (pc' := 74) rfl rfl rfl ?_
        refine xr_iload_n (pc' := 75) rfl rfl rfl ?_
        refine xr_iconst (v := -1) (pc' := 76) rfl (by decide) rfl ?_
        rcases xite h with ⟨hc, h⟩ | ⟨hc, h⟩
        · refine xr_icmp_ne_f (pc' := 79) rfl hc rfl ?_
          refine xr_aload_n (pc' := 80) rfl rfl rfl ?_
          refine xr_bipush (v := -3) (pc' := 82) rfl (by decide) rfl ?_
          obtain ⟨M21, hM21, h⟩ := xbind h
          refine xr_putI (pc' := 85) rfl (by decide) hM21 rfl ?_
          obtain rfl := xsome1 h
          exact xr_ret rfl mR_127
        · refine xr_icmp_ne_t (t := 86) rfl hc ?_
          refine xr_aload_n (pc' := 87) rfl rfl rfl ?_
          obtain ⟨v22, hv22, h⟩ := xbind h
          refine xr_getR (pc' := 90) rfl (by decide) hv22 rfl ?_
          refine xr_iload_n (pc' := 91) rfl rfl rfl ?_
          refine xr_aload_n (pc' := 92) rfl rfl rfl ?_
          obtain ⟨v23, hv23, h⟩ := xbind h
          refine xr_getR (pc' := 95) rfl (by decide) hv23 rfl ?_
          obtain ⟨v24, hv24, h⟩ := xbind h
          refine xr_getR (pc' := 98) rfl (by decide) hv24 rfl ?_
          refine xr_iload_n (pc' := 99) rfl rfl rfl ?_
          obtain ⟨u25, hu25, h⟩ := xbind h
          obtain ⟨q26, hq26, h⟩ := xbind h
          refine xr_callV (pc' := 102) (C := 0) (As := [_]) (rest := _) rfl hu25 mC_38 mL_38 rfl (Nat.le_of_ble_eq_true rfl) rfl (Nat.le_of_ble_eq_true rfl) (TfA_addressOf _ _ hq26) rfl ?_
          obtain ⟨M27, hM27, h⟩ := xbind h
          refine xr_uI (pc' := 103) rfl hM27 rfl ?_
          obtain rfl := xsome1 h
          exact xr_ret rfl mR_127
      · refine xr_icmp_lt_f (pc' := 42) rfl hc rfl ?_
        exact TfR_takeNamed_42   q9.2 _  _ _ _ h
-- 129: MagazineDepot$Run.liveSlotOf(I)I
def fR_liveSlotOf_23  (M : xMem) (l0 : Option xId)  : Option (Int32 × xMem) :=
  (xpI M l0 5 1 (-11 : Int32)).bind fun M16 =>
  some ((-1 : Int32), M16)
set_option maxRecDepth 20000 in
theorem TfR_liveSlotOf_23 {M' : xMem} {r : Int32}  (M : xMem) (l0 : Option xId)  (o1 : Int32) (o2 : Option xVal) (h : fR_liveSlotOf_23  M l0  = some (r, M')) : xrun none 2 129 23 ([some (.inr (.inr l0)), some (.inl o1), o2]) ([]) M (some (.inl r), M') := by
  unfold fR_liveSlotOf_23 at h
  refine xr_aload_n (pc' := 24) rfl rfl rfl ?_
  refine xr_bipush (v := -11) (pc' := 26) rfl (by decide) rfl ?_
  obtain ⟨M16, hM16, h⟩ := xbind h
  refine xr_putI (pc' := 29) rfl (by decide) hM16 rfl ?_
  refine xr_iconst (v := -1) (pc' := 30) rfl (by decide) rfl ?_
  obtain ⟨rfl, rfl⟩ := xsome2 h
  exact xr_iret rfl mR_129
def fR_liveSlotOf (M : xMem) (this : xId) (a0 : Int32) : Option (Int32 × xMem) :=
  if a0 < 0 then (
    fR_liveSlotOf_23  M (some this) )
  else
  (xgR M (some this) 5 5).bind fun v1 =>
  (xal M v1).bind fun v2 =>
  if v2 ≤ a0 then (
    fR_liveSlotOf_23  M (some this) )
  else
  (xgR M (some this) 5 5).bind fun v3 =>
  (xaI M v3 a0).bind fun v4 =>
  if v4 = (-1 : Int32) then (
    fR_liveSlotOf_23  M (some this) )
  else
  (xgR M (some this) 5 4).bind fun v5 =>
  (xgR M v5 3 0).bind fun v6 =>
  (xgR M (some this) 5 5).bind fun v7 =>
  (xaI M v7 a0).bind fun v8 =>
  (xob M v6 0).bind fun u9 =>
  (fA_slotOf M u9 v8).bind fun q10 =>
  (xgR q10.2 (some this) 5 4).bind fun v11 =>
  (xgR q10.2 v11 3 0).bind fun v12 =>
  (xob q10.2 v12 0).bind fun u13 =>
  (fA_isLive q10.2 u13 q10.1).bind fun q14 =>
  if q14.1 = 0 then (
    (xpI q14.2 (some this) 5 1 (-1 : Int32)).bind fun M15 =>
    some ((-1 : Int32), M15))
  else
  some (q10.1, q14.2)
set_option maxRecDepth 20000 in
theorem TfR_liveSlotOf {M M' : xMem} {r : Int32} (this : xId) (a0 : Int32) (h : fR_liveSlotOf M this a0 = some (r, M')) : xrun none 2 129 0 ([some (.inr (.inr (some this))), some (.inl a0), none]) ([]) M (some (.inl r), M') := by
  unfold fR_liveSlotOf at h
  refine xr_iload_n (pc' := 1) rfl rfl rfl ?_
  rcases xite h with ⟨hc, h⟩ | ⟨hc, h⟩
  · refine xr_if_lt_t (t := 23) rfl hc ?_
    exact TfR_liveSlotOf_23   M _  _ _ h
  · refine xr_if_lt_f (pc' := 4) rfl hc rfl ?_
    refine xr_iload_n (pc' := 5) rfl rfl rfl ?_
    refine xr_aload_n (pc' := 6) rfl rfl rfl ?_
    obtain ⟨v1, hv1, h⟩ := xbind h
    refine xr_getR (pc' := 9) rfl (by decide) hv1 rfl ?_
    obtain ⟨v2, hv2, h⟩ := xbind h
    refine xr_alen (pc' := 10) rfl hv2 rfl ?_
    rcases xite h with ⟨hc, h⟩ | ⟨hc, h⟩
    · refine xr_icmp_ge_t (t := 23) rfl hc ?_
      exact TfR_liveSlotOf_23   M _  _ _ h
    · refine xr_icmp_ge_f (pc' := 13) rfl hc rfl ?_
      refine xr_aload_n (pc' := 14) rfl rfl rfl ?_
      obtain ⟨v3, hv3, h⟩ := xbind h
      refine xr_getR (pc' := 17) rfl (by decide) hv3 rfl ?_
      refine xr_iload_n (pc' := 18) rfl rfl rfl ?_
      obtain ⟨v4, hv4, h⟩ := xbind h
      refine xr_aI (pc' := 19) rfl hv4 rfl ?_
      refine xr_iconst (v := -1) (pc' := 20) rfl (by decide) rfl ?_
      rcases xite h with ⟨hc, h⟩ | ⟨hc, h⟩
      · refine xr_icmp_ne_f (pc' := 23) rfl hc rfl ?_
        exact TfR_liveSlotOf_23   M _  _ _ h
      · refine xr_icmp_ne_t (t := 31) rfl hc ?_
        refine xr_aload_n (pc' := 32) rfl rfl rfl ?_
        obtain ⟨v5, hv5, h⟩ := xbind h
        refine xr_getR (pc' := 35) rfl (by decide) hv5 rfl ?_
        obtain ⟨v6, hv6, h⟩ := xbind h
        refine xr_getR (pc' := 38) rfl (by decide) hv6 rfl ?_
        refine xr_aload_n (pc' := 39) rfl rfl rfl ?_
        obtain ⟨v7, hv7, h⟩ := xbind h
        refine xr_getR (pc' := 42) rfl (by decide) hv7 rfl ?_
        refine xr_iload_n (pc' := 43) rfl rfl rfl ?_
        obtain ⟨v8, hv8, h⟩ := xbind h
        refine xr_aI (pc' := 44) rfl hv8 rfl ?_
        obtain ⟨u9, hu9, h⟩ := xbind h
        obtain ⟨q10, hq10, h⟩ := xbind h
        refine xr_callV (pc' := 47) (C := 0) (As := [_]) (rest := _) rfl hu9 mC_43 mL_43 rfl (Nat.le_of_ble_eq_true rfl) rfl (Nat.le_of_ble_eq_true rfl) (TfA_slotOf _ _ hq10) rfl ?_
        refine xr_istore_n (pc' := 48) rfl rfl rfl ?_
        refine xr_aload_n (pc' := 49) rfl rfl rfl ?_
        obtain ⟨v11, hv11, h⟩ := xbind h
        refine xr_getR (pc' := 52) rfl (by decide) hv11 rfl ?_
        obtain ⟨v12, hv12, h⟩ := xbind h
        refine xr_getR (pc' := 55) rfl (by decide) hv12 rfl ?_
        refine xr_iload_n (pc' := 56) rfl rfl rfl ?_
        obtain ⟨u13, hu13, h⟩ := xbind h
        obtain ⟨q14, hq14, h⟩ := xbind h
        refine xr_callV (pc' := 59) (C := 0) (As := [_]) (rest := _) rfl hu13 mC_45 mL_45 rfl (Nat.le_of_ble_eq_true rfl) rfl (Nat.le_of_ble_eq_true rfl) (TfA_isLive _ _ hq14) rfl ?_
        rcases xite h with ⟨hc, h⟩ | ⟨hc, h⟩
        · refine xr_if_ne_f (pc' := 62) rfl hc rfl ?_
          refine xr_aload_n (pc' := 63) rfl rfl rfl ?_
          refine xr_iconst (v := -1) (pc' := 64) rfl (by decide) rfl ?_
          obtain ⟨M15, hM15, h⟩ := xbind h
          refine xr_putI (pc' := 67) rfl (by decide) hM15 rfl ?_
          refine xr_iconst (v := -1) (pc' := 68) rfl (by decide) rfl ?_
          obtain ⟨rfl, rfl⟩ := xsome2 h
          exact xr_iret rfl mR_129
        · refine xr_if_ne_t (t := 69) rfl hc ?_
          refine xr_iload_n (pc' := 70) rfl rfl rfl ?_
          obtain ⟨rfl, rfl⟩ := xsome2 h
          exact xr_iret rfl mR_129
-- 128: MagazineDepot$Run.giveNamed(I)V
def fR_giveNamed (M : xMem) (this : xId) (a0 : Int32) : Option xMem :=
  (xgR M (some this) 5 3).bind fun v1 =>
  (xgR M v1 6 1).bind fun v2 =>
  (xaI M v2 a0).bind fun v3 =>
  (xob M (some this) 5).bind fun u4 =>
  (fR_liveSlotOf M u4 v3).bind fun q5 =>
  if q5.1 = (-1 : Int32) then (
    some q5.2)
  else
  (xgR q5.2 (some this) 5 4).bind fun v6 =>
  (xob q5.2 v6 3).bind fun u7 =>
  (fD_isFit q5.2 u7 q5.1).bind fun q8 =>
  if q8.1 = 0 then (
    (xpI q8.2 (some this) 5 1 (-5 : Int32)).bind fun M9 =>
    some M9)
  else
  (xgR q8.2 (some this) 5 4).bind fun v10 =>
  (xgR q8.2 (some this) 5 3).bind fun v11 =>
  (xgR q8.2 v11 6 3).bind fun v12 =>
  (xaI q8.2 v12 a0).bind fun v13 =>
  (xob q8.2 v10 3).bind fun u14 =>
  (fD_giveBy q8.2 u14 q5.1 v13).bind fun q15 =>
  (xgR q15 (some this) 5 5).bind fun v16 =>
  (xuI q15 v16 v3 (-1 : Int32)).bind fun M17 =>
  some M17
set_option maxRecDepth 20000 in
theorem TfR_giveNamed {M M' : xMem} (this : xId) (a0 : Int32) (h : fR_giveNamed M this a0 = some M') : xrun none 4 128 0 ([some (.inr (.inr (some this))), some (.inl a0), none, none]) ([]) M (none, M') := by
  unfold fR_giveNamed at h
  refine xr_aload_n (pc' := 1) rfl rfl rfl ?_
  obtain ⟨v1, hv1, h⟩ := xbind h
  refine xr_getR (pc' := 4) rfl (by decide) hv1 rfl ?_
  obtain ⟨v2, hv2, h⟩ := xbind h
  refine xr_getR (pc' := 7) rfl (by decide) hv2 rfl ?_
  refine xr_iload_n (pc' := 8) rfl rfl rfl ?_
  obtain ⟨v3, hv3, h⟩ := xbind h
  refine xr_aI (pc' := 9) rfl hv3 rfl ?_
  refine xr_istore_n (pc' := 10) rfl rfl rfl ?_
  refine xr_aload_n (pc' := 11) rfl rfl rfl ?_
  refine xr_iload_n (pc' := 12) rfl rfl rfl ?_
  obtain ⟨u4, hu4, h⟩ := xbind h
  obtain ⟨q5, hq5, h⟩ := xbind h
  refine xr_callV (pc' := 15) (C := 5) (As := [_]) (rest := _) rfl hu4 mC_129 mL_129 rfl (Nat.le_of_ble_eq_true rfl) rfl (Nat.le_of_ble_eq_true rfl) (TfR_liveSlotOf _ _ hq5) rfl ?_
  refine xr_istore_n (pc' := 16) rfl rfl rfl ?_
  refine xr_iload_n (pc' := 17) rfl rfl rfl ?_
  refine xr_iconst (v := -1) (pc' := 18) rfl (by decide) rfl ?_
  rcases xite h with ⟨hc, h⟩ | ⟨hc, h⟩
  · refine xr_icmp_ne_f (pc' := 21) rfl hc rfl ?_
    obtain rfl := xsome1 h
    exact xr_ret rfl mR_128
  · refine xr_icmp_ne_t (t := 22) rfl hc ?_
    refine xr_aload_n (pc' := 23) rfl rfl rfl ?_
    obtain ⟨v6, hv6, h⟩ := xbind h
    refine xr_getR (pc' := 26) rfl (by decide) hv6 rfl ?_
    refine xr_iload_n (pc' := 27) rfl rfl rfl ?_
    obtain ⟨u7, hu7, h⟩ := xbind h
    obtain ⟨q8, hq8, h⟩ := xbind h
    refine xr_callV (pc' := 30) (C := 3) (As := [_]) (rest := _) rfl hu7 mC_47 mL_47 rfl (Nat.le_of_ble_eq_true rfl) rfl (Nat.le_of_ble_eq_true rfl) (TfD_isFit _ _ hq8) rfl ?_
    rcases xite h with ⟨hc, h⟩ | ⟨hc, h⟩
    · refine xr_if_ne_f (pc' := 33) rfl hc rfl ?_
      refine xr_aload_n (pc' := 34) rfl rfl rfl ?_
      refine xr_bipush (v := -5) (pc' := 36) rfl (by decide) rfl ?_
      obtain ⟨M9, hM9, h⟩ := xbind h
      refine xr_putI (pc' := 39) rfl (by decide) hM9 rfl ?_
      obtain rfl := xsome1 h
      exact xr_ret rfl mR_128
    · refine xr_if_ne_t (t := 40) rfl hc ?_
      refine xr_aload_n (pc' := 41) rfl rfl rfl ?_
      obtain ⟨v10, hv10, h⟩ := xbind h
      refine xr_getR (pc' := 44) rfl (by decide) hv10 rfl ?_
      refine xr_iload_n (pc' := 45) rfl rfl rfl ?_
      refine xr_aload_n (pc' := 46) rfl rfl rfl ?_
      obtain ⟨v11, hv11, h⟩ := xbind h
      refine xr_getR (pc' := 49) rfl (by decide) hv11 rfl ?_
      obtain ⟨v12, hv12, h⟩ := xbind h
      refine xr_getR (pc' := 52) rfl (by decide) hv12 rfl ?_
      refine xr_iload_n (pc' := 53) rfl rfl rfl ?_
      obtain ⟨v13, hv13, h⟩ := xbind h
      refine xr_aI (pc' := 54) rfl hv13 rfl ?_
      obtain ⟨u14, hu14, h⟩ := xbind h
      obtain ⟨q15, hq15, h⟩ := xbind h
      refine xr_callV (pc' := 57) (C := 3) (As := [_, _]) (rest := _) rfl hu14 mC_51 mL_51 rfl (Nat.le_of_ble_eq_true rfl) rfl (Nat.le_of_ble_eq_true rfl) (TfD_giveBy _ _ _ hq15) rfl ?_
      refine xr_aload_n (pc' := 58) rfl rfl rfl ?_
      obtain ⟨v16, hv16, h⟩ := xbind h
      refine xr_getR (pc' := 61) rfl (by decide) hv16 rfl ?_
      refine xr_iload_n (pc' := 62) rfl rfl rfl ?_
      refine xr_iconst (v := -1) (pc' := 63) rfl (by decide) rfl ?_
      obtain ⟨M17, hM17, h⟩ := xbind h
      refine xr_uI (pc' := 64) rfl hM17 rfl ?_
      obtain rfl := xsome1 h
      exact xr_ret rfl mR_128
-- 130: MagazineDepot$Run.setNamed(I)V
def fR_setNamed (M : xMem) (this : xId) (a0 : Int32) : Option xMem :=
  (xgR M (some this) 5 3).bind fun v1 =>
  (xgR M v1 6 1).bind fun v2 =>
  (xaI M v2 a0).bind fun v3 =>
  (xob M (some this) 5).bind fun u4 =>
  (fR_liveSlotOf M u4 v3).bind fun q5 =>
  if q5.1 = (-1 : Int32) then (
    some q5.2)
  else
  (xgR q5.2 (some this) 5 4).bind fun v6 =>
  (xgR q5.2 v6 3 0).bind fun v7 =>
  (xgR q5.2 (some this) 5 3).bind fun v8 =>
  (xgR q5.2 v8 6 4).bind fun v9 =>
  (xaI q5.2 v9 a0).bind fun v10 =>
  (xob q5.2 v7 0).bind fun u11 =>
  (fA_setWord q5.2 u11 q5.1 v10).bind fun q12 =>
  some q12
set_option maxRecDepth 20000 in
theorem TfR_setNamed {M M' : xMem} (this : xId) (a0 : Int32) (h : fR_setNamed M this a0 = some M') : xrun none 3 130 0 ([some (.inr (.inr (some this))), some (.inl a0), none]) ([]) M (none, M') := by
  unfold fR_setNamed at h
  refine xr_aload_n (pc' := 1) rfl rfl rfl ?_
  refine xr_aload_n (pc' := 2) rfl rfl rfl ?_
  obtain ⟨v1, hv1, h⟩ := xbind h
  refine xr_getR (pc' := 5) rfl (by decide) hv1 rfl ?_
  obtain ⟨v2, hv2, h⟩ := xbind h
  refine xr_getR (pc' := 8) rfl (by decide) hv2 rfl ?_
  refine xr_iload_n (pc' := 9) rfl rfl rfl ?_
  obtain ⟨v3, hv3, h⟩ := xbind h
  refine xr_aI (pc' := 10) rfl hv3 rfl ?_
  obtain ⟨u4, hu4, h⟩ := xbind h
  obtain ⟨q5, hq5, h⟩ := xbind h
  refine xr_callV (pc' := 13) (C := 5) (As := [_]) (rest := _) rfl hu4 mC_129 mL_129 rfl (Nat.le_of_ble_eq_true rfl) rfl (Nat.le_of_ble_eq_true rfl) (TfR_liveSlotOf _ _ hq5) rfl ?_
  refine xr_istore_n (pc' := 14) rfl rfl rfl ?_
  refine xr_iload_n (pc' := 15) rfl rfl rfl ?_
  refine xr_iconst (v := -1) (pc' := 16) rfl (by decide) rfl ?_
  rcases xite h with ⟨hc, h⟩ | ⟨hc, h⟩
  · refine xr_icmp_eq_t (t := 39) rfl hc ?_
    obtain rfl := xsome1 h
    exact xr_ret rfl mR_130
  · refine xr_icmp_eq_f (pc' := 19) rfl hc rfl ?_
    refine xr_aload_n (pc' := 20) rfl rfl rfl ?_
    obtain ⟨v6, hv6, h⟩ := xbind h
    refine xr_getR (pc' := 23) rfl (by decide) hv6 rfl ?_
    obtain ⟨v7, hv7, h⟩ := xbind h
    refine xr_getR (pc' := 26) rfl (by decide) hv7 rfl ?_
    refine xr_iload_n (pc' := 27) rfl rfl rfl ?_
    refine xr_aload_n (pc' := 28) rfl rfl rfl ?_
    obtain ⟨v8, hv8, h⟩ := xbind h
    refine xr_getR (pc' := 31) rfl (by decide) hv8 rfl ?_
    obtain ⟨v9, hv9, h⟩ := xbind h
    refine xr_getR (pc' := 34) rfl (by decide) hv9 rfl ?_
    refine xr_iload_n (pc' := 35) rfl rfl rfl ?_
    obtain ⟨v10, hv10, h⟩ := xbind h
    refine xr_aI (pc' := 36) rfl hv10 rfl ?_
    obtain ⟨u11, hu11, h⟩ := xbind h
    obtain ⟨q12, hq12, h⟩ := xbind h
    refine xr_callV (pc' := 39) (C := 0) (As := [_, _]) (rest := _) rfl hu11 mC_40 mL_40 rfl (Nat.le_of_ble_eq_true rfl) rfl (Nat.le_of_ble_eq_true rfl) (TfA_setWord _ _ _ hq12) rfl ?_
    obtain rfl := xsome1 h
    exact xr_ret rfl mR_130
-- 131: MagazineDepot$Run.ask(I)I
def fR_ask (M : xMem) (this : xId) (a0 : Int32) : Option (Int32 × xMem) :=
  (xgR M (some this) 5 2).bind fun v1 =>
  (xuI M v1 a0 (0 : Int32)).bind fun M2 =>
  (xgR M2 (some this) 5 4).bind fun v3 =>
  (xgR M2 (some this) 5 3).bind fun v4 =>
  (xgR M2 v4 6 2).bind fun v5 =>
  (xaI M2 v5 a0).bind fun v6 =>
  (xob M2 v3 3).bind fun u7 =>
  (fD_cacheAt M2 u7 v6).bind fun q8 =>
  if q8.1 = none then (
    (xpI q8.2 (some this) 5 1 (-1 : Int32)).bind fun M9 =>
    some (a0, M9))
  else
  (xgR q8.2 q8.1 2 16).bind fun v10 =>
  (xgI q8.2 v10 4 1).bind fun v11 =>
  if v11 ≤ 0 then (
    (xgR q8.2 (some this) 5 3).bind fun v12 =>
    (xgR q8.2 v12 6 5).bind fun v13 =>
    (xaI q8.2 v13 a0).bind fun v14 =>
    some ((v14 + (1 : Int32)), q8.2))
  else
  some ((a0 + (1 : Int32)), q8.2)
set_option maxRecDepth 20000 in
theorem TfR_ask {M M' : xMem} {r : Int32} (this : xId) (a0 : Int32) (h : fR_ask M this a0 = some (r, M')) : xrun none 1 131 0 ([some (.inr (.inr (some this))), some (.inl a0), none]) ([]) M (some (.inl r), M') := by
  unfold fR_ask at h
  refine xr_aload_n (pc' := 1) rfl rfl rfl ?_
  obtain ⟨v1, hv1, h⟩ := xbind h
  refine xr_getR (pc' := 4) rfl (by decide) hv1 rfl ?_
  refine xr_iload_n (pc' := 5) rfl rfl rfl ?_
  refine xr_iconst (v := 0) (pc' := 6) rfl (by decide) rfl ?_
  obtain ⟨M2, hM2, h⟩ := xbind h
  refine xr_uI (pc' := 7) rfl hM2 rfl ?_
  refine xr_aload_n (pc' := 8) rfl rfl rfl ?_
  obtain ⟨v3, hv3, h⟩ := xbind h
  refine xr_getR (pc' := 11) rfl (by decide) hv3 rfl ?_
  refine xr_aload_n (pc' := 12) rfl rfl rfl ?_
  obtain ⟨v4, hv4, h⟩ := xbind h
  refine xr_getR (pc' := 15) rfl (by decide) hv4 rfl ?_
  obtain ⟨v5, hv5, h⟩ := xbind h
  refine xr_getR (pc' := 18) rfl (by decide) hv5 rfl ?_
  refine xr_iload_n (pc' := 19) rfl rfl rfl ?_
  obtain ⟨v6, hv6, h⟩ := xbind h
  refine xr_aI (pc' := 20) rfl hv6 rfl ?_
  obtain ⟨u7, hu7, h⟩ := xbind h
  obtain ⟨q8, hq8, h⟩ := xbind h
  refine xr_callV (pc' := 23) (C := 3) (As := [_]) (rest := _) rfl hu7 mC_18 mL_18 rfl (Nat.le_of_ble_eq_true rfl) rfl (Nat.le_of_ble_eq_true rfl) (TfD_cacheAt _ _ hq8) rfl ?_
  refine xr_astore_n (pc' := 24) rfl rfl rfl ?_
  refine xr_aload_n (pc' := 25) rfl rfl rfl ?_
  rcases xite h with ⟨hc, h⟩ | ⟨hc, h⟩
  · refine xr_ifnonnull_n (pc' := 28) rfl hc rfl ?_
    refine xr_aload_n (pc' := 29) rfl rfl rfl ?_
    refine xr_iconst (v := -1) (pc' := 30) rfl (by decide) rfl ?_
    obtain ⟨M9, hM9, h⟩ := xbind h
    refine xr_putI (pc' := 33) rfl (by decide) hM9 rfl ?_
    refine xr_iload_n (pc' := 34) rfl rfl rfl ?_
    obtain ⟨rfl, rfl⟩ := xsome2 h
    exact xr_iret rfl mR_131
  · refine xr_ifnonnull_s (t := 35) rfl hc ?_
    refine xr_aload_n (pc' := 36) rfl rfl rfl ?_
    obtain ⟨v10, hv10, h⟩ := xbind h
    refine xr_getR (pc' := 39) rfl (by decide) hv10 rfl ?_
    obtain ⟨v11, hv11, h⟩ := xbind h
    refine xr_getI (pc' := 42) rfl (by decide) hv11 rfl ?_
    rcases xite h with ⟨hc, h⟩ | ⟨hc, h⟩
    · refine xr_if_le_t (t := 51) rfl hc ?_
      refine xr_aload_n (pc' := 52) rfl rfl rfl ?_
      obtain ⟨v12, hv12, h⟩ := xbind h
      refine xr_getR (pc' := 55) rfl (by decide) hv12 rfl ?_
      obtain ⟨v13, hv13, h⟩ := xbind h
      refine xr_getR (pc' := 58) rfl (by decide) hv13 rfl ?_
      refine xr_iload_n (pc' := 59) rfl rfl rfl ?_
      obtain ⟨v14, hv14, h⟩ := xbind h
      refine xr_aI (pc' := 60) rfl hv14 rfl ?_
      refine xr_iconst (v := 1) (pc' := 61) rfl (by decide) rfl ?_
      refine xr_iadd (pc' := 62) rfl rfl ?_
      obtain ⟨rfl, rfl⟩ := xsome2 h
      exact xr_iret rfl mR_131
    · refine xr_if_le_f (pc' := 45) rfl hc rfl ?_
      refine xr_iload_n (pc' := 46) rfl rfl rfl ?_
      refine xr_iconst (v := 1) (pc' := 47) rfl (by decide) rfl ?_
      refine xr_iadd (pc' := 48) rfl rfl ?_
      refine xr_goto (t := 62) rfl ?_
      obtain ⟨rfl, rfl⟩ := xsome2 h
      exact xr_iret rfl mR_131
-- 124: MagazineDepot$Run.move(I)I
def fR_move_134  (M : xMem) (l1 : Int32)  : Option (Int32 × xMem) :=
  some ((l1 + (1 : Int32)), M)
set_option maxRecDepth 20000 in
theorem TfR_move_134 {M' : xMem} {r : Int32}  (M : xMem) (l1 : Int32)  (o0 : Option xId) (o2 : Int32) (h : fR_move_134  M l1  = some (r, M')) : xrun none 5 124 134 ([some (.inr (.inr o0)), some (.inl l1), some (.inl o2)]) ([]) M (some (.inl r), M') := by
  unfold fR_move_134 at h
  refine xr_iload_n (pc' := 135) rfl rfl rfl ?_
  refine xr_iconst (v := 1) (pc' := 136) rfl (by decide) rfl ?_
  refine xr_iadd (pc' := 137) rfl rfl ?_
  obtain ⟨rfl, rfl⟩ := xsome2 h
  exact xr_iret rfl mR_124
def fR_move (M : xMem) (this : xId) (a0 : Int32) : Option (Int32 × xMem) :=
  (xgR M (some this) 5 3).bind fun v1 =>
  (xgR M v1 6 0).bind fun v2 =>
  (xaI M v2 a0).bind fun v3 =>
  if v3 = (6 : Int32) then (
    (xob M (some this) 5).bind fun u4 =>
    (fR_close M u4 a0).bind fun q5 =>
    some (q5.1, q5.2))
  else
  (xob M (some this) 5).bind fun u6 =>
  (fR_step M u6 ).bind fun q7 =>
  if q7.1 = 0 then (
    some (a0, q7.2))
  else
  if v3 = 0 then (
    (xob q7.2 (some this) 5).bind fun u8 =>
    (fR_takeNamed q7.2 u8 a0).bind fun q9 =>
    fR_move_134  q9 a0 )
  else
  if v3 = 1 then (
    (xob q7.2 (some this) 5).bind fun u10 =>
    (fR_giveNamed q7.2 u10 a0).bind fun q11 =>
    fR_move_134  q11 a0 )
  else
  if v3 = 2 then (
    (xob q7.2 (some this) 5).bind fun u12 =>
    (fR_setNamed q7.2 u12 a0).bind fun q13 =>
    fR_move_134  q13 a0 )
  else
  if v3 = 3 then (
    (xgR q7.2 (some this) 5 4).bind fun v14 =>
    (xob q7.2 v14 3).bind fun u15 =>
    (fD_endInterval q7.2 u15 ).bind fun q16 =>
    fR_move_134  q16.2 a0 )
  else
  if v3 = 4 then (
    (xgR q7.2 (some this) 5 2).bind fun v17 =>
    (xgR q7.2 (some this) 5 3).bind fun v18 =>
    (xgR q7.2 v18 6 4).bind fun v19 =>
    (xaI q7.2 v19 a0).bind fun v20 =>
    (xuI q7.2 v17 a0 v20).bind fun M21 =>
    (xgR M21 (some this) 5 3).bind fun v22 =>
    (xgR M21 v22 6 5).bind fun v23 =>
    (xaI M21 v23 a0).bind fun v24 =>
    some (v24, M21))
  else
  (xob q7.2 (some this) 5).bind fun u25 =>
  (fR_ask q7.2 u25 a0).bind fun q26 =>
  some (q26.1, q26.2)
set_option maxRecDepth 20000 in
theorem TfR_move {M M' : xMem} {r : Int32} (this : xId) (a0 : Int32) (h : fR_move M this a0 = some (r, M')) : xrun none 5 124 0 ([some (.inr (.inr (some this))), some (.inl a0), none]) ([]) M (some (.inl r), M') := by
  unfold fR_move at h
  refine xr_aload_n (pc' := 1) rfl rfl rfl ?_
  obtain ⟨v1, hv1, h⟩ := xbind h
  refine xr_getR (pc' := 4) rfl (by decide) hv1 rfl ?_
  obtain ⟨v2, hv2, h⟩ := xbind h
  refine xr_getR (pc' := 7) rfl (by decide) hv2 rfl ?_
  refine xr_iload_n (pc' := 8) rfl rfl rfl ?_
  obtain ⟨v3, hv3, h⟩ := xbind h
  refine xr_aI (pc' := 9) rfl hv3 rfl ?_
  refine xr_istore_n (pc' := 10) rfl rfl rfl ?_
  refine xr_iload_n (pc' := 11) rfl rfl rfl ?_
  refine xr_bipush (v := 6) (pc' := 13) rfl (by decide) rfl ?_
  rcases xite h with ⟨hc, h⟩ | ⟨hc, h⟩
  · refine xr_icmp_ne_f (pc' := 16) rfl hc rfl ?_
    refine xr_aload_n (pc' := 17) rfl rfl rfl ?_
    refine xr_iload_n (pc' := 18) rfl rfl rfl ?_
    obtain ⟨u4, hu4, h⟩ := xbind h
    obtain ⟨q5, hq5, h⟩ := xbind h
    refine xr_callV (pc' := 21) (C := 5) (As := [_]) (rest := _) rfl hu4 mC_125 mL_125 rfl (Nat.le_of_ble_eq_true rfl) rfl (Nat.le_of_ble_eq_true rfl) (TfR_close _ _ hq5) rfl ?_
    obtain ⟨rfl, rfl⟩ := xsome2 h
    exact xr_iret rfl mR_124
  · refine xr_icmp_ne_t (t := 22) rfl hc ?_
    refine xr_aload_n (pc' := 23) rfl rfl rfl ?_
    obtain ⟨u6, hu6, h⟩ := xbind h
    obtain ⟨q7, hq7, h⟩ := xbind h
    refine xr_callV (pc' := 26) (C := 5) (As := []) (rest := _) rfl hu6 mC_126 mL_126 rfl (Nat.le_of_ble_eq_true rfl) rfl (Nat.le_of_ble_eq_true rfl) (TfR_step _  hq7) rfl ?_
    rcases xite h with ⟨hc, h⟩ | ⟨hc, h⟩
    · refine xr_if_ne_f (pc' := 29) rfl hc rfl ?_
      refine xr_iload_n (pc' := 30) rfl rfl rfl ?_
      obtain ⟨rfl, rfl⟩ := xsome2 h
      exact xr_iret rfl mR_124
    · refine xr_if_ne_t (t := 31) rfl hc ?_
      refine xr_iload_n (pc' := 32) rfl rfl rfl ?_
      rcases xite h with ⟨hc32_0, h⟩ | ⟨hc32_0, h⟩
      · refine xr_tsw_in (t := 68) rfl (by rw [hc32_0]; decide) (by rw [hc32_0]; rfl) (by decide) ?_
        refine xr_aload_n (pc' := 69) rfl rfl rfl ?_
        refine xr_iload_n (pc' := 70) rfl rfl rfl ?_
        obtain ⟨u8, hu8, h⟩ := xbind h
        obtain ⟨q9, hq9, h⟩ := xbind h
        refine xr_callV (pc' := 73) (C := 5) (As := [_]) (rest := _) rfl hu8 mC_127 mL_127 rfl (Nat.le_of_ble_eq_true rfl) rfl (Nat.le_of_ble_eq_true rfl) (TfR_takeNamed _ _ hq9) rfl ?_
        refine xr_goto (t := 134) rfl ?_
        exact TfR_move_134   q9 _  _ _ h
      rcases xite h with ⟨hc32_1, h⟩ | ⟨hc32_1, h⟩
      · refine xr_tsw_in (t := 76) rfl (by rw [hc32_1]; decide) (by rw [hc32_1]; rfl) (by decide) ?_
        refine xr_aload_n (pc' := 77) rfl rfl rfl ?_
        refine xr_iload_n (pc' := 78) rfl rfl rfl ?_
        obtain ⟨u10, hu10, h⟩ := xbind h
        obtain ⟨q11, hq11, h⟩ := xbind h
        refine xr_callV (pc' := 81) (C := 5) (As := [_]) (rest := _) rfl hu10 mC_128 mL_128 rfl (Nat.le_of_ble_eq_true rfl) rfl (Nat.le_of_ble_eq_true rfl) (TfR_giveNamed _ _ hq11) rfl ?_
        refine xr_goto (t := 134) rfl ?_
        exact TfR_move_134   q11 _  _ _ h
      rcases xite h with ⟨hc32_2, h⟩ | ⟨hc32_2, h⟩
      · refine xr_tsw_in (t := 84) rfl (by rw [hc32_2]; decide) (by rw [hc32_2]; rfl) (by decide) ?_
        refine xr_aload_n (pc' := 85) rfl rfl rfl ?_
        refine xr_iload_n (pc' := 86) rfl rfl rfl ?_
        obtain ⟨u12, hu12, h⟩ := xbind h
        obtain ⟨q13, hq13, h⟩ := xbind h
        refine xr_callV (pc' := 89) (C := 5) (As := [_]) (rest := _) rfl hu12 mC_130 mL_130 rfl (Nat.le_of_ble_eq_true rfl) rfl (Nat.le_of_ble_eq_true rfl) (TfR_setNamed _ _ hq13) rfl ?_
        refine xr_goto (t := 134) rfl ?_
        exact TfR_move_134   q13 _  _ _ h
      rcases xite h with ⟨hc32_3, h⟩ | ⟨hc32_3, h⟩
      · refine xr_tsw_in (t := 92) rfl (by rw [hc32_3]; decide) (by rw [hc32_3]; rfl) (by decide) ?_
        refine xr_aload_n (pc' := 93) rfl rfl rfl ?_
        obtain ⟨v14, hv14, h⟩ := xbind h
        refine xr_getR (pc' := 96) rfl (by decide) hv14 rfl ?_
        obtain ⟨u15, hu15, h⟩ := xbind h
        obtain ⟨q16, hq16, h⟩ := xbind h
        refine xr_callV (pc' := 99) (C := 3) (As := []) (rest := _) rfl hu15 mC_67 mL_67 rfl (Nat.le_of_ble_eq_true rfl) rfl (Nat.le_of_ble_eq_true rfl) (TfD_endInterval _  hq16) rfl ?_
        refine xr_pop_i (pc' := 100) rfl rfl ?_
        refine xr_goto (t := 134) rfl ?_
        exact TfR_move_134   q16.2 _  _ _ h
      rcases xite h with ⟨hc32_4, h⟩ | ⟨hc32_4, h⟩
      · refine xr_tsw_in (t := 103) rfl (by rw [hc32_4]; decide) (by rw [hc32_4]; rfl) (by decide) ?_
        refine xr_aload_n (pc' := 104) rfl rfl rfl ?_
        obtain ⟨v17, hv17, h⟩ := xbind h
        refine xr_getR (pc' := 107) rfl (by decide) hv17 rfl ?_
        refine xr_iload_n (pc' := 108) rfl rfl rfl ?_
        refine xr_aload_n (pc' := 109) rfl rfl rfl ?_
        obtain ⟨v18, hv18, h⟩ := xbind h
        refine xr_getR (pc' := 112) rfl (by decide) hv18 rfl ?_
        obtain ⟨v19, hv19, h⟩ := xbind h
        refine xr_getR (pc' := 115) rfl (by decide) hv19 rfl ?_
        refine xr_iload_n (pc' := 116) rfl rfl rfl ?_
        obtain ⟨v20, hv20, h⟩ := xbind h
        refine xr_aI (pc' := 117) rfl hv20 rfl ?_
        obtain ⟨M21, hM21, h⟩ := xbind h
        refine xr_uI (pc' := 118) rfl hM21 rfl ?_
        refine xr_aload_n (pc' := 119) rfl rfl rfl ?_
        obtain ⟨v22, hv22, h⟩ := xbind h
        refine xr_getR (pc' := 122) rfl (by decide) hv22 rfl ?_
        obtain ⟨v23, hv23, h⟩ := xbind h
        refine xr_getR (pc' := 125) rfl (by decide) hv23 rfl ?_
        refine xr_iload_n (pc' := 126) rfl rfl rfl ?_
        obtain ⟨v24, hv24, h⟩ := xbind h
        refine xr_aI (pc' := 127) rfl hv24 rfl ?_
        obtain ⟨rfl, rfl⟩ := xsome2 h
        exact xr_iret rfl mR_124
      have hc32_0 := lv_neT hc32_0 (by decide : (0 : Int32).toInt = 0)
      have hc32_1 := lv_neT hc32_1 (by decide : (1 : Int32).toInt = 1)
      have hc32_2 := lv_neT hc32_2 (by decide : (2 : Int32).toInt = 2)
      have hc32_3 := lv_neT hc32_3 (by decide : (3 : Int32).toInt = 3)
      have hc32_4 := lv_neT hc32_4 (by decide : (4 : Int32).toInt = 4)
      refine xr_tsw_out (t := 128) rfl (by omega) (by decide) ?_
      refine xr_aload_n (pc' := 129) rfl rfl rfl ?_
      refine xr_iload_n (pc' := 130) rfl rfl rfl ?_
      obtain ⟨u25, hu25, h⟩ := xbind h
      obtain ⟨q26, hq26, h⟩ := xbind h
      refine xr_callV (pc' := 133) (C := 5) (As := [_]) (rest := _) rfl hu25 mC_131 mL_131 rfl (Nat.le_of_ble_eq_true rfl) rfl (Nat.le_of_ble_eq_true rfl) (TfR_ask _ _ hq26) rfl ?_
      obtain ⟨rfl, rfl⟩ := xsome2 h
      exact xr_iret rfl mR_124
-- 123: MagazineDepot$Run.goThrough(LMagazineDepot$Trace;LMagazineDepot$Depot;[I)V
def fR_goThrough_31  : Nat → xMem → Option xId → Option xId → Int32 → Int32 → Option xMem
  | 0, _, _, _, _, _ => none
  | n + 1, M, l0, l1, l4, l5 =>
    if (1000000 : Int32) ≤ l5 then (
      some M)
    else
    (xgI M l0 5 1).bind fun v6 =>
    if v6 = 0 then (
      if l4 < 0 then (
        some M)
      else
      (xgI M l1 6 6).bind fun v7 =>
      if v7 ≤ l4 then (
        some M)
      else
      (xob M l0 5).bind fun u8 =>
      (fR_move M u8 l4).bind fun q9 =>
      fR_goThrough_31  n q9.2 l0 l1 q9.1 (l5 + 1))
    else
    some M
set_option maxRecDepth 20000 in
theorem TfR_goThrough_31 {M' : xMem}  : ∀ (n : Nat) (M : xMem) (l0 : Option xId) (l1 : Option xId) (l4 : Int32) (l5 : Int32) (o2 : Option xId) (o3 : Option xId), fR_goThrough_31  n M l0 l1 l4 l5 = some M' → xrun none 6 123 31 ([some (.inr (.inr l0)), some (.inr (.inr l1)), some (.inr (.inr o2)), some (.inr (.inr o3)), some (.inl l4), some (.inl l5)]) ([]) M (none, M') := by
  intro n
  induction n with
  | zero => intro M l0 l1 l4 l5 o2 o3 h; unfold fR_goThrough_31 at h; cases h
  | succ n ih =>
    intro M l0 l1 l4 l5 o2 o3 h
    unfold fR_goThrough_31 at h
    refine xr_iload (pc' := 33) rfl rfl rfl ?_
    refine xr_ldc (v := 1000000) (pc' := 35) rfl (by decide) rfl ?_
    rcases xite h with ⟨hc, h⟩ | ⟨hc, h⟩
    · refine xr_icmp_ge_t (t := 73) rfl hc ?_
      obtain rfl := xsome1 h
      exact xr_ret rfl mR_123
    · refine xr_icmp_ge_f (pc' := 38) rfl hc rfl ?_
      refine xr_aload_n (pc' := 39) rfl rfl rfl ?_
      obtain ⟨v6, hv6, h⟩ := xbind h
      refine xr_getI (pc' := 42) rfl (by decide) hv6 rfl ?_
      rcases xite h with ⟨hc, h⟩ | ⟨hc, h⟩
      · refine xr_if_ne_f (pc' := 45) rfl hc rfl ?_
        refine xr_iload (pc' := 47) rfl rfl rfl ?_
        rcases xite h with ⟨hc, h⟩ | ⟨hc, h⟩
        · refine xr_if_lt_t (t := 73) rfl hc ?_
          obtain rfl := xsome1 h
          exact xr_ret rfl mR_123
        · refine xr_if_lt_f (pc' := 50) rfl hc rfl ?_
          refine xr_iload (pc' := 52) rfl rfl rfl ?_
          refine xr_aload_n (pc' := 53) rfl rfl rfl ?_
          obtain ⟨v7, hv7, h⟩ := xbind h
          refine xr_getI (pc' := 56) rfl (by decide) hv7 rfl ?_
          rcases xite h with ⟨hc, h⟩ | ⟨hc, h⟩
          · refine xr_icmp_ge_t (t := 73) rfl hc ?_
            obtain rfl := xsome1 h
            exact xr_ret rfl mR_123
          · refine xr_icmp_ge_f (pc' := 59) rfl hc rfl ?_
            refine xr_aload_n (pc' := 60) rfl rfl rfl ?_
            refine xr_iload (pc' := 62) rfl rfl rfl ?_
            obtain ⟨u8, hu8, h⟩ := xbind h
            obtain ⟨q9, hq9, h⟩ := xbind h
            refine xr_callV (pc' := 65) (C := 5) (As := [_]) (rest := _) rfl hu8 mC_124 mL_124 rfl (Nat.le_of_ble_eq_true rfl) rfl (Nat.le_of_ble_eq_true rfl) (TfR_move _ _ hq9) rfl ?_
            refine xr_istore (pc' := 67) rfl rfl rfl ?_
            refine xr_iinc (c := 1) (pc' := 70) rfl (by decide) rfl rfl rfl ?_
            refine xr_goto (t := 31) rfl ?_
            exact ih q9.2 _ _ _ _ _ _ h
      · refine xr_if_ne_t (t := 73) rfl hc ?_
        obtain rfl := xsome1 h
        exact xr_ret rfl mR_123
def fR_goThrough (M : xMem) (this : xId) (a0 : Option xId) (a1 : Option xId) (a2 : Option xId) : Option xMem :=
  (xpR M (some this) 5 3 a0).bind fun M1 =>
  (xpR M1 (some this) 5 4 a1).bind fun M2 =>
  (xpR M2 (some this) 5 5 a2).bind fun M3 =>
  (xpI M3 (some this) 5 0 (0 : Int32)).bind fun M4 =>
  (xpI M4 (some this) 5 1 (0 : Int32)).bind fun M5 =>
  fR_goThrough_31  xF M5 (some this) a0 (0 : Int32) (0 : Int32)
set_option maxRecDepth 20000 in
theorem TfR_goThrough {M M' : xMem} (this : xId) (a0 : Option xId) (a1 : Option xId) (a2 : Option xId) (h : fR_goThrough M this a0 a1 a2 = some M') : xrun none 6 123 0 ([some (.inr (.inr (some this))), some (.inr (.inr a0)), some (.inr (.inr a1)), some (.inr (.inr a2)), none, none]) ([]) M (none, M') := by
  unfold fR_goThrough at h
  refine xr_aload_n (pc' := 1) rfl rfl rfl ?_
  refine xr_aload_n (pc' := 2) rfl rfl rfl ?_
  obtain ⟨M1, hM1, h⟩ := xbind h
  refine xr_putR (pc' := 5) rfl (by decide) hM1 rfl ?_
  refine xr_aload_n (pc' := 6) rfl rfl rfl ?_
  refine xr_aload_n (pc' := 7) rfl rfl rfl ?_
  obtain ⟨M2, hM2, h⟩ := xbind h
  refine xr_putR (pc' := 10) rfl (by decide) hM2 rfl ?_
  refine xr_aload_n (pc' := 11) rfl rfl rfl ?_
  refine xr_aload_n (pc' := 12) rfl rfl rfl ?_
  obtain ⟨M3, hM3, h⟩ := xbind h
  refine xr_putR (pc' := 15) rfl (by decide) hM3 rfl ?_
  refine xr_aload_n (pc' := 16) rfl rfl rfl ?_
  refine xr_iconst (v := 0) (pc' := 17) rfl (by decide) rfl ?_
  obtain ⟨M4, hM4, h⟩ := xbind h
  refine xr_putI (pc' := 20) rfl (by decide) hM4 rfl ?_
  refine xr_aload_n (pc' := 21) rfl rfl rfl ?_
  refine xr_iconst (v := 0) (pc' := 22) rfl (by decide) rfl ?_
  obtain ⟨M5, hM5, h⟩ := xbind h
  refine xr_putI (pc' := 25) rfl (by decide) hM5 rfl ?_
  refine xr_iconst (v := 0) (pc' := 26) rfl (by decide) rfl ?_
  refine xr_istore (pc' := 28) rfl rfl rfl ?_
  refine xr_iconst (v := 0) (pc' := 29) rfl (by decide) rfl ?_
  refine xr_istore (pc' := 31) rfl rfl rfl ?_
  exact TfR_goThrough_31   xF M5 _ _ _ _ _ _ h
-- 122: MagazineDepot.run()I
def fX_run (M : xMem) (this : xId) : Option (Int32 × xMem) :=
  (xgI M (some this) 7 9).bind fun v1 =>
  if v1 = 0 then (
    some ((-5 : Int32), M))
  else
  (xgR M (some this) 7 10).bind fun v2 =>
  (xgR M (some this) 7 7).bind fun v3 =>
  (xgR M (some this) 7 0).bind fun v4 =>
  (xgR M (some this) 7 11).bind fun v5 =>
  (xob M v2 5).bind fun u6 =>
  (fR_goThrough M u6 v3 v4 v5).bind fun q7 =>
  (xgR q7 (some this) 7 10).bind fun v8 =>
  (xgI q7 v8 5 1).bind fun v9 =>
  (xpI q7 (some this) 7 13 v9).bind fun M10 =>
  (xgR M10 (some this) 7 10).bind fun v11 =>
  (xgI M10 v11 5 0).bind fun v12 =>
  some (v12, M10)
set_option maxRecDepth 20000 in
theorem TfX_run {M M' : xMem} {r : Int32} (this : xId) (h : fX_run M this = some (r, M')) : xrun none 7 122 0 ([some (.inr (.inr (some this)))]) ([]) M (some (.inl r), M') := by
  unfold fX_run at h
  refine xr_aload_n (pc' := 1) rfl rfl rfl ?_
  obtain ⟨v1, hv1, h⟩ := xbind h
  refine xr_getI (pc' := 4) rfl (by decide) hv1 rfl ?_
  rcases xite h with ⟨hc, h⟩ | ⟨hc, h⟩
  · refine xr_if_ne_f (pc' := 7) rfl hc rfl ?_
    refine xr_bipush (v := -5) (pc' := 9) rfl (by decide) rfl ?_
    obtain ⟨rfl, rfl⟩ := xsome2 h
    exact xr_iret rfl mR_122
  · refine xr_if_ne_t (t := 10) rfl hc ?_
    refine xr_aload_n (pc' := 11) rfl rfl rfl ?_
    obtain ⟨v2, hv2, h⟩ := xbind h
    refine xr_getR (pc' := 14) rfl (by decide) hv2 rfl ?_
    refine xr_aload_n (pc' := 15) rfl rfl rfl ?_
    obtain ⟨v3, hv3, h⟩ := xbind h
    refine xr_getR (pc' := 18) rfl (by decide) hv3 rfl ?_
    refine xr_aload_n (pc' := 19) rfl rfl rfl ?_
    obtain ⟨v4, hv4, h⟩ := xbind h
    refine xr_getR (pc' := 22) rfl (by decide) hv4 rfl ?_
    refine xr_aload_n (pc' := 23) rfl rfl rfl ?_
    obtain ⟨v5, hv5, h⟩ := xbind h
    refine xr_getR (pc' := 26) rfl (by decide) hv5 rfl ?_
    obtain ⟨u6, hu6, h⟩ := xbind h
    obtain ⟨q7, hq7, h⟩ := xbind h
    refine xr_callV (pc' := 29) (C := 5) (As := [_, _, _]) (rest := _) rfl hu6 mC_123 mL_123 rfl (Nat.le_of_ble_eq_true rfl) rfl (Nat.le_of_ble_eq_true rfl) (TfR_goThrough _ _ _ _ hq7) rfl ?_
    refine xr_aload_n (pc' := 30) rfl rfl rfl ?_
    refine xr_aload_n (pc' := 31) rfl rfl rfl ?_
    obtain ⟨v8, hv8, h⟩ := xbind h
    refine xr_getR (pc' := 34) rfl (by decide) hv8 rfl ?_
    obtain ⟨v9, hv9, h⟩ := xbind h
    refine xr_getI (pc' := 37) rfl (by decide) hv9 rfl ?_
    obtain ⟨M10, hM10, h⟩ := xbind h
    refine xr_putI (pc' := 40) rfl (by decide) hM10 rfl ?_
    refine xr_aload_n (pc' := 41) rfl rfl rfl ?_
    obtain ⟨v11, hv11, h⟩ := xbind h
    refine xr_getR (pc' := 44) rfl (by decide) hv11 rfl ?_
    obtain ⟨v12, hv12, h⟩ := xbind h
    refine xr_getI (pc' := 47) rfl (by decide) hv12 rfl ?_
    obtain ⟨rfl, rfl⟩ := xsome2 h
    exact xr_iret rfl mR_122
-- 132: MagazineDepot.why()I
def fX_why (M : xMem) (this : xId) : Option (Int32 × xMem) :=
  (xgI M (some this) 7 13).bind fun v1 =>
  some (v1, M)
set_option maxRecDepth 20000 in
theorem TfX_why {M M' : xMem} {r : Int32} (this : xId) (h : fX_why M this = some (r, M')) : xrun none 0 132 0 ([some (.inr (.inr (some this)))]) ([]) M (some (.inl r), M') := by
  unfold fX_why at h
  refine xr_aload_n (pc' := 1) rfl rfl rfl ?_
  obtain ⟨v1, hv1, h⟩ := xbind h
  refine xr_getI (pc' := 4) rfl (by decide) hv1 rfl ?_
  obtain ⟨rfl, rfl⟩ := xsome2 h
  exact xr_iret rfl mR_132
-- 133: MagazineDepot.dry(I)I
def fX_dry (M : xMem) (this : xId) (a0 : Int32) : Option (Int32 × xMem) :=
  if a0 < 0 then (
    some ((-2000000000 : Int32), M))
  else
  if (3 : Int32) < a0 then (
    some ((-2000000000 : Int32), M))
  else
  (xgI M (some this) 7 9).bind fun v1 =>
  if v1 = 0 then (
    some ((-2000000000 : Int32), M))
  else
  (xgR M (some this) 7 1).bind fun v2 =>
  (xgR M (some this) 7 0).bind fun v3 =>
  (xob M v2 3).bind fun u4 =>
  (fD_copyFrom M u4 v3).bind fun q5 =>
  (xgR q5 (some this) 7 11).bind fun v6 =>
  (xgR q5 (some this) 7 12).bind fun v7 =>
  (xcpy q5 (26 : Int32) (0 : Int32) (0 : Int32) v7 v6).bind fun M8 =>
  (xgR M8 (some this) 7 10).bind fun v9 =>
  (xgR M8 (some this) 7 7).bind fun v10 =>
  (xgR M8 (some this) 7 1).bind fun v11 =>
  (xgR M8 (some this) 7 12).bind fun v12 =>
  (xob M8 v9 5).bind fun u13 =>
  (fR_goThrough M8 u13 v10 v11 v12).bind fun q14 =>
  if a0 = 0 then (
    (xgR q14 (some this) 7 10).bind fun v15 =>
    (xgI q14 v15 5 0).bind fun v16 =>
    some (v16, q14))
  else
  if a0 = 1 then (
    (xgR q14 (some this) 7 10).bind fun v17 =>
    (xgI q14 v17 5 1).bind fun v18 =>
    some (v18, q14))
  else
  if a0 = 2 then (
    (xgR q14 (some this) 7 1).bind fun v19 =>
    (xgI q14 v19 3 7).bind fun v20 =>
    (xgR q14 (some this) 7 0).bind fun v21 =>
    (xgI q14 v21 3 7).bind fun v22 =>
    some ((v20 - v22), q14))
  else
  (xgR q14 (some this) 7 1).bind fun v23 =>
  (xgR q14 v23 3 0).bind fun v24 =>
  (xob q14 v24 0).bind fun u25 =>
  (fA_howMany q14 u25 (-1 : Int32) (1 : Int32)).bind fun q26 =>
  some (q26.1, q26.2)
set_option maxRecDepth 20000 in
theorem TfX_dry {M M' : xMem} {r : Int32} (this : xId) (a0 : Int32) (h : fX_dry M this a0 = some (r, M')) : xrun none 7 133 0 ([some (.inr (.inr (some this))), some (.inl a0)]) ([]) M (some (.inl r), M') := by
  unfold fX_dry at h
  refine xr_iload_n (pc' := 1) rfl rfl rfl ?_
  rcases xite h with ⟨hc, h⟩ | ⟨hc, h⟩
  · refine xr_if_lt_t (t := 16) rfl hc ?_
    refine xr_ldc (v := -2000000000) (pc' := 18) rfl (by decide) rfl ?_
    obtain ⟨rfl, rfl⟩ := xsome2 h
    exact xr_iret rfl mR_133
  · refine xr_if_lt_f (pc' := 4) rfl hc rfl ?_
    refine xr_iload_n (pc' := 5) rfl rfl rfl ?_
    refine xr_iconst (v := 3) (pc' := 6) rfl (by decide) rfl ?_
    rcases xite h with ⟨hc, h⟩ | ⟨hc, h⟩
    · refine xr_icmp_gt_t (t := 16) rfl hc ?_
      refine xr_ldc (v := -2000000000) (pc' := 18) rfl (by decide) rfl ?_
      obtain ⟨rfl, rfl⟩ := xsome2 h
      exact xr_iret rfl mR_133
    · refine xr_icmp_gt_f (pc' := 9) rfl hc rfl ?_
      refine xr_aload_n (pc' := 10) rfl rfl rfl ?_
      obtain ⟨v1, hv1, h⟩ := xbind h
      refine xr_getI (pc' := 13) rfl (by decide) hv1 rfl ?_
      rcases xite h with ⟨hc, h⟩ | ⟨hc, h⟩
      · refine xr_if_ne_f (pc' := 16) rfl hc rfl ?_
        refine xr_ldc (v := -2000000000) (pc' := 18) rfl (by decide) rfl ?_
        obtain ⟨rfl, rfl⟩ := xsome2 h
        exact xr_iret rfl mR_133
      · refine xr_if_ne_t (t := 19) rfl hc ?_
        refine xr_aload_n (pc' := 20) rfl rfl rfl ?_
        obtain ⟨v2, hv2, h⟩ := xbind h
        refine xr_getR (pc' := 23) rfl (by decide) hv2 rfl ?_
        refine xr_aload_n (pc' := 24) rfl rfl rfl ?_
        obtain ⟨v3, hv3, h⟩ := xbind h
        refine xr_getR (pc' := 27) rfl (by decide) hv3 rfl ?_
        obtain ⟨u4, hu4, h⟩ := xbind h
        obtain ⟨q5, hq5, h⟩ := xbind h
        refine xr_callV (pc' := 30) (C := 3) (As := [_]) (rest := _) rfl hu4 mC_97 mL_97 rfl (Nat.le_of_ble_eq_true rfl) rfl (Nat.le_of_ble_eq_true rfl) (TfD_copyFrom _ _ hq5) rfl ?_
        refine xr_aload_n (pc' := 31) rfl rfl rfl ?_
        obtain ⟨v6, hv6, h⟩ := xbind h
        refine xr_getR (pc' := 34) rfl (by decide) hv6 rfl ?_
        refine xr_iconst (v := 0) (pc' := 35) rfl (by decide) rfl ?_
        refine xr_aload_n (pc' := 36) rfl rfl rfl ?_
        obtain ⟨v7, hv7, h⟩ := xbind h
        refine xr_getR (pc' := 39) rfl (by decide) hv7 rfl ?_
        refine xr_iconst (v := 0) (pc' := 40) rfl (by decide) rfl ?_
        refine xr_bipush (v := 26) (pc' := 42) rfl (by decide) rfl ?_
        obtain ⟨M8, hM8, h⟩ := xbind h
        refine xr_copy (pc' := 45) rfl hM8 (Nat.le_of_ble_eq_true rfl) (Nat.le_of_ble_eq_true rfl) rfl ?_
        refine xr_aload_n (pc' := 46) rfl rfl rfl ?_
        obtain ⟨v9, hv9, h⟩ := xbind h
        refine xr_getR (pc' := 49) rfl (by decide) hv9 rfl ?_
        refine xr_aload_n (pc' := 50) rfl rfl rfl ?_
        obtain ⟨v10, hv10, h⟩ := xbind h
        refine xr_getR (pc' := 53) rfl (by decide) hv10 rfl ?_
        refine xr_aload_n (pc' := 54) rfl rfl rfl ?_
        obtain ⟨v11, hv11, h⟩ := xbind h
        refine xr_getR (pc' := 57) rfl (by decide) hv11 rfl ?_
        refine xr_aload_n (pc' := 58) rfl rfl rfl ?_
        obtain ⟨v12, hv12, h⟩ := xbind h
        refine xr_getR (pc' := 61) rfl (by decide) hv12 rfl ?_
        obtain ⟨u13, hu13, h⟩ := xbind h
        obtain ⟨q14, hq14, h⟩ := xbind h
        refine xr_callV (pc' := 64) (C := 5) (As := [_, _, _]) (rest := _) rfl hu13 mC_123 mL_123 rfl (Nat.le_of_ble_eq_true rfl) rfl (Nat.le_of_ble_eq_true rfl) (TfR_goThrough _ _ _ _ hq14) rfl ?_
        refine xr_iload_n (pc' := 65) rfl rfl rfl ?_
        rcases xite h with ⟨hc65_0, h⟩ | ⟨hc65_0, h⟩
        · refine xr_tsw_in (t := 92) rfl (by rw [hc65_0]; decide) (by rw [hc65_0]; rfl) (by decide) ?_
          refine xr_aload_n (pc' := 93) rfl rfl rfl ?_
          obtain ⟨v15, hv15, h⟩ := xbind h
          refine xr_getR (pc' := 96) rfl (by decide) hv15 rfl ?_
          obtain ⟨v16, hv16, h⟩ := xbind h
          refine xr_getI (pc' := 99) rfl (by decide) hv16 rfl ?_
          obtain ⟨rfl, rfl⟩ := xsome2 h
          exact xr_iret rfl mR_133
        rcases xite h with ⟨hc65_1, h⟩ | ⟨hc65_1, h⟩
        · refine xr_tsw_in (t := 100) rfl (by rw [hc65_1]; decide) (by rw [hc65_1]; rfl) (by decide) ?_
          refine xr_aload_n (pc' := 101) rfl rfl rfl ?_
          obtain ⟨v17, hv17, h⟩ := xbind h
          refine xr_getR (pc' := 104) rfl (by decide) hv17 rfl ?_
          obtain ⟨v18, hv18, h⟩ := xbind h
          refine xr_getI (pc' := 107) rfl (by decide) hv18 rfl ?_
          obtain ⟨rfl, rfl⟩ := xsome2 h
          exact xr_iret rfl mR_133
        rcases xite h with ⟨hc65_2, h⟩ | ⟨hc65_2, h⟩
        · refine xr_tsw_in (t := 108) rfl (by rw [hc65_2]; decide) (by rw [hc65_2]; rfl) (by decide) ?_
          refine xr_aload_n (pc' := 109) rfl rfl rfl ?_
          obtain ⟨v19, hv19, h⟩ := xbind h
          refine xr_getR (pc' := 112) rfl (by decide) hv19 rfl ?_
          obtain ⟨v20, hv20, h⟩ := xbind h
          refine xr_getI (pc' := 115) rfl (by decide) hv20 rfl ?_
          refine xr_aload_n (pc' := 116) rfl rfl rfl ?_
          obtain ⟨v21, hv21, h⟩ := xbind h
          refine xr_getR (pc' := 119) rfl (by decide) hv21 rfl ?_
          obtain ⟨v22, hv22, h⟩ := xbind h
          refine xr_getI (pc' := 122) rfl (by decide) hv22 rfl ?_
          refine xr_isub (pc' := 123) rfl rfl ?_
          obtain ⟨rfl, rfl⟩ := xsome2 h
          exact xr_iret rfl mR_133
        have hc65_0 := lv_neT hc65_0 (by decide : (0 : Int32).toInt = 0)
        have hc65_1 := lv_neT hc65_1 (by decide : (1 : Int32).toInt = 1)
        have hc65_2 := lv_neT hc65_2 (by decide : (2 : Int32).toInt = 2)
        refine xr_tsw_out (t := 124) rfl (by omega) (by decide) ?_
        refine xr_aload_n (pc' := 125) rfl rfl rfl ?_
        obtain ⟨v23, hv23, h⟩ := xbind h
        refine xr_getR (pc' := 128) rfl (by decide) hv23 rfl ?_
        obtain ⟨v24, hv24, h⟩ := xbind h
        refine xr_getR (pc' := 131) rfl (by decide) hv24 rfl ?_
        refine xr_iconst (v := -1) (pc' := 132) rfl (by decide) rfl ?_
        refine xr_iconst (v := 1) (pc' := 133) rfl (by decide) rfl ?_
        obtain ⟨u25, hu25, h⟩ := xbind h
        obtain ⟨q26, hq26, h⟩ := xbind h
        refine xr_callV (pc' := 136) (C := 0) (As := [_, _]) (rest := _) rfl hu25 mC_58 mL_58 rfl (Nat.le_of_ble_eq_true rfl) rfl (Nat.le_of_ble_eq_true rfl) (TfA_howMany _ _ _ hq26) rfl ?_
        obtain ⟨rfl, rfl⟩ := xsome2 h
        exact xr_iret rfl mR_133
-- 135: MagazineDepot$Depot.startAnew(I)V
def fD_startAnew_2  : Nat → xMem → Option xId → Int32 → Int32 → Option xMem
  | 0, _, _, _, _ => none
  | n + 1, M, l0, l1, l2 =>
    (xgI M l0 3 4).bind fun v1 =>
    if v1 ≤ l2 then (
      some M)
    else
    if (4 : Int32) ≤ l2 then (
      some M)
    else
    (xgR M l0 3 1).bind fun v2 =>
    (xaR M 23 v2 l2).bind fun v3 =>
    (xob M l0 3).bind fun u4 =>
    (fD_unmakeAll M u4 v3).bind fun q5 =>
    (xpI q5 v3 2 4 l1).bind fun M6 =>
    (xpI M6 v3 2 8 (0 : Int32)).bind fun M7 =>
    (xpI M7 v3 2 9 (0 : Int32)).bind fun M8 =>
    fD_startAnew_2  n M8 l0 l1 (l2 + 1)
set_option maxRecDepth 20000 in
theorem TfD_startAnew_2 {M' : xMem}  : ∀ (n : Nat) (M : xMem) (l0 : Option xId) (l1 : Int32) (l2 : Int32) (o3 : Option xVal), fD_startAnew_2  n M l0 l1 l2 = some M' → xrun none 4 135 2 ([some (.inr (.inr l0)), some (.inl l1), some (.inl l2), o3]) ([]) M (none, M') := by
  intro n
  induction n with
  | zero => intro M l0 l1 l2 o3 h; unfold fD_startAnew_2 at h; cases h
  | succ n ih =>
    intro M l0 l1 l2 o3 h
    unfold fD_startAnew_2 at h
    refine xr_iload_n (pc' := 3) rfl rfl rfl ?_
    refine xr_aload_n (pc' := 4) rfl rfl rfl ?_
    obtain ⟨v1, hv1, h⟩ := xbind h
    refine xr_getI (pc' := 7) rfl (by decide) hv1 rfl ?_
    rcases xite h with ⟨hc, h⟩ | ⟨hc, h⟩
    · refine xr_icmp_ge_t (t := 48) rfl hc ?_
      obtain rfl := xsome1 h
      exact xr_ret rfl mR_135
    · refine xr_icmp_ge_f (pc' := 10) rfl hc rfl ?_
      refine xr_iload_n (pc' := 11) rfl rfl rfl ?_
      refine xr_iconst (v := 4) (pc' := 12) rfl (by decide) rfl ?_
      rcases xite h with ⟨hc, h⟩ | ⟨hc, h⟩
      · refine xr_icmp_ge_t (t := 48) rfl hc ?_
        obtain rfl := xsome1 h
        exact xr_ret rfl mR_135
      · refine xr_icmp_ge_f (pc' := 15) rfl hc rfl ?_
        refine xr_aload_n (pc' := 16) rfl rfl rfl ?_
        obtain ⟨v2, hv2, h⟩ := xbind h
        refine xr_getR (pc' := 19) rfl (by decide) hv2 rfl ?_
        refine xr_iload_n (pc' := 20) rfl rfl rfl ?_
        obtain ⟨v3, hv3, h⟩ := xbind h
        refine xr_aR (pc' := 21) rfl hv3 rfl ?_
        refine xr_astore_n (pc' := 22) rfl rfl rfl ?_
        refine xr_aload_n (pc' := 23) rfl rfl rfl ?_
        refine xr_aload_n (pc' := 24) rfl rfl rfl ?_
        obtain ⟨u4, hu4, h⟩ := xbind h
        obtain ⟨q5, hq5, h⟩ := xbind h
        refine xr_callV (pc' := 27) (C := 3) (As := [_]) (rest := _) rfl hu4 mC_74 mL_74 rfl (Nat.le_of_ble_eq_true rfl) rfl (Nat.le_of_ble_eq_true rfl) (TfD_unmakeAll _ _ hq5) rfl ?_
        refine xr_aload_n (pc' := 28) rfl rfl rfl ?_
        refine xr_iload_n (pc' := 29) rfl rfl rfl ?_
        obtain ⟨M6, hM6, h⟩ := xbind h
        refine xr_putI (pc' := 32) rfl (by decide) hM6 rfl ?_
        refine xr_aload_n (pc' := 33) rfl rfl rfl ?_
        refine xr_iconst (v := 0) (pc' := 34) rfl (by decide) rfl ?_
        obtain ⟨M7, hM7, h⟩ := xbind h
        refine xr_putI (pc' := 37) rfl (by decide) hM7 rfl ?_
        refine xr_aload_n (pc' := 38) rfl rfl rfl ?_
        refine xr_iconst (v := 0) (pc' := 39) rfl (by decide) rfl ?_
        obtain ⟨M8, hM8, h⟩ := xbind h
        refine xr_putI (pc' := 42) rfl (by decide) hM8 rfl ?_
        refine xr_iinc (c := 1) (pc' := 45) rfl (by decide) rfl rfl rfl ?_
        refine xr_goto (t := 2) rfl ?_
        exact ih M8 _ _ _ _ h
def fD_startAnew (M : xMem) (this : xId) (a0 : Int32) : Option xMem :=
  fD_startAnew_2  xF M (some this) a0 (0 : Int32)
set_option maxRecDepth 20000 in
theorem TfD_startAnew {M M' : xMem} (this : xId) (a0 : Int32) (h : fD_startAnew M this a0 = some M') : xrun none 4 135 0 ([some (.inr (.inr (some this))), some (.inl a0), none, none]) ([]) M (none, M') := by
  unfold fD_startAnew at h
  refine xr_iconst (v := 0) (pc' := 1) rfl (by decide) rfl ?_
  refine xr_istore_n (pc' := 2) rfl rfl rfl ?_
  exact TfD_startAnew_2   xF M _ _ _ _ h
-- 134: MagazineDepot.tuned(I)I
def fX_tuned_122 (k28 : xMem → Option xId → Int32 → Int32 → Int32 → Int32 → Option (Int32 × xMem)) (M : xMem) (l0 : Option xId) (l1 : Int32) (l2 : Int32) (l3 : Int32) (l4 : Int32)  : Option (Int32 × xMem) :=
  k28 M l0 l1 l2 l3 (l4 + 1)
set_option maxRecDepth 20000 in
theorem TfX_tuned_122 {M' : xMem} {r : Int32} (k28 : xMem → Option xId → Int32 → Int32 → Int32 → Int32 → Option (Int32 × xMem)) (hk28 : ∀ (M : xMem) (l0 : Option xId) (l1 : Int32) (l2 : Int32) (l3 : Int32) (l4 : Int32) (o5 : Option xVal), k28 M l0 l1 l2 l3 l4 = some (r, M') → xrun none 7 134 28 ([some (.inr (.inr l0)), some (.inl l1), some (.inl l2), some (.inl l3), some (.inl l4), o5]) ([]) M (some (.inl r), M')) (M : xMem) (l0 : Option xId) (l1 : Int32) (l2 : Int32) (l3 : Int32) (l4 : Int32)  (o5 : Int32) (h : fX_tuned_122 k28 M l0 l1 l2 l3 l4  = some (r, M')) : xrun none 7 134 122 ([some (.inr (.inr l0)), some (.inl l1), some (.inl l2), some (.inl l3), some (.inl l4), some (.inl o5)]) ([]) M (some (.inl r), M') := by
  unfold fX_tuned_122 at h
  refine xr_iinc (c := 1) (pc' := 125) rfl (by decide) rfl rfl rfl ?_
  refine xr_goto (t := 28) rfl ?_
  exact hk28 M _ _ _ _ _ _ h
def fX_tuned_116 (k28 : xMem → Option xId → Int32 → Int32 → Int32 → Int32 → Option (Int32 × xMem)) (M : xMem) (l0 : Option xId) (l1 : Int32) (l4 : Int32) (l5 : Int32)  : Option (Int32 × xMem) :=
  fX_tuned_122 k28 M l0 l1 l4 l5 l4 
set_option maxRecDepth 20000 in
theorem TfX_tuned_116 {M' : xMem} {r : Int32} (k28 : xMem → Option xId → Int32 → Int32 → Int32 → Int32 → Option (Int32 × xMem)) (hk28 : ∀ (M : xMem) (l0 : Option xId) (l1 : Int32) (l2 : Int32) (l3 : Int32) (l4 : Int32) (o5 : Option xVal), k28 M l0 l1 l2 l3 l4 = some (r, M') → xrun none 7 134 28 ([some (.inr (.inr l0)), some (.inl l1), some (.inl l2), some (.inl l3), some (.inl l4), o5]) ([]) M (some (.inl r), M')) (M : xMem) (l0 : Option xId) (l1 : Int32) (l4 : Int32) (l5 : Int32)  (o2 : Int32) (o3 : Int32) (h : fX_tuned_116 k28 M l0 l1 l4 l5  = some (r, M')) : xrun none 7 134 116 ([some (.inr (.inr l0)), some (.inl l1), some (.inl o2), some (.inl o3), some (.inl l4), some (.inl l5)]) ([]) M (some (.inl r), M') := by
  unfold fX_tuned_116 at h
  refine xr_iload (pc' := 118) rfl rfl rfl ?_
  refine xr_istore_n (pc' := 119) rfl rfl rfl ?_
  refine xr_iload (pc' := 121) rfl rfl rfl ?_
  refine xr_istore_n (pc' := 122) rfl rfl rfl ?_
  exact TfX_tuned_122 _ hk28 M _ _ _ _ _  _ h
def fX_tuned_28  : Nat → xMem → Option xId → Int32 → Int32 → Int32 → Int32 → Option (Int32 × xMem)
  | 0, _, _, _, _, _, _ => none
  | n + 1, M, l0, l1, l2, l3, l4 =>
    if (8 : Int32) < l4 then (
      if l1 = 0 then (
        some (l2, M))
      else
      some (l3, M))
    else
    (xgR M l0 7 1).bind fun v2 =>
    (xgR M l0 7 0).bind fun v3 =>
    (xob M v2 3).bind fun u4 =>
    (fD_copyFrom M u4 v3).bind fun q5 =>
    (xgR q5 l0 7 1).bind fun v6 =>
    (xob q5 v6 3).bind fun u7 =>
    (fD_startAnew q5 u7 l4).bind fun q8 =>
    (xgR q8 l0 7 11).bind fun v9 =>
    (xgR q8 l0 7 12).bind fun v10 =>
    (xcpy q8 (26 : Int32) (0 : Int32) (0 : Int32) v10 v9).bind fun M11 =>
    (xgR M11 l0 7 10).bind fun v12 =>
    (xgR M11 l0 7 7).bind fun v13 =>
    (xgR M11 l0 7 1).bind fun v14 =>
    (xgR M11 l0 7 12).bind fun v15 =>
    (xob M11 v12 5).bind fun u16 =>
    (fR_goThrough M11 u16 v13 v14 v15).bind fun q17 =>
    (xgR q17 l0 7 1).bind fun v18 =>
    (xgI q17 v18 3 7).bind fun v19 =>
    (xgR q17 l0 7 0).bind fun v20 =>
    (xgI q17 v20 3 7).bind fun v21 =>
    if l2 = 0 then (
      fX_tuned_116 (fun M l0 l1 l2 l3 l4 => fX_tuned_28  n M l0 l1 l2 l3 l4) q17 l0 l1 l4 (v19 - v21) )
    else
    if l3 ≤ (v19 - v21) then (
      fX_tuned_122 (fun M l0 l1 l2 l3 l4 => fX_tuned_28  n M l0 l1 l2 l3 l4) q17 l0 l1 l2 l3 l4 )
    else
    fX_tuned_116 (fun M l0 l1 l2 l3 l4 => fX_tuned_28  n M l0 l1 l2 l3 l4) q17 l0 l1 l4 (v19 - v21) 
set_option maxRecDepth 20000 in
theorem TfX_tuned_28 {M' : xMem} {r : Int32}  : ∀ (n : Nat) (M : xMem) (l0 : Option xId) (l1 : Int32) (l2 : Int32) (l3 : Int32) (l4 : Int32) (o5 : Option xVal), fX_tuned_28  n M l0 l1 l2 l3 l4 = some (r, M') → xrun none 7 134 28 ([some (.inr (.inr l0)), some (.inl l1), some (.inl l2), some (.inl l3), some (.inl l4), o5]) ([]) M (some (.inl r), M') := by
  intro n
  induction n with
  | zero => intro M l0 l1 l2 l3 l4 o5 h; unfold fX_tuned_28 at h; cases h
  | succ n ih =>
    intro M l0 l1 l2 l3 l4 o5 h
    unfold fX_tuned_28 at h
    refine xr_iload (pc' := 30) rfl rfl rfl ?_
    refine xr_bipush (v := 8) (pc' := 32) rfl (by decide) rfl ?_
    rcases xite h with ⟨hc, h⟩ | ⟨hc, h⟩
    · refine xr_icmp_gt_t (t := 128) rfl hc ?_
      refine xr_iload_n (pc' := 129) rfl rfl rfl ?_
      rcases xite h with ⟨hc, h⟩ | ⟨hc, h⟩
      · refine xr_if_ne_f (pc' := 132) rfl hc rfl ?_
        refine xr_iload_n (pc' := 133) rfl rfl rfl ?_
        refine xr_goto (t := 137) rfl ?_
        obtain ⟨rfl, rfl⟩ := xsome2 h
        exact xr_iret rfl mR_134
      · refine xr_if_ne_t (t := 136) rfl hc ?_
        refine xr_iload_n (pc' := 137) rfl rfl rfl ?_
        obtain ⟨rfl, rfl⟩ := xsome2 h
        exact xr_iret rfl mR_134
    · refine xr_icmp_gt_f (pc' := 35) rfl hc rfl ?_
      refine xr_aload_n (pc' := 36) rfl rfl rfl ?_
      obtain ⟨v2, hv2, h⟩ := xbind h
      refine xr_getR (pc' := 39) rfl (by decide) hv2 rfl ?_
      refine xr_aload_n (pc' := 40) rfl rfl rfl ?_
      obtain ⟨v3, hv3, h⟩ := xbind h
      refine xr_getR (pc' := 43) rfl (by decide) hv3 rfl ?_
      obtain ⟨u4, hu4, h⟩ := xbind h
      obtain ⟨q5, hq5, h⟩ := xbind h
      refine xr_callV (pc' := 46) (C := 3) (As := [_]) (rest := _) rfl hu4 mC_97 mL_97 rfl (Nat.le_of_ble_eq_true rfl) rfl (Nat.le_of_ble_eq_true rfl) (TfD_copyFrom _ _ hq5) rfl ?_
      refine xr_aload_n (pc' := 47) rfl rfl rfl ?_
      obtain ⟨v6, hv6, h⟩ := xbind h
      refine xr_getR (pc' := 50) rfl (by decide) hv6 rfl ?_
      refine xr_iload (pc' := 52) rfl rfl rfl ?_
      obtain ⟨u7, hu7, h⟩ := xbind h
      obtain ⟨q8, hq8, h⟩ := xbind h
      refine xr_callV (pc' := 55) (C := 3) (As := [_]) (rest := _) rfl hu7 mC_135 mL_135 rfl (Nat.le_of_ble_eq_true rfl) rfl (Nat.le_of_ble_eq_true rfl) (TfD_startAnew _ _ hq8) rfl ?_
      refine xr_aload_n (pc' := 56) rfl rfl rfl ?_
      obtain ⟨v9, hv9, h⟩ := xbind h
      refine xr_getR (pc' := 59) rfl (by decide) hv9 rfl ?_
      refine xr_iconst (v := 0) (pc' := 60) rfl (by decide) rfl ?_
      refine xr_aload_n (pc' := 61) rfl rfl rfl ?_
      obtain ⟨v10, hv10, h⟩ := xbind h
      refine xr_getR (pc' := 64) rfl (by decide) hv10 rfl ?_
      refine xr_iconst (v := 0) (pc' := 65) rfl (by decide) rfl ?_
      refine xr_bipush (v := 26) (pc' := 67) rfl (by decide) rfl ?_
      obtain ⟨M11, hM11, h⟩ := xbind h
      refine xr_copy (pc' := 70) rfl hM11 (Nat.le_of_ble_eq_true rfl) (Nat.le_of_ble_eq_true rfl) rfl ?_
      refine xr_aload_n (pc' := 71) rfl rfl rfl ?_
      obtain ⟨v12, hv12, h⟩ := xbind h
      refine xr_getR (pc' := 74) rfl (by decide) hv12 rfl ?_
      refine xr_aload_n (pc' := 75) rfl rfl rfl ?_
      obtain ⟨v13, hv13, h⟩ := xbind h
      refine xr_getR (pc' := 78) rfl (by decide) hv13 rfl ?_
      refine xr_aload_n (pc' := 79) rfl rfl rfl ?_
      obtain ⟨v14, hv14, h⟩ := xbind h
      refine xr_getR (pc' := 82) rfl (by decide) hv14 rfl ?_
      refine xr_aload_n (pc' := 83) rfl rfl rfl ?_
      obtain ⟨v15, hv15, h⟩ := xbind h
      refine xr_getR (pc' := 86) rfl (by decide) hv15 rfl ?_
      obtain ⟨u16, hu16, h⟩ := xbind h
      obtain ⟨q17, hq17, h⟩ := xbind h
      refine xr_callV (pc' := 89) (C := 5) (As := [_, _, _]) (rest := _) rfl hu16 mC_123 mL_123 rfl (Nat.le_of_ble_eq_true rfl) rfl (Nat.le_of_ble_eq_true rfl) (TfR_goThrough _ _ _ _ hq17) rfl ?_
      refine xr_aload_n (pc' := 90) rfl rfl rfl ?_
      obtain ⟨v18, hv18, h⟩ := xbind h
      refine xr_getR (pc' := 93) rfl (by decide) hv18 rfl ?_
      obtain ⟨v19, hv19, h⟩ := xbind h
      refine xr_getI (pc' := 96) rfl (by decide) hv19 rfl ?_
      refine xr_aload_n (pc' := 97) rfl rfl rfl ?_
      obtain ⟨v20, hv20, h⟩ := xbind h
      refine xr_getR (pc' := 100) rfl (by decide) hv20 rfl ?_
      obtain ⟨v21, hv21, h⟩ := xbind h
      refine xr_getI (pc' := 103) rfl (by decide) hv21 rfl ?_
      refine xr_isub (pc' := 104) rfl rfl ?_
      refine xr_istore (pc' := 106) rfl rfl rfl ?_
      refine xr_iload_n (pc' := 107) rfl rfl rfl ?_
      rcases xite h with ⟨hc, h⟩ | ⟨hc, h⟩
      · refine xr_if_eq_t (t := 116) rfl hc ?_
        exact TfX_tuned_116 _ (fun M l0 l1 l2 l3 l4 o5 h => ih M l0 l1 l2 l3 l4 o5 h) q17 _ _ _ _  _ _ h
      · refine xr_if_eq_f (pc' := 110) rfl hc rfl ?_
        refine xr_iload (pc' := 112) rfl rfl rfl ?_
        refine xr_iload_n (pc' := 113) rfl rfl rfl ?_
        rcases xite h with ⟨hc, h⟩ | ⟨hc, h⟩
        · refine xr_icmp_ge_t (t := 122) rfl hc ?_
          exact TfX_tuned_122 _ (fun M l0 l1 l2 l3 l4 o5 h => ih M l0 l1 l2 l3 l4 o5 h) q17 _ _ _ _ _  _ h
        · refine xr_icmp_ge_f (pc' := 116) rfl hc rfl ?_
          exact TfX_tuned_116 _ (fun M l0 l1 l2 l3 l4 o5 h => ih M l0 l1 l2 l3 l4 o5 h) q17 _ _ _ _  _ _ h
def fX_tuned (M : xMem) (this : xId) (a0 : Int32) : Option (Int32 × xMem) :=
  if a0 < 0 then (
    some ((-1 : Int32), M))
  else
  if a0 ≤ (1 : Int32) then (
    (xgI M (some this) 7 9).bind fun v1 =>
    if v1 = 0 then (
      some ((-5 : Int32), M))
    else
    fX_tuned_28  xF M (some this) a0 (0 : Int32) (0 : Int32) (1 : Int32))
  else
  some ((-1 : Int32), M)
set_option maxRecDepth 20000 in
theorem TfX_tuned {M M' : xMem} {r : Int32} (this : xId) (a0 : Int32) (h : fX_tuned M this a0 = some (r, M')) : xrun none 7 134 0 ([some (.inr (.inr (some this))), some (.inl a0), none, none, none, none]) ([]) M (some (.inl r), M') := by
  unfold fX_tuned at h
  refine xr_iload_n (pc' := 1) rfl rfl rfl ?_
  rcases xite h with ⟨hc, h⟩ | ⟨hc, h⟩
  · refine xr_if_lt_t (t := 9) rfl hc ?_
    refine xr_iconst (v := -1) (pc' := 10) rfl (by decide) rfl ?_
    obtain ⟨rfl, rfl⟩ := xsome2 h
    exact xr_iret rfl mR_134
  · refine xr_if_lt_f (pc' := 4) rfl hc rfl ?_
    refine xr_iload_n (pc' := 5) rfl rfl rfl ?_
    refine xr_iconst (v := 1) (pc' := 6) rfl (by decide) rfl ?_
    rcases xite h with ⟨hc, h⟩ | ⟨hc, h⟩
    · refine xr_icmp_le_t (t := 11) rfl hc ?_
      refine xr_aload_n (pc' := 12) rfl rfl rfl ?_
      obtain ⟨v1, hv1, h⟩ := xbind h
      refine xr_getI (pc' := 15) rfl (by decide) hv1 rfl ?_
      rcases xite h with ⟨hc, h⟩ | ⟨hc, h⟩
      · refine xr_if_ne_f (pc' := 18) rfl hc rfl ?_
        refine xr_bipush (v := -5) (pc' := 20) rfl (by decide) rfl ?_
        obtain ⟨rfl, rfl⟩ := xsome2 h
        exact xr_iret rfl mR_134
      · refine xr_if_ne_t (t := 21) rfl hc ?_
        refine xr_iconst (v := 0) (pc' := 22) rfl (by decide) rfl ?_
        refine xr_istore_n (pc' := 23) rfl rfl rfl ?_
        refine xr_iconst (v := 0) (pc' := 24) rfl (by decide) rfl ?_
        refine xr_istore_n (pc' := 25) rfl rfl rfl ?_
        refine xr_iconst (v := 1) (pc' := 26) rfl (by decide) rfl ?_
        refine xr_istore (pc' := 28) rfl rfl rfl ?_
        exact TfX_tuned_28   xF M _ _ _ _ _ _ h
    · refine xr_icmp_le_f (pc' := 9) rfl hc rfl ?_
      refine xr_iconst (v := -1) (pc' := 10) rfl (by decide) rfl ?_
      obtain ⟨rfl, rfl⟩ := xsome2 h
      exact xr_iret rfl mR_134
-- 136: MagazineDepot.names(I)I
def fX_names (M : xMem) (this : xId) (a0 : Int32) : Option (Int32 × xMem) :=
  if a0 < 0 then (
    some ((-1 : Int32), M))
  else
  if a0 < (26 : Int32) then (
    (xgR M (some this) 7 11).bind fun v1 =>
    (xaI M v1 a0).bind fun v2 =>
    if v2 = (-1 : Int32) then (
      some ((-2 : Int32), M))
    else
    (xgR M (some this) 7 11).bind fun v3 =>
    (xaI M v3 a0).bind fun v4 =>
    some (v4, M))
  else
  some ((-1 : Int32), M)
set_option maxRecDepth 20000 in
theorem TfX_names {M M' : xMem} {r : Int32} (this : xId) (a0 : Int32) (h : fX_names M this a0 = some (r, M')) : xrun none 0 136 0 ([some (.inr (.inr (some this))), some (.inl a0)]) ([]) M (some (.inl r), M') := by
  unfold fX_names at h
  refine xr_iload_n (pc' := 1) rfl rfl rfl ?_
  rcases xite h with ⟨hc, h⟩ | ⟨hc, h⟩
  · refine xr_if_lt_t (t := 10) rfl hc ?_
    refine xr_iconst (v := -1) (pc' := 11) rfl (by decide) rfl ?_
    obtain ⟨rfl, rfl⟩ := xsome2 h
    exact xr_iret rfl mR_136
  · refine xr_if_lt_f (pc' := 4) rfl hc rfl ?_
    refine xr_iload_n (pc' := 5) rfl rfl rfl ?_
    refine xr_bipush (v := 26) (pc' := 7) rfl (by decide) rfl ?_
    rcases xite h with ⟨hc, h⟩ | ⟨hc, h⟩
    · refine xr_icmp_lt_t (t := 12) rfl hc ?_
      refine xr_aload_n (pc' := 13) rfl rfl rfl ?_
      obtain ⟨v1, hv1, h⟩ := xbind h
      refine xr_getR (pc' := 16) rfl (by decide) hv1 rfl ?_
      refine xr_iload_n (pc' := 17) rfl rfl rfl ?_
      obtain ⟨v2, hv2, h⟩ := xbind h
      refine xr_aI (pc' := 18) rfl hv2 rfl ?_
      refine xr_iconst (v := -1) (pc' := 19) rfl (by decide) rfl ?_
      rcases xite h with ⟨hc, h⟩ | ⟨hc, h⟩
      · refine xr_icmp_ne_f (pc' := 22) rfl hc rfl ?_
        refine xr_bipush (v := -2) (pc' := 24) rfl (by decide) rfl ?_
        refine xr_goto (t := 33) rfl ?_
        obtain ⟨rfl, rfl⟩ := xsome2 h
        exact xr_iret rfl mR_136
      · refine xr_icmp_ne_t (t := 27) rfl hc ?_
        refine xr_aload_n (pc' := 28) rfl rfl rfl ?_
        obtain ⟨v3, hv3, h⟩ := xbind h
        refine xr_getR (pc' := 31) rfl (by decide) hv3 rfl ?_
        refine xr_iload_n (pc' := 32) rfl rfl rfl ?_
        obtain ⟨v4, hv4, h⟩ := xbind h
        refine xr_aI (pc' := 33) rfl hv4 rfl ?_
        obtain ⟨rfl, rfl⟩ := xsome2 h
        exact xr_iret rfl mR_136
    · refine xr_icmp_lt_f (pc' := 10) rfl hc rfl ?_
      refine xr_iconst (v := -1) (pc' := 11) rfl (by decide) rfl ?_
      obtain ⟨rfl, rfl⟩ := xsome2 h
      exact xr_iret rfl mR_136
-- 137: MagazineDepot.image()I
def fX_image (M : xMem) (this : xId) : Option (Int32 × xMem) :=
  (xgR M (some this) 7 2).bind fun v1 =>
  (xgR M (some this) 7 0).bind fun v2 =>
  (xob M v1 3).bind fun u3 =>
  (fD_copyFrom M u3 v2).bind fun q4 =>
  (xpZ q4 (some this) 7 3 (1 : Int32)).bind fun M5 =>
  (xgR M5 (some this) 7 0).bind fun v6 =>
  (xgI M5 v6 3 4).bind fun v7 =>
  some (v7, M5)
set_option maxRecDepth 20000 in
theorem TfX_image {M M' : xMem} {r : Int32} (this : xId) (h : fX_image M this = some (r, M')) : xrun none 4 137 0 ([some (.inr (.inr (some this)))]) ([]) M (some (.inl r), M') := by
  unfold fX_image at h
  refine xr_aload_n (pc' := 1) rfl rfl rfl ?_
  obtain ⟨v1, hv1, h⟩ := xbind h
  refine xr_getR (pc' := 4) rfl (by decide) hv1 rfl ?_
  refine xr_aload_n (pc' := 5) rfl rfl rfl ?_
  obtain ⟨v2, hv2, h⟩ := xbind h
  refine xr_getR (pc' := 8) rfl (by decide) hv2 rfl ?_
  obtain ⟨u3, hu3, h⟩ := xbind h
  obtain ⟨q4, hq4, h⟩ := xbind h
  refine xr_callV (pc' := 11) (C := 3) (As := [_]) (rest := _) rfl hu3 mC_97 mL_97 rfl (Nat.le_of_ble_eq_true rfl) rfl (Nat.le_of_ble_eq_true rfl) (TfD_copyFrom _ _ hq4) rfl ?_
  refine xr_aload_n (pc' := 12) rfl rfl rfl ?_
  refine xr_iconst (v := 1) (pc' := 13) rfl (by decide) rfl ?_
  obtain ⟨M5, hM5, h⟩ := xbind h
  refine xr_putZ (pc' := 16) rfl (by decide) hM5 rfl ?_
  refine xr_aload_n (pc' := 17) rfl rfl rfl ?_
  obtain ⟨v6, hv6, h⟩ := xbind h
  refine xr_getR (pc' := 20) rfl (by decide) hv6 rfl ?_
  obtain ⟨v7, hv7, h⟩ := xbind h
  refine xr_getI (pc' := 23) rfl (by decide) hv7 rfl ?_
  obtain ⟨rfl, rfl⟩ := xsome2 h
  exact xr_iret rfl mR_137
-- 138: MagazineDepot.back()I
def fX_back (M : xMem) (this : xId) : Option (Int32 × xMem) :=
  (xgI M (some this) 7 3).bind fun v1 =>
  if v1 = 0 then (
    some ((-5 : Int32), M))
  else
  (xgR M (some this) 7 0).bind fun v2 =>
  (xgR M (some this) 7 2).bind fun v3 =>
  (xob M v2 3).bind fun u4 =>
  (fD_copyFrom M u4 v3).bind fun q5 =>
  (xgR q5 (some this) 7 0).bind fun v6 =>
  (xgI q5 v6 3 4).bind fun v7 =>
  some (v7, q5)
set_option maxRecDepth 20000 in
theorem TfX_back {M M' : xMem} {r : Int32} (this : xId) (h : fX_back M this = some (r, M')) : xrun none 4 138 0 ([some (.inr (.inr (some this)))]) ([]) M (some (.inl r), M') := by
  unfold fX_back at h
  refine xr_aload_n (pc' := 1) rfl rfl rfl ?_
  obtain ⟨v1, hv1, h⟩ := xbind h
  refine xr_getI (pc' := 4) rfl (by decide) hv1 rfl ?_
  rcases xite h with ⟨hc, h⟩ | ⟨hc, h⟩
  · refine xr_if_ne_f (pc' := 7) rfl hc rfl ?_
    refine xr_bipush (v := -5) (pc' := 9) rfl (by decide) rfl ?_
    obtain ⟨rfl, rfl⟩ := xsome2 h
    exact xr_iret rfl mR_138
  · refine xr_if_ne_t (t := 10) rfl hc ?_
    refine xr_aload_n (pc' := 11) rfl rfl rfl ?_
    obtain ⟨v2, hv2, h⟩ := xbind h
    refine xr_getR (pc' := 14) rfl (by decide) hv2 rfl ?_
    refine xr_aload_n (pc' := 15) rfl rfl rfl ?_
    obtain ⟨v3, hv3, h⟩ := xbind h
    refine xr_getR (pc' := 18) rfl (by decide) hv3 rfl ?_
    obtain ⟨u4, hu4, h⟩ := xbind h
    obtain ⟨q5, hq5, h⟩ := xbind h
    refine xr_callV (pc' := 21) (C := 3) (As := [_]) (rest := _) rfl hu4 mC_97 mL_97 rfl (Nat.le_of_ble_eq_true rfl) rfl (Nat.le_of_ble_eq_true rfl) (TfD_copyFrom _ _ hq5) rfl ?_
    refine xr_aload_n (pc' := 22) rfl rfl rfl ?_
    obtain ⟨v6, hv6, h⟩ := xbind h
    refine xr_getR (pc' := 25) rfl (by decide) hv6 rfl ?_
    obtain ⟨v7, hv7, h⟩ := xbind h
    refine xr_getI (pc' := 28) rfl (by decide) hv7 rfl ?_
    obtain ⟨rfl, rfl⟩ := xsome2 h
    exact xr_iret rfl mR_138
-- 140: MagazineDepot$Bins.isNumber(I)Z
def fB_isNumber (M : xMem) (this : xId) (a0 : Int32) : Option (Int32 × xMem) :=
  if a0 < 0 then (
    some ((0 : Int32), M))
  else
  if (4 : Int32) ≤ a0 then (
    some ((0 : Int32), M))
  else
  some ((1 : Int32), M)
set_option maxRecDepth 20000 in
theorem TfB_isNumber {M M' : xMem} {r : Int32} (this : xId) (a0 : Int32) (h : fB_isNumber M this a0 = some (r, M')) : xrun none 0 140 0 ([some (.inr (.inr (some this))), some (.inl a0)]) ([]) M (some (.inl r), M') := by
  unfold fB_isNumber at h
  refine xr_iload_n (pc' := 1) rfl rfl rfl ?_
  rcases xite h with ⟨hc, h⟩ | ⟨hc, h⟩
  · refine xr_if_lt_t (t := 13) rfl hc ?_
    refine xr_iconst (v := 0) (pc' := 14) rfl (by decide) rfl ?_
    obtain ⟨rfl, rfl⟩ := xsome2 h
    exact xr_zret rfl mR_140 (by decide)
  · refine xr_if_lt_f (pc' := 4) rfl hc rfl ?_
    refine xr_iload_n (pc' := 5) rfl rfl rfl ?_
    refine xr_iconst (v := 4) (pc' := 6) rfl (by decide) rfl ?_
    rcases xite h with ⟨hc, h⟩ | ⟨hc, h⟩
    · refine xr_icmp_ge_t (t := 13) rfl hc ?_
      refine xr_iconst (v := 0) (pc' := 14) rfl (by decide) rfl ?_
      obtain ⟨rfl, rfl⟩ := xsome2 h
      exact xr_zret rfl mR_140 (by decide)
    · refine xr_icmp_ge_f (pc' := 9) rfl hc rfl ?_
      refine xr_iconst (v := 1) (pc' := 10) rfl (by decide) rfl ?_
      refine xr_goto (t := 14) rfl ?_
      obtain ⟨rfl, rfl⟩ := xsome2 h
      exact xr_zret rfl mR_140 (by decide)
-- 141: MagazineDepot$Bins.begin(II)V
def fB_begin (M : xMem) (this : xId) (a0 : Int32) (a1 : Int32) : Option xMem :=
  (xob M (some this) 1).bind fun u1 =>
  (fB_isNumber M u1 a0).bind fun q2 =>
  if q2.1 = 0 then (
    some q2.2)
  else
  if a1 < 0 then (
    some q2.2)
  else
  if (40 : Int32) < a1 then (
    some q2.2)
  else
  (xgR q2.2 (some this) 1 0).bind fun v3 =>
  (xaR q2.2 25 v3 a0).bind fun v4 =>
  (fJ_fill q2.2 v4 (-1 : Int32)).bind fun q5 =>
  (xgR q5 (some this) 1 1).bind fun v6 =>
  (xuI q5 v6 a0 a1).bind fun M7 =>
  some M7
set_option maxRecDepth 20000 in
theorem TfB_begin {M M' : xMem} (this : xId) (a0 : Int32) (a1 : Int32) (h : fB_begin M this a0 a1 = some M') : xrun none 1 141 0 ([some (.inr (.inr (some this))), some (.inl a0), some (.inl a1)]) ([]) M (none, M') := by
  unfold fB_begin at h
  refine xr_aload_n (pc' := 1) rfl rfl rfl ?_
  refine xr_iload_n (pc' := 2) rfl rfl rfl ?_
  obtain ⟨u1, hu1, h⟩ := xbind h
  obtain ⟨q2, hq2, h⟩ := xbind h
  refine xr_callV (pc' := 5) (C := 1) (As := [_]) (rest := _) rfl hu1 mC_140 mL_140 rfl (Nat.le_of_ble_eq_true rfl) rfl (Nat.le_of_ble_eq_true rfl) (TfB_isNumber _ _ hq2) rfl ?_
  rcases xite h with ⟨hc, h⟩ | ⟨hc, h⟩
  · refine xr_if_eq_t (t := 35) rfl hc ?_
    obtain rfl := xsome1 h
    exact xr_ret rfl mR_141
  · refine xr_if_eq_f (pc' := 8) rfl hc rfl ?_
    refine xr_iload_n (pc' := 9) rfl rfl rfl ?_
    rcases xite h with ⟨hc, h⟩ | ⟨hc, h⟩
    · refine xr_if_lt_t (t := 35) rfl hc ?_
      obtain rfl := xsome1 h
      exact xr_ret rfl mR_141
    · refine xr_if_lt_f (pc' := 12) rfl hc rfl ?_
      refine xr_iload_n (pc' := 13) rfl rfl rfl ?_
      refine xr_bipush (v := 40) (pc' := 15) rfl (by decide) rfl ?_
      rcases xite h with ⟨hc, h⟩ | ⟨hc, h⟩
      · refine xr_icmp_gt_t (t := 35) rfl hc ?_
        obtain rfl := xsome1 h
        exact xr_ret rfl mR_141
      · refine xr_icmp_gt_f (pc' := 18) rfl hc rfl ?_
        refine xr_aload_n (pc' := 19) rfl rfl rfl ?_
        obtain ⟨v3, hv3, h⟩ := xbind h
        refine xr_getR (pc' := 22) rfl (by decide) hv3 rfl ?_
        refine xr_iload_n (pc' := 23) rfl rfl rfl ?_
        obtain ⟨v4, hv4, h⟩ := xbind h
        refine xr_aR (pc' := 24) rfl hv4 rfl ?_
        refine xr_iconst (v := -1) (pc' := 25) rfl (by decide) rfl ?_
        obtain ⟨q5, hq5, h⟩ := xbind h
        refine xr_callS (pc' := 28) (As := [_, _]) (rest := _) rfl (by decide) mL_4 rfl (Nat.le_of_ble_eq_true rfl) rfl (Nat.le_of_ble_eq_true rfl) (TfJ_fill _ _ hq5) rfl ?_
        refine xr_aload_n (pc' := 29) rfl rfl rfl ?_
        obtain ⟨v6, hv6, h⟩ := xbind h
        refine xr_getR (pc' := 32) rfl (by decide) hv6 rfl ?_
        refine xr_iload_n (pc' := 33) rfl rfl rfl ?_
        refine xr_iload_n (pc' := 34) rfl rfl rfl ?_
        obtain ⟨M7, hM7, h⟩ := xbind h
        refine xr_uI (pc' := 35) rfl hM7 rfl ?_
        obtain rfl := xsome1 h
        exact xr_ret rfl mR_141
-- 139: MagazineDepot.bin(II)I
def fX_bin (M : xMem) (this : xId) (a0 : Int32) (a1 : Int32) : Option (Int32 × xMem) :=
  (xgR M (some this) 7 14).bind fun v1 =>
  (xob M v1 1).bind fun u2 =>
  (fB_isNumber M u2 a0).bind fun q3 =>
  if q3.1 = 0 then (
    some ((-1 : Int32), q3.2))
  else
  if a1 ≤ (40 : Int32) then (
    if 0 ≤ a1 then (
      (xgR q3.2 (some this) 7 14).bind fun v4 =>
      (xob q3.2 v4 1).bind fun u5 =>
      (fB_begin q3.2 u5 a0 a1).bind fun q6 =>
      some ((1 : Int32), q6))
    else
    some ((-14 : Int32), q3.2))
  else
  some ((-1 : Int32), q3.2)
set_option maxRecDepth 20000 in
theorem TfX_bin {M M' : xMem} {r : Int32} (this : xId) (a0 : Int32) (a1 : Int32) (h : fX_bin M this a0 a1 = some (r, M')) : xrun none 2 139 0 ([some (.inr (.inr (some this))), some (.inl a0), some (.inl a1)]) ([]) M (some (.inl r), M') := by
  unfold fX_bin at h
  refine xr_aload_n (pc' := 1) rfl rfl rfl ?_
  obtain ⟨v1, hv1, h⟩ := xbind h
  refine xr_getR (pc' := 4) rfl (by decide) hv1 rfl ?_
  refine xr_iload_n (pc' := 5) rfl rfl rfl ?_
  obtain ⟨u2, hu2, h⟩ := xbind h
  obtain ⟨q3, hq3, h⟩ := xbind h
  refine xr_callV (pc' := 8) (C := 1) (As := [_]) (rest := _) rfl hu2 mC_140 mL_140 rfl (Nat.le_of_ble_eq_true rfl) rfl (Nat.le_of_ble_eq_true rfl) (TfB_isNumber _ _ hq3) rfl ?_
  rcases xite h with ⟨hc, h⟩ | ⟨hc, h⟩
  · refine xr_if_eq_t (t := 17) rfl hc ?_
    refine xr_iconst (v := -1) (pc' := 18) rfl (by decide) rfl ?_
    obtain ⟨rfl, rfl⟩ := xsome2 h
    exact xr_iret rfl mR_139
  · refine xr_if_eq_f (pc' := 11) rfl hc rfl ?_
    refine xr_iload_n (pc' := 12) rfl rfl rfl ?_
    refine xr_bipush (v := 40) (pc' := 14) rfl (by decide) rfl ?_
    rcases xite h with ⟨hc, h⟩ | ⟨hc, h⟩
    · refine xr_icmp_le_t (t := 19) rfl hc ?_
      refine xr_iload_n (pc' := 20) rfl rfl rfl ?_
      rcases xite h with ⟨hc, h⟩ | ⟨hc, h⟩
      · refine xr_if_ge_t (t := 26) rfl hc ?_
        refine xr_aload_n (pc' := 27) rfl rfl rfl ?_
        obtain ⟨v4, hv4, h⟩ := xbind h
        refine xr_getR (pc' := 30) rfl (by decide) hv4 rfl ?_
        refine xr_iload_n (pc' := 31) rfl rfl rfl ?_
        refine xr_iload_n (pc' := 32) rfl rfl rfl ?_
        obtain ⟨u5, hu5, h⟩ := xbind h
        obtain ⟨q6, hq6, h⟩ := xbind h
        refine xr_callV (pc' := 35) (C := 1) (As := [_, _]) (rest := _) rfl hu5 mC_141 mL_141 rfl (Nat.le_of_ble_eq_true rfl) rfl (Nat.le_of_ble_eq_true rfl) (TfB_begin _ _ _ hq6) rfl ?_
        refine xr_iconst (v := 1) (pc' := 36) rfl (by decide) rfl ?_
        obtain ⟨rfl, rfl⟩ := xsome2 h
        exact xr_iret rfl mR_139
      · refine xr_if_ge_f (pc' := 23) rfl hc rfl ?_
        refine xr_bipush (v := -14) (pc' := 25) rfl (by decide) rfl ?_
        obtain ⟨rfl, rfl⟩ := xsome2 h
        exact xr_iret rfl mR_139
    · refine xr_icmp_le_f (pc' := 17) rfl hc rfl ?_
      refine xr_iconst (v := -1) (pc' := 18) rfl (by decide) rfl ?_
      obtain ⟨rfl, rfl⟩ := xsome2 h
      exact xr_iret rfl mR_139
-- 143: MagazineDepot$Bins.isMissing(I)Z
def fB_isMissing_18  (M : xMem)   : Option (Int32 × xMem) :=
  some ((1 : Int32), M)
set_option maxRecDepth 20000 in
theorem TfB_isMissing_18 {M' : xMem} {r : Int32}  (M : xMem)   (o0 : Option xId) (o1 : Int32) (h : fB_isMissing_18  M   = some (r, M')) : xrun none 1 143 18 ([some (.inr (.inr o0)), some (.inl o1)]) ([]) M (some (.inl r), M') := by
  unfold fB_isMissing_18 at h
  refine xr_iconst (v := 1) (pc' := 19) rfl (by decide) rfl ?_
  refine xr_goto (t := 23) rfl ?_
  obtain ⟨rfl, rfl⟩ := xsome2 h
  exact xr_zret rfl mR_143 (by decide)
def fB_isMissing (M : xMem) (this : xId) (a0 : Int32) : Option (Int32 × xMem) :=
  (xob M (some this) 1).bind fun u1 =>
  (fB_isNumber M u1 a0).bind fun q2 =>
  if q2.1 = 0 then (
    fB_isMissing_18  q2.2  )
  else
  (xgR q2.2 (some this) 1 1).bind fun v3 =>
  (xaI q2.2 v3 a0).bind fun v4 =>
  if v4 = (-1 : Int32) then (
    fB_isMissing_18  q2.2  )
  else
  some ((0 : Int32), q2.2)
set_option maxRecDepth 20000 in
theorem TfB_isMissing {M M' : xMem} {r : Int32} (this : xId) (a0 : Int32) (h : fB_isMissing M this a0 = some (r, M')) : xrun none 1 143 0 ([some (.inr (.inr (some this))), some (.inl a0)]) ([]) M (some (.inl r), M') := by
  unfold fB_isMissing at h
  refine xr_aload_n (pc' := 1) rfl rfl rfl ?_
  refine xr_iload_n (pc' := 2) rfl rfl rfl ?_
  obtain ⟨u1, hu1, h⟩ := xbind h
  obtain ⟨q2, hq2, h⟩ := xbind h
  refine xr_callV (pc' := 5) (C := 1) (As := [_]) (rest := _) rfl hu1 mC_140 mL_140 rfl (Nat.le_of_ble_eq_true rfl) rfl (Nat.le_of_ble_eq_true rfl) (TfB_isNumber _ _ hq2) rfl ?_
  rcases xite h with ⟨hc, h⟩ | ⟨hc, h⟩
  · refine xr_if_eq_t (t := 18) rfl hc ?_
    exact TfB_isMissing_18   q2.2   _ _ h
  · refine xr_if_eq_f (pc' := 8) rfl hc rfl ?_
    refine xr_aload_n (pc' := 9) rfl rfl rfl ?_
    obtain ⟨v3, hv3, h⟩ := xbind h
    refine xr_getR (pc' := 12) rfl (by decide) hv3 rfl ?_
    refine xr_iload_n (pc' := 13) rfl rfl rfl ?_
    obtain ⟨v4, hv4, h⟩ := xbind h
    refine xr_aI (pc' := 14) rfl hv4 rfl ?_
    refine xr_iconst (v := -1) (pc' := 15) rfl (by decide) rfl ?_
    rcases xite h with ⟨hc, h⟩ | ⟨hc, h⟩
    · refine xr_icmp_ne_f (pc' := 18) rfl hc rfl ?_
      exact TfB_isMissing_18   q2.2   _ _ h
    · refine xr_icmp_ne_t (t := 22) rfl hc ?_
      refine xr_iconst (v := 0) (pc' := 23) rfl (by decide) rfl ?_
      obtain ⟨rfl, rfl⟩ := xsome2 h
      exact xr_zret rfl mR_143 (by decide)
-- 144: MagazineDepot$Bins.hasPlace(II)Z
def fB_hasPlace (M : xMem) (this : xId) (a0 : Int32) (a1 : Int32) : Option (Int32 × xMem) :=
  (xob M (some this) 1).bind fun u1 =>
  (fB_isNumber M u1 a0).bind fun q2 =>
  if q2.1 = 0 then (
    some ((0 : Int32), q2.2))
  else
  if a1 < 0 then (
    some ((0 : Int32), q2.2))
  else
  (xgR q2.2 (some this) 1 1).bind fun v3 =>
  (xaI q2.2 v3 a0).bind fun v4 =>
  if v4 ≤ a1 then (
    some ((0 : Int32), q2.2))
  else
  some ((1 : Int32), q2.2)
set_option maxRecDepth 20000 in
theorem TfB_hasPlace {M M' : xMem} {r : Int32} (this : xId) (a0 : Int32) (a1 : Int32) (h : fB_hasPlace M this a0 a1 = some (r, M')) : xrun none 1 144 0 ([some (.inr (.inr (some this))), some (.inl a0), some (.inl a1)]) ([]) M (some (.inl r), M') := by
  unfold fB_hasPlace at h
  refine xr_aload_n (pc' := 1) rfl rfl rfl ?_
  refine xr_iload_n (pc' := 2) rfl rfl rfl ?_
  obtain ⟨u1, hu1, h⟩ := xbind h
  obtain ⟨q2, hq2, h⟩ := xbind h
  refine xr_callV (pc' := 5) (C := 1) (As := [_]) (rest := _) rfl hu1 mC_140 mL_140 rfl (Nat.le_of_ble_eq_true rfl) rfl (Nat.le_of_ble_eq_true rfl) (TfB_isNumber _ _ hq2) rfl ?_
  rcases xite h with ⟨hc, h⟩ | ⟨hc, h⟩
  · refine xr_if_eq_t (t := 26) rfl hc ?_
    refine xr_iconst (v := 0) (pc' := 27) rfl (by decide) rfl ?_
    obtain ⟨rfl, rfl⟩ := xsome2 h
    exact xr_zret rfl mR_144 (by decide)
  · refine xr_if_eq_f (pc' := 8) rfl hc rfl ?_
    refine xr_iload_n (pc' := 9) rfl rfl rfl ?_
    rcases xite h with ⟨hc, h⟩ | ⟨hc, h⟩
    · refine xr_if_lt_t (t := 26) rfl hc ?_
      refine xr_iconst (v := 0) (pc' := 27) rfl (by decide) rfl ?_
      obtain ⟨rfl, rfl⟩ := xsome2 h
      exact xr_zret rfl mR_144 (by decide)
    · refine xr_if_lt_f (pc' := 12) rfl hc rfl ?_
      refine xr_iload_n (pc' := 13) rfl rfl rfl ?_
      refine xr_aload_n (pc' := 14) rfl rfl rfl ?_
      obtain ⟨v3, hv3, h⟩ := xbind h
      refine xr_getR (pc' := 17) rfl (by decide) hv3 rfl ?_
      refine xr_iload_n (pc' := 18) rfl rfl rfl ?_
      obtain ⟨v4, hv4, h⟩ := xbind h
      refine xr_aI (pc' := 19) rfl hv4 rfl ?_
      rcases xite h with ⟨hc, h⟩ | ⟨hc, h⟩
      · refine xr_icmp_ge_t (t := 26) rfl hc ?_
        refine xr_iconst (v := 0) (pc' := 27) rfl (by decide) rfl ?_
        obtain ⟨rfl, rfl⟩ := xsome2 h
        exact xr_zret rfl mR_144 (by decide)
      · refine xr_icmp_ge_f (pc' := 22) rfl hc rfl ?_
        refine xr_iconst (v := 1) (pc' := 23) rfl (by decide) rfl ?_
        refine xr_goto (t := 27) rfl ?_
        obtain ⟨rfl, rfl⟩ := xsome2 h
        exact xr_zret rfl mR_144 (by decide)
-- 145: MagazineDepot$Bins.set(III)V
def fB_set (M : xMem) (this : xId) (a0 : Int32) (a1 : Int32) (a2 : Int32) : Option xMem :=
  (xob M (some this) 1).bind fun u1 =>
  (fB_hasPlace M u1 a0 a1).bind fun q2 =>
  if q2.1 = 0 then (
    some q2.2)
  else
  (xgR q2.2 (some this) 1 0).bind fun v3 =>
  (xaR q2.2 25 v3 a0).bind fun v4 =>
  (xuI q2.2 v4 a1 a2).bind fun M5 =>
  some M5
set_option maxRecDepth 20000 in
theorem TfB_set {M M' : xMem} (this : xId) (a0 : Int32) (a1 : Int32) (a2 : Int32) (h : fB_set M this a0 a1 a2 = some M') : xrun none 2 145 0 ([some (.inr (.inr (some this))), some (.inl a0), some (.inl a1), some (.inl a2)]) ([]) M (none, M') := by
  unfold fB_set at h
  refine xr_aload_n (pc' := 1) rfl rfl rfl ?_
  refine xr_iload_n (pc' := 2) rfl rfl rfl ?_
  refine xr_iload_n (pc' := 3) rfl rfl rfl ?_
  obtain ⟨u1, hu1, h⟩ := xbind h
  obtain ⟨q2, hq2, h⟩ := xbind h
  refine xr_callV (pc' := 6) (C := 1) (As := [_, _]) (rest := _) rfl hu1 mC_144 mL_144 rfl (Nat.le_of_ble_eq_true rfl) rfl (Nat.le_of_ble_eq_true rfl) (TfB_hasPlace _ _ _ hq2) rfl ?_
  rcases xite h with ⟨hc, h⟩ | ⟨hc, h⟩
  · refine xr_if_eq_t (t := 18) rfl hc ?_
    obtain rfl := xsome1 h
    exact xr_ret rfl mR_145
  · refine xr_if_eq_f (pc' := 9) rfl hc rfl ?_
    refine xr_aload_n (pc' := 10) rfl rfl rfl ?_
    obtain ⟨v3, hv3, h⟩ := xbind h
    refine xr_getR (pc' := 13) rfl (by decide) hv3 rfl ?_
    refine xr_iload_n (pc' := 14) rfl rfl rfl ?_
    obtain ⟨v4, hv4, h⟩ := xbind h
    refine xr_aR (pc' := 15) rfl hv4 rfl ?_
    refine xr_iload_n (pc' := 16) rfl rfl rfl ?_
    refine xr_iload_n (pc' := 17) rfl rfl rfl ?_
    obtain ⟨M5, hM5, h⟩ := xbind h
    refine xr_uI (pc' := 18) rfl hM5 rfl ?_
    obtain rfl := xsome1 h
    exact xr_ret rfl mR_145
-- 142: MagazineDepot.lay(III)I
def fX_lay_44  (M : xMem) (l0 : Option xId) (l1 : Int32) (l2 : Int32) (l3 : Int32)  : Option (Int32 × xMem) :=
  (xgR M l0 7 14).bind fun v12 =>
  (xob M v12 1).bind fun u13 =>
  (fB_isMissing M u13 l1).bind fun q14 =>
  if q14.1 = 0 then (
    (xgR q14.2 l0 7 14).bind fun v15 =>
    (xob q14.2 v15 1).bind fun u16 =>
    (fB_hasPlace q14.2 u16 l1 l2).bind fun q17 =>
    if q17.1 = 0 then (
      some ((-13 : Int32), q17.2))
    else
    (xgR q17.2 l0 7 14).bind fun v18 =>
    (xob q17.2 v18 1).bind fun u19 =>
    (fB_set q17.2 u19 l1 l2 l3).bind fun q20 =>
    some ((1 : Int32), q20))
  else
  some ((-11 : Int32), q14.2)
set_option maxRecDepth 20000 in
theorem TfX_lay_44 {M' : xMem} {r : Int32}  (M : xMem) (l0 : Option xId) (l1 : Int32) (l2 : Int32) (l3 : Int32)   (h : fX_lay_44  M l0 l1 l2 l3  = some (r, M')) : xrun none 3 142 44 ([some (.inr (.inr l0)), some (.inl l1), some (.inl l2), some (.inl l3)]) ([]) M (some (.inl r), M') := by
  unfold fX_lay_44 at h
  refine xr_aload_n (pc' := 45) rfl rfl rfl ?_
  obtain ⟨v12, hv12, h⟩ := xbind h
  refine xr_getR (pc' := 48) rfl (by decide) hv12 rfl ?_
  refine xr_iload_n (pc' := 49) rfl rfl rfl ?_
  obtain ⟨u13, hu13, h⟩ := xbind h
  obtain ⟨q14, hq14, h⟩ := xbind h
  refine xr_callV (pc' := 52) (C := 1) (As := [_]) (rest := _) rfl hu13 mC_143 mL_143 rfl (Nat.le_of_ble_eq_true rfl) rfl (Nat.le_of_ble_eq_true rfl) (TfB_isMissing _ _ hq14) rfl ?_
  rcases xite h with ⟨hc, h⟩ | ⟨hc, h⟩
  · refine xr_if_eq_t (t := 58) rfl hc ?_
    refine xr_aload_n (pc' := 59) rfl rfl rfl ?_
    obtain ⟨v15, hv15, h⟩ := xbind h
    refine xr_getR (pc' := 62) rfl (by decide) hv15 rfl ?_
    refine xr_iload_n (pc' := 63) rfl rfl rfl ?_
    refine xr_iload_n (pc' := 64) rfl rfl rfl ?_
    obtain ⟨u16, hu16, h⟩ := xbind h
    obtain ⟨q17, hq17, h⟩ := xbind h
    refine xr_callV (pc' := 67) (C := 1) (As := [_, _]) (rest := _) rfl hu16 mC_144 mL_144 rfl (Nat.le_of_ble_eq_true rfl) rfl (Nat.le_of_ble_eq_true rfl) (TfB_hasPlace _ _ _ hq17) rfl ?_
    rcases xite h with ⟨hc, h⟩ | ⟨hc, h⟩
    · refine xr_if_ne_f (pc' := 70) rfl hc rfl ?_
      refine xr_bipush (v := -13) (pc' := 72) rfl (by decide) rfl ?_
      obtain ⟨rfl, rfl⟩ := xsome2 h
      exact xr_iret rfl mR_142
    · refine xr_if_ne_t (t := 73) rfl hc ?_
      refine xr_aload_n (pc' := 74) rfl rfl rfl ?_
      obtain ⟨v18, hv18, h⟩ := xbind h
      refine xr_getR (pc' := 77) rfl (by decide) hv18 rfl ?_
      refine xr_iload_n (pc' := 78) rfl rfl rfl ?_
      refine xr_iload_n (pc' := 79) rfl rfl rfl ?_
      refine xr_iload_n (pc' := 80) rfl rfl rfl ?_
      obtain ⟨u19, hu19, h⟩ := xbind h
      obtain ⟨q20, hq20, h⟩ := xbind h
      refine xr_callV (pc' := 83) (C := 1) (As := [_, _, _]) (rest := _) rfl hu19 mC_145 mL_145 rfl (Nat.le_of_ble_eq_true rfl) rfl (Nat.le_of_ble_eq_true rfl) (TfB_set _ _ _ _ hq20) rfl ?_
      refine xr_iconst (v := 1) (pc' := 84) rfl (by decide) rfl ?_
      obtain ⟨rfl, rfl⟩ := xsome2 h
      exact xr_iret rfl mR_142
  · refine xr_if_eq_f (pc' := 55) rfl hc rfl ?_
    refine xr_bipush (v := -11) (pc' := 57) rfl (by decide) rfl ?_
    obtain ⟨rfl, rfl⟩ := xsome2 h
    exact xr_iret rfl mR_142
def fX_lay (M : xMem) (this : xId) (a0 : Int32) (a1 : Int32) (a2 : Int32) : Option (Int32 × xMem) :=
  (xgR M (some this) 7 14).bind fun v1 =>
  (xob M v1 1).bind fun u2 =>
  (fB_isNumber M u2 a0).bind fun q3 =>
  if q3.1 = 0 then (
    some ((-1 : Int32), q3.2))
  else
  if a2 = (-1 : Int32) then (
    fX_lay_44  q3.2 (some this) a0 a1 a2 )
  else
  (xgR q3.2 (some this) 7 0).bind fun v4 =>
  (xgR q3.2 v4 3 0).bind fun v5 =>
  (xgR q3.2 (some this) 7 0).bind fun v6 =>
  (xgR q3.2 v6 3 0).bind fun v7 =>
  (xob q3.2 v7 0).bind fun u8 =>
  (fA_slotOf q3.2 u8 a2).bind fun q9 =>
  (xob q9.2 v5 0).bind fun u10 =>
  (fA_isLive q9.2 u10 q9.1).bind fun q11 =>
  if q11.1 = 0 then (
    some ((-1 : Int32), q11.2))
  else
  fX_lay_44  q11.2 (some this) a0 a1 a2 
set_option maxRecDepth 20000 in
theorem TfX_lay {M M' : xMem} {r : Int32} (this : xId) (a0 : Int32) (a1 : Int32) (a2 : Int32) (h : fX_lay M this a0 a1 a2 = some (r, M')) : xrun none 3 142 0 ([some (.inr (.inr (some this))), some (.inl a0), some (.inl a1), some (.inl a2)]) ([]) M (some (.inl r), M') := by
  unfold fX_lay at h
  refine xr_aload_n (pc' := 1) rfl rfl rfl ?_
  obtain ⟨v1, hv1, h⟩ := xbind h
  refine xr_getR (pc' := 4) rfl (by decide) hv1 rfl ?_
  refine xr_iload_n (pc' := 5) rfl rfl rfl ?_
  obtain ⟨u2, hu2, h⟩ := xbind h
  obtain ⟨q3, hq3, h⟩ := xbind h
  refine xr_callV (pc' := 8) (C := 1) (As := [_]) (rest := _) rfl hu2 mC_140 mL_140 rfl (Nat.le_of_ble_eq_true rfl) rfl (Nat.le_of_ble_eq_true rfl) (TfB_isNumber _ _ hq3) rfl ?_
  rcases xite h with ⟨hc, h⟩ | ⟨hc, h⟩
  · refine xr_if_ne_f (pc' := 11) rfl hc rfl ?_
    refine xr_iconst (v := -1) (pc' := 12) rfl (by decide) rfl ?_
    obtain ⟨rfl, rfl⟩ := xsome2 h
    exact xr_iret rfl mR_142
  · refine xr_if_ne_t (t := 13) rfl hc ?_
    refine xr_iload_n (pc' := 14) rfl rfl rfl ?_
    refine xr_iconst (v := -1) (pc' := 15) rfl (by decide) rfl ?_
    rcases xite h with ⟨hc, h⟩ | ⟨hc, h⟩
    · refine xr_icmp_eq_t (t := 44) rfl hc ?_
      exact TfX_lay_44   q3.2 _ _ _ _   h
    · refine xr_icmp_eq_f (pc' := 18) rfl hc rfl ?_
      refine xr_aload_n (pc' := 19) rfl rfl rfl ?_
      obtain ⟨v4, hv4, h⟩ := xbind h
      refine xr_getR (pc' := 22) rfl (by decide) hv4 rfl ?_
      obtain ⟨v5, hv5, h⟩ := xbind h
      refine xr_getR (pc' := 25) rfl (by decide) hv5 rfl ?_
      refine xr_aload_n (pc' := 26) rfl rfl rfl ?_
      obtain ⟨v6, hv6, h⟩ := xbind h
      refine xr_getR (pc' := 29) rfl (by decide) hv6 rfl ?_
      obtain ⟨v7, hv7, h⟩ := xbind h
      refine xr_getR (pc' := 32) rfl (by decide) hv7 rfl ?_
      refine xr_iload_n (pc' := 33) rfl rfl rfl ?_
      obtain ⟨u8, hu8, h⟩ := xbind h
      obtain ⟨q9, hq9, h⟩ := xbind h
      refine xr_callV (pc' := 36) (C := 0) (As := [_]) (rest := _) rfl hu8 mC_43 mL_43 rfl (Nat.le_of_ble_eq_true rfl) rfl (Nat.le_of_ble_eq_true rfl) (TfA_slotOf _ _ hq9) rfl ?_
      obtain ⟨u10, hu10, h⟩ := xbind h
      obtain ⟨q11, hq11, h⟩ := xbind h
      refine xr_callV (pc' := 39) (C := 0) (As := [_]) (rest := _) rfl hu10 mC_45 mL_45 rfl (Nat.le_of_ble_eq_true rfl) rfl (Nat.le_of_ble_eq_true rfl) (TfA_isLive _ _ hq11) rfl ?_
      rcases xite h with ⟨hc, h⟩ | ⟨hc, h⟩
      · refine xr_if_ne_f (pc' := 42) rfl hc rfl ?_
        refine xr_iconst (v := -1) (pc' := 43) rfl (by decide) rfl ?_
        obtain ⟨rfl, rfl⟩ := xsome2 h
        exact xr_iret rfl mR_142
      · refine xr_if_ne_t (t := 44) rfl hc ?_
        exact TfX_lay_44   q11.2 _ _ _ _   h
