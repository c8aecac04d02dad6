/-! shallow functions of the methods (by program, out of the bytecode), and that a run is what they say -/
-- 195: MagazineDepotModel.ends(I)V
def fM_ends (M : xMem) (this : xId) (a0 : Int32) : Option xMem :=
  (xob M (some this) 8).bind fun u1 =>
  (fM_cacheOf M u1 a0).bind fun q2 =>
  (xgR q2.2 (some this) 8 12).bind fun v3 =>
  (xaL q2.2 v3 q2.1).bind fun v4 =>
  (xgR q2.2 (some this) 8 0).bind fun v5 =>
  (xaI q2.2 v5 q2.1).bind fun v6 =>
  (xgR q2.2 (some this) 8 19).bind fun v7 =>
  (xaI q2.2 v7 a0).bind fun v8 =>
  (fM_endsWith q2.2 v6 v8).bind fun q9 =>
  (xuL q9.2 v3 q2.1 (v4 + (Int32.toInt64 q9.1))).bind fun M10 =>
  (xgR M10 (some this) 8 18).bind fun v11 =>
  (xuI M10 v11 a0 (0 : Int32)).bind fun M12 =>
  (xgR M12 (some this) 8 11).bind fun v13 =>
  (xaI M12 v13 q2.1).bind fun v14 =>
  (xuI M12 v13 q2.1 (v14 + (1 : Int32))).bind fun M15 =>
  some M15
set_option maxRecDepth 20000 in
theorem TfM_ends {M M' : xMem} (this : xId) (a0 : Int32) (h : fM_ends M this a0 = some M') : xrun none 1 195 0 ([some (.inr (.inr (some this))), some (.inl a0), none]) ([]) M (none, M') := by
  unfold fM_ends at h
  refine xr_aload_n (pc' := 1) rfl rfl rfl ?_
  refine xr_iload_n (pc' := 2) rfl rfl rfl ?_
  obtain ⟨u1, hu1, h⟩ := xbind h
  obtain ⟨q2, hq2, h⟩ := xbind h
  refine xr_callV (pc' := 5) (C := 8) (As := [_]) (rest := _) rfl hu1 mC_190 mL_190 rfl (Nat.le_of_ble_eq_true rfl) rfl (Nat.le_of_ble_eq_true rfl) (TfM_cacheOf _ _ hq2) rfl ?_
  refine xr_istore_n (pc' := 6) rfl rfl rfl ?_
  refine xr_aload_n (pc' := 7) rfl rfl rfl ?_
  obtain ⟨v3, hv3, h⟩ := xbind h
  refine xr_getR (pc' := 10) rfl (by decide) hv3 rfl ?_
  refine xr_iload_n (pc' := 11) rfl rfl rfl ?_
  refine xr_dup2_ia (pc' := 12) rfl rfl ?_
  obtain ⟨v4, hv4, h⟩ := xbind h
  refine xr_aL (pc' := 13) rfl hv4 rfl ?_
  refine xr_aload_n (pc' := 14) rfl rfl rfl ?_
  obtain ⟨v5, hv5, h⟩ := xbind h
  refine xr_getR (pc' := 17) rfl (by decide) hv5 rfl ?_
  refine xr_iload_n (pc' := 18) rfl rfl rfl ?_
  obtain ⟨v6, hv6, h⟩ := xbind h
  refine xr_aI (pc' := 19) rfl hv6 rfl ?_
  refine xr_aload_n (pc' := 20) rfl rfl rfl ?_
  obtain ⟨v7, hv7, h⟩ := xbind h
  refine xr_getR (pc' := 23) rfl (by decide) hv7 rfl ?_
  refine xr_iload_n (pc' := 24) rfl rfl rfl ?_
  obtain ⟨v8, hv8, h⟩ := xbind h
  refine xr_aI (pc' := 25) rfl hv8 rfl ?_
  obtain ⟨q9, hq9, h⟩ := xbind h
  refine xr_callS (pc' := 28) (As := [_, _]) (rest := _) rfl (by decide) mL_196 rfl (Nat.le_of_ble_eq_true rfl) rfl (Nat.le_of_ble_eq_true rfl) (TfM_endsWith _ _ hq9) rfl ?_
  refine xr_i2l (pc' := 29) rfl rfl ?_
  refine xr_ladd (pc' := 30) rfl rfl ?_
  obtain ⟨M10, hM10, h⟩ := xbind h
  refine xr_uL (pc' := 31) rfl hM10 rfl ?_
  refine xr_aload_n (pc' := 32) rfl rfl rfl ?_
  obtain ⟨v11, hv11, h⟩ := xbind h
  refine xr_getR (pc' := 35) rfl (by decide) hv11 rfl ?_
  refine xr_iload_n (pc' := 36) rfl rfl rfl ?_
  refine xr_iconst (v := 0) (pc' := 37) rfl (by decide) rfl ?_
  obtain ⟨M12, hM12, h⟩ := xbind h
  refine xr_uI (pc' := 38) rfl hM12 rfl ?_
  refine xr_aload_n (pc' := 39) rfl rfl rfl ?_
  obtain ⟨v13, hv13, h⟩ := xbind h
  refine xr_getR (pc' := 42) rfl (by decide) hv13 rfl ?_
  refine xr_iload_n (pc' := 43) rfl rfl rfl ?_
  refine xr_dup2_ia (pc' := 44) rfl rfl ?_
  obtain ⟨v14, hv14, h⟩ := xbind h
  refine xr_aI (pc' := 45) rfl hv14 rfl ?_
  refine xr_iconst (v := 1) (pc' := 46) rfl (by decide) rfl ?_
  refine xr_iadd (pc' := 47) rfl rfl ?_
  obtain ⟨M15, hM15, h⟩ := xbind h
  refine xr_uI (pc' := 48) rfl hM15 rfl ?_
  obtain rfl := xsome1 h
  exact xr_ret rfl mR_195
-- 191: MagazineDepotModel.gives(II)V
def fM_gives_158  (M : xMem) (l0 : Option xId) (l1 : Int32) (l4 : Int32) (l5 : Int32)  : Option xMem :=
  (xgR M l0 8 21).bind fun v42 =>
  (xgR M l0 8 20).bind fun v43 =>
  (xaI M v43 l4).bind fun v44 =>
  (xuI M v42 l4 v44).bind fun M45 =>
  (xgR M45 l0 8 20).bind fun v46 =>
  (xuI M45 v46 l4 l5).bind fun M47 =>
  (xob M47 l0 8).bind fun u48 =>
  (fM_putsIn M47 u48 l5 l1).bind fun q49 =>
  some q49
set_option maxRecDepth 20000 in
theorem TfM_gives_158 {M' : xMem}  (M : xMem) (l0 : Option xId) (l1 : Int32) (l4 : Int32) (l5 : Int32)  (o2 : Int32) (o3 : Int32) (h : fM_gives_158  M l0 l1 l4 l5  = some M') : xrun none 2 191 158 ([some (.inr (.inr l0)), some (.inl l1), some (.inl o2), some (.inl o3), some (.inl l4), some (.inl l5)]) ([]) M (none, M') := by
  unfold fM_gives_158 at h
  refine xr_aload_n (pc' := 159) rfl rfl rfl ?_
  obtain ⟨v42, hv42, h⟩ := xbind h
  refine xr_getR (pc' := 162) rfl (by decide) hv42 rfl ?_
  refine xr_iload (pc' := 164) rfl rfl rfl ?_
  refine xr_aload_n (pc' := 165) rfl rfl rfl ?_
  obtain ⟨v43, hv43, h⟩ := xbind h
  refine xr_getR (pc' := 168) rfl (by decide) hv43 rfl ?_
  refine xr_iload (pc' := 170) rfl rfl rfl ?_
  obtain ⟨v44, hv44, h⟩ := xbind h
  refine xr_aI (pc' := 171) rfl hv44 rfl ?_
  obtain ⟨M45, hM45, h⟩ := xbind h
  refine xr_uI (pc' := 172) rfl hM45 rfl ?_
  refine xr_aload_n (pc' := 173) rfl rfl rfl ?_
  obtain ⟨v46, hv46, h⟩ := xbind h
  refine xr_getR (pc' := 176) rfl (by decide) hv46 rfl ?_
  refine xr_iload (pc' := 178) rfl rfl rfl ?_
  refine xr_iload (pc' := 180) rfl rfl rfl ?_
  obtain ⟨M47, hM47, h⟩ := xbind h
  refine xr_uI (pc' := 181) rfl hM47 rfl ?_
  refine xr_aload_n (pc' := 182) rfl rfl rfl ?_
  refine xr_iload (pc' := 184) rfl rfl rfl ?_
  refine xr_iload_n (pc' := 185) rfl rfl rfl ?_
  obtain ⟨u48, hu48, h⟩ := xbind h
  obtain ⟨q49, hq49, h⟩ := xbind h
  refine xr_callV (pc' := 188) (C := 8) (As := [_, _]) (rest := _) rfl hu48 mC_193 mL_193 rfl (Nat.le_of_ble_eq_true rfl) rfl (Nat.le_of_ble_eq_true rfl) (TfM_putsIn _ _ _ hq49) rfl ?_
  obtain rfl := xsome1 h
  exact xr_ret rfl mR_191
def fM_gives_110  (M : xMem) (l0 : Option xId) (l1 : Int32) (l3 : Int32) (l4 : Int32) (s0 : Int32) : Option xMem :=
  if 0 ≤ s0 then (
    (xob M l0 8).bind fun u30 =>
    (fM_visit M u30 l3).bind fun q31 =>
    (xgR q31 l0 8 21).bind fun v32 =>
    (xaI q31 v32 l4).bind fun v33 =>
    if v33 < 0 then (
      fM_gives_158  q31 l0 l1 l4 s0 )
    else
    (xgR q31 l0 8 25).bind fun v34 =>
    (xgR q31 l0 8 26).bind fun v35 =>
    (xgR q31 l0 8 21).bind fun v36 =>
    (xaI q31 v36 l4).bind fun v37 =>
    (xob q31 l0 8).bind fun u38 =>
    (fM_brings q31 u38 v34 v35 l3 v37).bind fun q39 =>
    fM_gives_158  q39 l0 l1 l4 s0 )
  else
  (xob M l0 8).bind fun u40 =>
  (fM_ends M u40 l1).bind fun q41 =>
  some q41
set_option maxRecDepth 20000 in
theorem TfM_gives_110 {M' : xMem}  (M : xMem) (l0 : Option xId) (l1 : Int32) (l3 : Int32) (l4 : Int32) (s0 : Int32) (o2 : Int32) (o5 : Option xVal) (h : fM_gives_110  M l0 l1 l3 l4 s0 = some M') : xrun none 2 191 110 ([some (.inr (.inr l0)), some (.inl l1), some (.inl o2), some (.inl l3), some (.inl l4), o5]) ([.inl s0]) M (none, M') := by
  unfold fM_gives_110 at h
  refine xr_istore (pc' := 112) rfl rfl rfl ?_
  refine xr_iload (pc' := 114) rfl rfl rfl ?_
  rcases xite h with ⟨hc, h⟩ | ⟨hc, h⟩
  · refine xr_if_ge_t (t := 123) rfl hc ?_
    refine xr_aload_n (pc' := 124) rfl rfl rfl ?_
    refine xr_iload_n (pc' := 125) rfl rfl rfl ?_
    obtain ⟨u30, hu30, h⟩ := xbind h
    obtain ⟨q31, hq31, h⟩ := xbind h
    refine xr_callV (pc' := 128) (C := 8) (As := [_]) (rest := _) rfl hu30 mC_183 mL_183 rfl (Nat.le_of_ble_eq_true rfl) rfl (Nat.le_of_ble_eq_true rfl) (TfM_visit _ _ hq31) rfl ?_
    refine xr_aload_n (pc' := 129) rfl rfl rfl ?_
    obtain ⟨v32, hv32, h⟩ := xbind h
    refine xr_getR (pc' := 132) rfl (by decide) hv32 rfl ?_
    refine xr_iload (pc' := 134) rfl rfl rfl ?_
    obtain ⟨v33, hv33, h⟩ := xbind h
    refine xr_aI (pc' := 135) rfl hv33 rfl ?_
    rcases xite h with ⟨hc, h⟩ | ⟨hc, h⟩
    · refine xr_if_lt_t (t := 158) rfl hc ?_
      exact TfM_gives_158   q31 _ _ _ _  _ _ h
    · refine xr_if_lt_f (pc' := 138) rfl hc rfl ?_
      refine xr_aload_n (pc' := 139) rfl rfl rfl ?_
      refine xr_aload_n (pc' := 140) rfl rfl rfl ?_
      obtain ⟨v34, hv34, h⟩ := xbind h
      refine xr_getR (pc' := 143) rfl (by decide) hv34 rfl ?_
      refine xr_aload_n (pc' := 144) rfl rfl rfl ?_
      obtain ⟨v35, hv35, h⟩ := xbind h
      refine xr_getR (pc' := 147) rfl (by decide) hv35 rfl ?_
      refine xr_iload_n (pc' := 148) rfl rfl rfl ?_
      refine xr_aload_n (pc' := 149) rfl rfl rfl ?_
      obtain ⟨v36, hv36, h⟩ := xbind h
      refine xr_getR (pc' := 152) rfl (by decide) hv36 rfl ?_
      refine xr_iload (pc' := 154) rfl rfl rfl ?_
      obtain ⟨v37, hv37, h⟩ := xbind h
      refine xr_aI (pc' := 155) rfl hv37 rfl ?_
      obtain ⟨u38, hu38, h⟩ := xbind h
      obtain ⟨q39, hq39, h⟩ := xbind h
      refine xr_callV (pc' := 158) (C := 8) (As := [_, _, _, _]) (rest := _) rfl hu38 mC_185 mL_185 rfl (Nat.le_of_ble_eq_true rfl) rfl (Nat.le_of_ble_eq_true rfl) (TfM_brings _ _ _ _ _ hq39) rfl ?_
      exact TfM_gives_158   q39 _ _ _ _  _ _ h
  · refine xr_if_ge_f (pc' := 117) rfl hc rfl ?_
    refine xr_aload_n (pc' := 118) rfl rfl rfl ?_
    refine xr_iload_n (pc' := 119) rfl rfl rfl ?_
    obtain ⟨u40, hu40, h⟩ := xbind h
    obtain ⟨q41, hq41, h⟩ := xbind h
    refine xr_callV (pc' := 122) (C := 8) (As := [_]) (rest := _) rfl hu40 mC_195 mL_195 rfl (Nat.le_of_ble_eq_true rfl) rfl (Nat.le_of_ble_eq_true rfl) (TfM_ends _ _ hq41) rfl ?_
    obtain rfl := xsome1 h
    exact xr_ret rfl mR_191
def fM_gives_49  (M : xMem) (l0 : Option xId) (l1 : Int32) (l3 : Int32) (l4 : Int32)  : Option xMem :=
  (xgR M l0 8 20).bind fun v13 =>
  (xaI M v13 l4).bind fun v14 =>
  (xob M l0 8).bind fun u15 =>
  (fM_hasRoom M u15 v14 l3).bind fun q16 =>
  if q16.1 = 0 then (
    (xgR q16.2 l0 8 28).bind fun v17 =>
    (xaI q16.2 v17 l3).bind fun v18 =>
    if v18 ≤ 0 then (
      (xob q16.2 l0 8).bind fun u19 =>
      (fM_madeNew q16.2 u19 ).bind fun q20 =>
      fM_gives_110  q20.2 l0 l1 l3 l4 q20.1)
    else
    (xgR q16.2 l0 8 27).bind fun v21 =>
    (xgR q16.2 l0 8 28).bind fun v22 =>
    (xgR q16.2 l0 8 8).bind fun v23 =>
    (xob q16.2 l0 8).bind fun u24 =>
    (fM_fetches q16.2 u24 v21 v22 v23 l3).bind fun q25 =>
    fM_gives_110  q25.2 l0 l1 l3 l4 q25.1)
  else
  (xgR q16.2 l0 8 20).bind fun v26 =>
  (xaI q16.2 v26 l4).bind fun v27 =>
  (xob q16.2 l0 8).bind fun u28 =>
  (fM_putsIn q16.2 u28 v27 l1).bind fun q29 =>
  some q29
set_option maxRecDepth 20000 in
theorem TfM_gives_49 {M' : xMem}  (M : xMem) (l0 : Option xId) (l1 : Int32) (l3 : Int32) (l4 : Int32)  (o2 : Int32) (o5 : Option xVal) (h : fM_gives_49  M l0 l1 l3 l4  = some M') : xrun none 2 191 49 ([some (.inr (.inr l0)), some (.inl l1), some (.inl o2), some (.inl l3), some (.inl l4), o5]) ([]) M (none, M') := by
  unfold fM_gives_49 at h
  refine xr_aload_n (pc' := 50) rfl rfl rfl ?_
  refine xr_aload_n (pc' := 51) rfl rfl rfl ?_
  obtain ⟨v13, hv13, h⟩ := xbind h
  refine xr_getR (pc' := 54) rfl (by decide) hv13 rfl ?_
  refine xr_iload (pc' := 56) rfl rfl rfl ?_
  obtain ⟨v14, hv14, h⟩ := xbind h
  refine xr_aI (pc' := 57) rfl hv14 rfl ?_
  refine xr_iload_n (pc' := 58) rfl rfl rfl ?_
  obtain ⟨u15, hu15, h⟩ := xbind h
  obtain ⟨q16, hq16, h⟩ := xbind h
  refine xr_callV (pc' := 61) (C := 8) (As := [_, _]) (rest := _) rfl hu15 mC_192 mL_192 rfl (Nat.le_of_ble_eq_true rfl) rfl (Nat.le_of_ble_eq_true rfl) (TfM_hasRoom _ _ _ hq16) rfl ?_
  rcases xite h with ⟨hc, h⟩ | ⟨hc, h⟩
  · refine xr_if_eq_t (t := 77) rfl hc ?_
    refine xr_aload_n (pc' := 78) rfl rfl rfl ?_
    obtain ⟨v17, hv17, h⟩ := xbind h
    refine xr_getR (pc' := 81) rfl (by decide) hv17 rfl ?_
    refine xr_iload_n (pc' := 82) rfl rfl rfl ?_
    obtain ⟨v18, hv18, h⟩ := xbind h
    refine xr_aI (pc' := 83) rfl hv18 rfl ?_
    rcases xite h with ⟨hc, h⟩ | ⟨hc, h⟩
    · refine xr_if_le_t (t := 106) rfl hc ?_
      refine xr_aload_n (pc' := 107) rfl rfl rfl ?_
      obtain ⟨u19, hu19, h⟩ := xbind h
      obtain ⟨q20, hq20, h⟩ := xbind h
      refine xr_callV (pc' := 110) (C := 8) (As := []) (rest := _) rfl hu19 mC_194 mL_194 rfl (Nat.le_of_ble_eq_true rfl) rfl (Nat.le_of_ble_eq_true rfl) (TfM_madeNew _  hq20) rfl ?_
      exact TfM_gives_110   q20.2 _ _ _ _ _ _ _ h
    · refine xr_if_le_f (pc' := 86) rfl hc rfl ?_
      refine xr_aload_n (pc' := 87) rfl rfl rfl ?_
      refine xr_aload_n (pc' := 88) rfl rfl rfl ?_
      obtain ⟨v21, hv21, h⟩ := xbind h
      refine xr_getR (pc' := 91) rfl (by decide) hv21 rfl ?_
      refine xr_aload_n (pc' := 92) rfl rfl rfl ?_
      obtain ⟨v22, hv22, h⟩ := xbind h
      refine xr_getR (pc' := 95) rfl (by decide) hv22 rfl ?_
      refine xr_aload_n (pc' := 96) rfl rfl rfl ?_
      obtain ⟨v23, hv23, h⟩ := xbind h
      refine xr_getR (pc' := 99) rfl (by decide) hv23 rfl ?_
      refine xr_iload_n (pc' := 100) rfl rfl rfl ?_
      obtain ⟨u24, hu24, h⟩ := xbind h
      obtain ⟨q25, hq25, h⟩ := xbind h
      refine xr_callV (pc' := 103) (C := 8) (As := [_, _, _, _]) (rest := _) rfl hu24 mC_184 mL_184 rfl (Nat.le_of_ble_eq_true rfl) rfl (Nat.le_of_ble_eq_true rfl) (TfM_fetches _ _ _ _ _ hq25) rfl ?_
      refine xr_goto (t := 110) rfl ?_
      exact TfM_gives_110   q25.2 _ _ _ _ _ _ _ h
  · refine xr_if_eq_f (pc' := 64) rfl hc rfl ?_
    refine xr_aload_n (pc' := 65) rfl rfl rfl ?_
    refine xr_aload_n (pc' := 66) rfl rfl rfl ?_
    obtain ⟨v26, hv26, h⟩ := xbind h
    refine xr_getR (pc' := 69) rfl (by decide) hv26 rfl ?_
    refine xr_iload (pc' := 71) rfl rfl rfl ?_
    obtain ⟨v27, hv27, h⟩ := xbind h
    refine xr_aI (pc' := 72) rfl hv27 rfl ?_
    refine xr_iload_n (pc' := 73) rfl rfl rfl ?_
    obtain ⟨u28, hu28, h⟩ := xbind h
    obtain ⟨q29, hq29, h⟩ := xbind h
    refine xr_callV (pc' := 76) (C := 8) (As := [_, _]) (rest := _) rfl hu28 mC_193 mL_193 rfl (Nat.le_of_ble_eq_true rfl) rfl (Nat.le_of_ble_eq_true rfl) (TfM_putsIn _ _ _ hq29) rfl ?_
    obtain rfl := xsome1 h
    exact xr_ret rfl mR_191
def fM_gives (M : xMem) (this : xId) (a0 : Int32) (a1 : Int32) : Option xMem :=
  (xob M (some this) 8).bind fun u1 =>
  (fM_cacheOf M u1 a0).bind fun q2 =>
  (xgR q2.2 (some this) 8 20).bind fun v3 =>
  (xaI q2.2 v3 (((4 : Int32) * q2.1) + a1)).bind fun v4 =>
  (xob q2.2 (some this) 8).bind fun u5 =>
  (fM_hasRoom q2.2 u5 v4 q2.1).bind fun q6 =>
  if q6.1 = 0 then (
    (xgR q6.2 (some this) 8 21).bind fun v7 =>
    (xaI q6.2 v7 (((4 : Int32) * q2.1) + a1)).bind fun v8 =>
    (xob q6.2 (some this) 8).bind fun u9 =>
    (fM_hasRoom q6.2 u9 v8 q2.1).bind fun q10 =>
    if q10.1 = 0 then (
      fM_gives_49  q10.2 (some this) a0 q2.1 (((4 : Int32) * q2.1) + a1) )
    else
    (xob q10.2 (some this) 8).bind fun u11 =>
    (fM_exchanges q10.2 u11 (((4 : Int32) * q2.1) + a1)).bind fun q12 =>
    fM_gives_49  q12 (some this) a0 q2.1 (((4 : Int32) * q2.1) + a1) )
  else
  fM_gives_49  q6.2 (some this) a0 q2.1 (((4 : Int32) * q2.1) + a1) 
set_option maxRecDepth 20000 in
theorem TfM_gives {M M' : xMem} (this : xId) (a0 : Int32) (a1 : Int32) (h : fM_gives M this a0 a1 = some M') : xrun none 2 191 0 ([some (.inr (.inr (some this))), some (.inl a0), some (.inl a1), none, none, none]) ([]) M (none, M') := by
  unfold fM_gives at h
  refine xr_aload_n (pc' := 1) rfl rfl rfl ?_
  refine xr_iload_n (pc' := 2) rfl rfl rfl ?_
  obtain ⟨u1, hu1, h⟩ := xbind h
  obtain ⟨q2, hq2, h⟩ := xbind h
  refine xr_callV (pc' := 5) (C := 8) (As := [_]) (rest := _) rfl hu1 mC_190 mL_190 rfl (Nat.le_of_ble_eq_true rfl) rfl (Nat.le_of_ble_eq_true rfl) (TfM_cacheOf _ _ hq2) rfl ?_
  refine xr_istore_n (pc' := 6) rfl rfl rfl ?_
  refine xr_iconst (v := 4) (pc' := 7) rfl (by decide) rfl ?_
  refine xr_iload_n (pc' := 8) rfl rfl rfl ?_
  refine xr_imul (pc' := 9) rfl rfl ?_
  refine xr_iload_n (pc' := 10) rfl rfl rfl ?_
  refine xr_iadd (pc' := 11) rfl rfl ?_
  refine xr_istore (pc' := 13) rfl rfl rfl ?_
  refine xr_aload_n (pc' := 14) rfl rfl rfl ?_
  refine xr_aload_n (pc' := 15) rfl rfl rfl ?_
  obtain ⟨v3, hv3, h⟩ := xbind h
  refine xr_getR (pc' := 18) rfl (by decide) hv3 rfl ?_
  refine xr_iload (pc' := 20) rfl rfl rfl ?_
  obtain ⟨v4, hv4, h⟩ := xbind h
  refine xr_aI (pc' := 21) rfl hv4 rfl ?_
  refine xr_iload_n (pc' := 22) rfl rfl rfl ?_
  obtain ⟨u5, hu5, h⟩ := xbind h
  obtain ⟨q6, hq6, h⟩ := xbind h
  refine xr_callV (pc' := 25) (C := 8) (As := [_, _]) (rest := _) rfl hu5 mC_192 mL_192 rfl (Nat.le_of_ble_eq_true rfl) rfl (Nat.le_of_ble_eq_true rfl) (TfM_hasRoom _ _ _ hq6) rfl ?_
  rcases xite h with ⟨hc, h⟩ | ⟨hc, h⟩
  · refine xr_if_ne_f (pc' := 28) rfl hc rfl ?_
    refine xr_aload_n (pc' := 29) rfl rfl rfl ?_
    refine xr_aload_n (pc' := 30) rfl rfl rfl ?_
    obtain ⟨v7, hv7, h⟩ := xbind h
    refine xr_getR (pc' := 33) rfl (by decide) hv7 rfl ?_
    refine xr_iload (pc' := 35) rfl rfl rfl ?_
    obtain ⟨v8, hv8, h⟩ := xbind h
    refine xr_aI (pc' := 36) rfl hv8 rfl ?_
    refine xr_iload_n (pc' := 37) rfl rfl rfl ?_
    obtain ⟨u9, hu9, h⟩ := xbind h
    obtain ⟨q10, hq10, h⟩ := xbind h
    refine xr_callV (pc' := 40) (C := 8) (As := [_, _]) (rest := _) rfl hu9 mC_192 mL_192 rfl (Nat.le_of_ble_eq_true rfl) rfl (Nat.le_of_ble_eq_true rfl) (TfM_hasRoom _ _ _ hq10) rfl ?_
    rcases xite h with ⟨hc, h⟩ | ⟨hc, h⟩
    · refine xr_if_eq_t (t := 49) rfl hc ?_
      exact TfM_gives_49   q10.2 _ _ _ _  _ _ h
    · refine xr_if_eq_f (pc' := 43) rfl hc rfl ?_
      refine xr_aload_n (pc' := 44) rfl rfl rfl ?_
      refine xr_iload (pc' := 46) rfl rfl rfl ?_
      obtain ⟨u11, hu11, h⟩ := xbind h
      obtain ⟨q12, hq12, h⟩ := xbind h
      refine xr_callV (pc' := 49) (C := 8) (As := [_]) (rest := _) rfl hu11 mC_173 mL_173 rfl (Nat.le_of_ble_eq_true rfl) rfl (Nat.le_of_ble_eq_true rfl) (TfM_exchanges _ _ hq12) rfl ?_
      exact TfM_gives_49   q12 _ _ _ _  _ _ h
  · refine xr_if_ne_t (t := 49) rfl hc ?_
    exact TfM_gives_49   q6.2 _ _ _ _  _ _ h
-- 197: MagazineDepotModel.manyHeld(I)I
def fM_manyHeld_40 (k4 : xMem → Option xId → Int32 → Int32 → Int32 → Option (Int32 × xMem)) (M : xMem) (l0 : Option xId) (l1 : Int32) (l3 : Int32) (s0 : Int32) (s1 : Int32) : Option (Int32 × xMem) :=
  k4 M l0 l1 (s0 + s1) (l3 + 1)
set_option maxRecDepth 20000 in
theorem TfM_manyHeld_40 {M' : xMem} {r : Int32} (k4 : xMem → Option xId → Int32 → Int32 → Int32 → Option (Int32 × xMem)) (hk4 : ∀ (M : xMem) (l0 : Option xId) (l1 : Int32) (l2 : Int32) (l3 : Int32) , k4 M l0 l1 l2 l3 = some (r, M') → xrun none 1 197 4 ([some (.inr (.inr l0)), some (.inl l1), some (.inl l2), some (.inl l3)]) ([]) M (some (.inl r), M')) (M : xMem) (l0 : Option xId) (l1 : Int32) (l3 : Int32) (s0 : Int32) (s1 : Int32) (o2 : Int32) (h : fM_manyHeld_40 k4 M l0 l1 l3 s0 s1 = some (r, M')) : xrun none 1 197 40 ([some (.inr (.inr l0)), some (.inl l1), some (.inl o2), some (.inl l3)]) ([.inl s1, .inl s0]) M (some (.inl r), M') := by
  unfold fM_manyHeld_40 at h
  refine xr_iadd (pc' := 41) rfl rfl ?_
  refine xr_istore_n (pc' := 42) rfl rfl rfl ?_
  refine xr_iinc (c := 1) (pc' := 45) rfl (by decide) rfl rfl rfl ?_
  refine xr_goto (t := 4) rfl ?_
  exact hk4 M _ _ _ _  h
def fM_manyHeld_35 (k4 : xMem → Option xId → Int32 → Int32 → Int32 → Option (Int32 × xMem)) (M : xMem) (l0 : Option xId) (l1 : Int32) (l3 : Int32) (s0 : Int32) : Option (Int32 × xMem) :=
  fM_manyHeld_40 k4 M l0 l1 l3 s0 (1 : Int32)
set_option maxRecDepth 20000 in
theorem TfM_manyHeld_35 {M' : xMem} {r : Int32} (k4 : xMem → Option xId → Int32 → Int32 → Int32 → Option (Int32 × xMem)) (hk4 : ∀ (M : xMem) (l0 : Option xId) (l1 : Int32) (l2 : Int32) (l3 : Int32) , k4 M l0 l1 l2 l3 = some (r, M') → xrun none 1 197 4 ([some (.inr (.inr l0)), some (.inl l1), some (.inl l2), some (.inl l3)]) ([]) M (some (.inl r), M')) (M : xMem) (l0 : Option xId) (l1 : Int32) (l3 : Int32) (s0 : Int32) (o2 : Int32) (h : fM_manyHeld_35 k4 M l0 l1 l3 s0 = some (r, M')) : xrun none 1 197 35 ([some (.inr (.inr l0)), some (.inl l1), some (.inl o2), some (.inl l3)]) ([.inl s0]) M (some (.inl r), M') := by
  unfold fM_manyHeld_35 at h
  refine xr_iconst (v := 1) (pc' := 36) rfl (by decide) rfl ?_
  refine xr_goto (t := 40) rfl ?_
  exact TfM_manyHeld_40 _ hk4 M _ _ _ _ _ _ h
def fM_manyHeld_39 (k4 : xMem → Option xId → Int32 → Int32 → Int32 → Option (Int32 × xMem)) (M : xMem) (l0 : Option xId) (l1 : Int32) (l3 : Int32) (s0 : Int32) : Option (Int32 × xMem) :=
  fM_manyHeld_40 k4 M l0 l1 l3 s0 (0 : Int32)
set_option maxRecDepth 20000 in
theorem TfM_manyHeld_39 {M' : xMem} {r : Int32} (k4 : xMem → Option xId → Int32 → Int32 → Int32 → Option (Int32 × xMem)) (hk4 : ∀ (M : xMem) (l0 : Option xId) (l1 : Int32) (l2 : Int32) (l3 : Int32) , k4 M l0 l1 l2 l3 = some (r, M') → xrun none 1 197 4 ([some (.inr (.inr l0)), some (.inl l1), some (.inl l2), some (.inl l3)]) ([]) M (some (.inl r), M')) (M : xMem) (l0 : Option xId) (l1 : Int32) (l3 : Int32) (s0 : Int32) (o2 : Int32) (h : fM_manyHeld_39 k4 M l0 l1 l3 s0 = some (r, M')) : xrun none 1 197 39 ([some (.inr (.inr l0)), some (.inl l1), some (.inl o2), some (.inl l3)]) ([.inl s0]) M (some (.inl r), M') := by
  unfold fM_manyHeld_39 at h
  refine xr_iconst (v := 0) (pc' := 40) rfl (by decide) rfl ?_
  exact TfM_manyHeld_40 _ hk4 M _ _ _ _ _ _ h
def fM_manyHeld_4  : Nat → xMem → Option xId → Int32 → Int32 → Int32 → Option (Int32 × xMem)
  | 0, _, _, _, _, _ => none
  | n + 1, M, l0, l1, l2, l3 =>
    if (1984 : Int32) ≤ l3 then (
      some (l2, M))
    else
    (xgR M l0 8 18).bind fun v1 =>
    (xaI M v1 l3).bind fun v2 =>
    if v2 = (2 : Int32) then (
      if l1 < 0 then (
        fM_manyHeld_35 (fun M l0 l1 l2 l3 => fM_manyHeld_4  n M l0 l1 l2 l3) M l0 l1 l3 l2)
      else
      (xob M l0 8).bind fun u3 =>
      (fM_cacheOf M u3 l3).bind fun q4 =>
      if q4.1 = l1 then (
        fM_manyHeld_35 (fun M l0 l1 l2 l3 => fM_manyHeld_4  n M l0 l1 l2 l3) q4.2 l0 l1 l3 l2)
      else
      fM_manyHeld_39 (fun M l0 l1 l2 l3 => fM_manyHeld_4  n M l0 l1 l2 l3) q4.2 l0 l1 l3 l2)
    else
    fM_manyHeld_39 (fun M l0 l1 l2 l3 => fM_manyHeld_4  n M l0 l1 l2 l3) M l0 l1 l3 l2
set_option maxRecDepth 20000 in
theorem TfM_manyHeld_4 {M' : xMem} {r : Int32}  : ∀ (n : Nat) (M : xMem) (l0 : Option xId) (l1 : Int32) (l2 : Int32) (l3 : Int32) , fM_manyHeld_4  n M l0 l1 l2 l3 = some (r, M') → xrun none 1 197 4 ([some (.inr (.inr l0)), some (.inl l1), some (.inl l2), some (.inl l3)]) ([]) M (some (.inl r), M') := by
  intro n
  induction n with
  | zero => intro M l0 l1 l2 l3  h; unfold fM_manyHeld_4 at h; cases h
  | succ n ih =>
    intro M l0 l1 l2 l3  h
    unfold fM_manyHeld_4 at h
    refine xr_iload_n (pc' := 5) rfl rfl rfl ?_
    refine xr_sipush (v := 1984) (pc' := 8) rfl (by decide) rfl ?_
    rcases xite h with ⟨hc, h⟩ | ⟨hc, h⟩
    · refine xr_icmp_ge_t (t := 48) rfl hc ?_
      refine xr_iload_n (pc' := 49) rfl rfl rfl ?_
      obtain ⟨rfl, rfl⟩ := xsome2 h
      exact xr_iret rfl mR_197
    · refine xr_icmp_ge_f (pc' := 11) rfl hc rfl ?_
      refine xr_iload_n (pc' := 12) rfl rfl rfl ?_
      refine xr_aload_n (pc' := 13) rfl rfl rfl ?_
      obtain ⟨v1, hv1, h⟩ := xbind h
      refine xr_getR (pc' := 16) rfl (by decide) hv1 rfl ?_
      refine xr_iload_n (pc' := 17) rfl rfl rfl ?_
      obtain ⟨v2, hv2, h⟩ := xbind h
      refine xr_aI (pc' := 18) rfl hv2 rfl ?_
      refine xr_iconst (v := 2) (pc' := 19) rfl (by decide) rfl ?_
      rcases xite h with ⟨hc, h⟩ | ⟨hc, h⟩
      · refine xr_icmp_ne_f (pc' := 22) rfl hc rfl ?_
        refine xr_iload_n (pc' := 23) rfl rfl rfl ?_
        rcases xite h with ⟨hc, h⟩ | ⟨hc, h⟩
        · refine xr_if_lt_t (t := 35) rfl hc ?_
          exact TfM_manyHeld_35 _ (fun M l0 l1 l2 l3  h => ih M l0 l1 l2 l3  h) M _ _ _ _ _ h
        · refine xr_if_lt_f (pc' := 26) rfl hc rfl ?_
          refine xr_aload_n (pc' := 27) rfl rfl rfl ?_
          refine xr_iload_n (pc' := 28) rfl rfl rfl ?_
          obtain ⟨u3, hu3, h⟩ := xbind h
          obtain ⟨q4, hq4, h⟩ := xbind h
          refine xr_callV (pc' := 31) (C := 8) (As := [_]) (rest := _) rfl hu3 mC_190 mL_190 rfl (Nat.le_of_ble_eq_true rfl) rfl (Nat.le_of_ble_eq_true rfl) (TfM_cacheOf _ _ hq4) rfl ?_
          refine xr_iload_n (pc' := 32) rfl rfl rfl ?_
          rcases xite h with ⟨hc, h⟩ | ⟨hc, h⟩
          · refine xr_icmp_ne_f (pc' := 35) rfl hc rfl ?_
            exact TfM_manyHeld_35 _ (fun M l0 l1 l2 l3  h => ih M l0 l1 l2 l3  h) q4.2 _ _ _ _ _ h
          · refine xr_icmp_ne_t (t := 39) rfl hc ?_
            exact TfM_manyHeld_39 _ (fun M l0 l1 l2 l3  h => ih M l0 l1 l2 l3  h) q4.2 _ _ _ _ _ h
      · refine xr_icmp_ne_t (t := 39) rfl hc ?_
        exact TfM_manyHeld_39 _ (fun M l0 l1 l2 l3  h => ih M l0 l1 l2 l3  h) M _ _ _ _ _ h
def fM_manyHeld (M : xMem) (this : xId) (a0 : Int32) : Option (Int32 × xMem) :=
  fM_manyHeld_4  xF M (some this) a0 (0 : Int32) (0 : Int32)
set_option maxRecDepth 20000 in
theorem TfM_manyHeld {M M' : xMem} {r : Int32} (this : xId) (a0 : Int32) (h : fM_manyHeld M this a0 = some (r, M')) : xrun none 1 197 0 ([some (.inr (.inr (some this))), some (.inl a0), none, none]) ([]) M (some (.inl r), M') := by
  unfold fM_manyHeld at h
  refine xr_iconst (v := 0) (pc' := 1) rfl (by decide) rfl ?_
  refine xr_istore_n (pc' := 2) rfl rfl rfl ?_
  refine xr_iconst (v := 0) (pc' := 3) rfl (by decide) rfl ?_
  refine xr_istore_n (pc' := 4) rfl rfl rfl ?_
  exact TfM_manyHeld_4   xF M _ _ _ _  h
-- 186: MagazineDepotModel.give(II)I
def fM_give (M : xMem) (this : xId) (a0 : Int32) (a1 : Int32) : Option (Int32 × xMem) :=
  (xob M (some this) 8).bind fun u1 =>
  (fM_liveAt M u1 a0).bind fun q2 =>
  if q2.1 < 0 then (
    some ((-1 : Int32), q2.2))
  else
  (fM_isProcessor q2.2 a1).bind fun q3 =>
  if q3.1 = 0 then (
    some ((-1 : Int32), q3.2))
  else
  (xob q3.2 (some this) 8).bind fun u4 =>
  (fM_isFit q3.2 u4 q2.1).bind fun q5 =>
  if q5.1 = 0 then (
    some ((-5 : Int32), q5.2))
  else
  (xob q5.2 (some this) 8).bind fun u6 =>
  (fM_gives q5.2 u6 q2.1 a1).bind fun q7 =>
  (xob q7 (some this) 8).bind fun u8 =>
  (fM_cacheOf q7 u8 q2.1).bind fun q9 =>
  (xob q9.2 (some this) 8).bind fun u10 =>
  (fM_manyHeld q9.2 u10 q9.1).bind fun q11 =>
  some (q11.1, q11.2)
set_option maxRecDepth 20000 in
theorem TfM_give {M M' : xMem} {r : Int32} (this : xId) (a0 : Int32) (a1 : Int32) (h : fM_give M this a0 a1 = some (r, M')) : xrun none 3 186 0 ([some (.inr (.inr (some this))), some (.inl a0), some (.inl a1), none]) ([]) M (some (.inl r), M') := by
  unfold fM_give at h
  refine xr_aload_n (pc' := 1) rfl rfl rfl ?_
  refine xr_iload_n (pc' := 2) rfl rfl rfl ?_
  obtain ⟨u1, hu1, h⟩ := xbind h
  obtain ⟨q2, hq2, h⟩ := xbind h
  refine xr_callV (pc' := 5) (C := 8) (As := [_]) (rest := _) rfl hu1 mC_187 mL_187 rfl (Nat.le_of_ble_eq_true rfl) rfl (Nat.le_of_ble_eq_true rfl) (TfM_liveAt _ _ hq2) rfl ?_
  refine xr_istore_n (pc' := 6) rfl rfl rfl ?_
  refine xr_iload_n (pc' := 7) rfl rfl rfl ?_
  rcases xite h with ⟨hc, h⟩ | ⟨hc, h⟩
  · refine xr_if_lt_t (t := 17) rfl hc ?_
    refine xr_iconst (v := -1) (pc' := 18) rfl (by decide) rfl ?_
    obtain ⟨rfl, rfl⟩ := xsome2 h
    exact xr_iret rfl mR_186
  · refine xr_if_lt_f (pc' := 10) rfl hc rfl ?_
    refine xr_iload_n (pc' := 11) rfl rfl rfl ?_
    obtain ⟨q3, hq3, h⟩ := xbind h
    refine xr_callS (pc' := 14) (As := [_]) (rest := _) rfl (by decide) mL_168 rfl (Nat.le_of_ble_eq_true rfl) rfl (Nat.le_of_ble_eq_true rfl) (TfM_isProcessor _ hq3) rfl ?_
    rcases xite h with ⟨hc, h⟩ | ⟨hc, h⟩
    · refine xr_if_ne_f (pc' := 17) rfl hc rfl ?_
      refine xr_iconst (v := -1) (pc' := 18) rfl (by decide) rfl ?_
      obtain ⟨rfl, rfl⟩ := xsome2 h
      exact xr_iret rfl mR_186
    · refine xr_if_ne_t (t := 19) rfl hc ?_
      refine xr_aload_n (pc' := 20) rfl rfl rfl ?_
      refine xr_iload_n (pc' := 21) rfl rfl rfl ?_
      obtain ⟨u4, hu4, h⟩ := xbind h
      obtain ⟨q5, hq5, h⟩ := xbind h
      refine xr_callV (pc' := 24) (C := 8) (As := [_]) (rest := _) rfl hu4 mC_189 mL_189 rfl (Nat.le_of_ble_eq_true rfl) rfl (Nat.le_of_ble_eq_true rfl) (TfM_isFit _ _ hq5) rfl ?_
      rcases xite h with ⟨hc, h⟩ | ⟨hc, h⟩
      · refine xr_if_ne_f (pc' := 27) rfl hc rfl ?_
        refine xr_bipush (v := -5) (pc' := 29) rfl (by decide) rfl ?_
        obtain ⟨rfl, rfl⟩ := xsome2 h
        exact xr_iret rfl mR_186
      · refine xr_if_ne_t (t := 30) rfl hc ?_
        refine xr_aload_n (pc' := 31) rfl rfl rfl ?_
        refine xr_iload_n (pc' := 32) rfl rfl rfl ?_
        refine xr_iload_n (pc' := 33) rfl rfl rfl ?_
        obtain ⟨u6, hu6, h⟩ := xbind h
        obtain ⟨q7, hq7, h⟩ := xbind h
        refine xr_callV (pc' := 36) (C := 8) (As := [_, _]) (rest := _) rfl hu6 mC_191 mL_191 rfl (Nat.le_of_ble_eq_true rfl) rfl (Nat.le_of_ble_eq_true rfl) (TfM_gives _ _ _ hq7) rfl ?_
        refine xr_aload_n (pc' := 37) rfl rfl rfl ?_
        refine xr_aload_n (pc' := 38) rfl rfl rfl ?_
        refine xr_iload_n (pc' := 39) rfl rfl rfl ?_
        obtain ⟨u8, hu8, h⟩ := xbind h
        obtain ⟨q9, hq9, h⟩ := xbind h
        refine xr_callV (pc' := 42) (C := 8) (As := [_]) (rest := _) rfl hu8 mC_190 mL_190 rfl (Nat.le_of_ble_eq_true rfl) rfl (Nat.le_of_ble_eq_true rfl) (TfM_cacheOf _ _ hq9) rfl ?_
        obtain ⟨u10, hu10, h⟩ := xbind h
        obtain ⟨q11, hq11, h⟩ := xbind h
        refine xr_callV (pc' := 45) (C := 8) (As := [_]) (rest := _) rfl hu10 mC_197 mL_197 rfl (Nat.le_of_ble_eq_true rfl) rfl (Nat.le_of_ble_eq_true rfl) (TfM_manyHeld _ _ hq11) rfl ?_
        obtain ⟨rfl, rfl⟩ := xsome2 h
        exact xr_iret rfl mR_186
-- 198: MagazineDepotModel.write(II)I
def fM_write (M : xMem) (this : xId) (a0 : Int32) (a1 : Int32) : Option (Int32 × xMem) :=
  (xob M (some this) 8).bind fun u1 =>
  (fM_liveAt M u1 a0).bind fun q2 =>
  if 0 ≤ q2.1 then (
    (xgR q2.2 (some this) 8 19).bind fun v3 =>
    (xuI q2.2 v3 q2.1 a1).bind fun M4 =>
    some ((1 : Int32), M4))
  else
  some ((-1 : Int32), q2.2)
set_option maxRecDepth 20000 in
theorem TfM_write {M M' : xMem} {r : Int32} (this : xId) (a0 : Int32) (a1 : Int32) (h : fM_write M this a0 a1 = some (r, M')) : xrun none 3 198 0 ([some (.inr (.inr (some this))), some (.inl a0), some (.inl a1), none]) ([]) M (some (.inl r), M') := by
  unfold fM_write at h
  refine xr_aload_n (pc' := 1) rfl rfl rfl ?_
  refine xr_iload_n (pc' := 2) rfl rfl rfl ?_
  obtain ⟨u1, hu1, h⟩ := xbind h
  obtain ⟨q2, hq2, h⟩ := xbind h
  refine xr_callV (pc' := 5) (C := 8) (As := [_]) (rest := _) rfl hu1 mC_187 mL_187 rfl (Nat.le_of_ble_eq_true rfl) rfl (Nat.le_of_ble_eq_true rfl) (TfM_liveAt _ _ hq2) rfl ?_
  refine xr_istore_n (pc' := 6) rfl rfl rfl ?_
  refine xr_iload_n (pc' := 7) rfl rfl rfl ?_
  rcases xite h with ⟨hc, h⟩ | ⟨hc, h⟩
  · refine xr_if_ge_t (t := 12) rfl hc ?_
    refine xr_aload_n (pc' := 13) rfl rfl rfl ?_
    obtain ⟨v3, hv3, h⟩ := xbind h
    refine xr_getR (pc' := 16) rfl (by decide) hv3 rfl ?_
    refine xr_iload_n (pc' := 17) rfl rfl rfl ?_
    refine xr_iload_n (pc' := 18) rfl rfl rfl ?_
    obtain ⟨M4, hM4, h⟩ := xbind h
    refine xr_uI (pc' := 19) rfl hM4 rfl ?_
    refine xr_iconst (v := 1) (pc' := 20) rfl (by decide) rfl ?_
    obtain ⟨rfl, rfl⟩ := xsome2 h
    exact xr_iret rfl mR_198
  · refine xr_if_ge_f (pc' := 10) rfl hc rfl ?_
    refine xr_iconst (v := -1) (pc' := 11) rfl (by decide) rfl ?_
    obtain ⟨rfl, rfl⟩ := xsome2 h
    exact xr_iret rfl mR_198
-- 199: MagazineDepotModel.word(I)J
def fM_word_19  (M : xMem)   : Option (Int64 × xMem) :=
  some ((-9223372036854775808 : Int64), M)
set_option maxRecDepth 20000 in
theorem TfM_word_19 {M' : xMem} {r : Int64}  (M : xMem)   (o0 : Option xId) (o1 : Int32) (o2 : Int32) (h : fM_word_19  M   = some (r, M')) : xrun none 2 199 19 ([some (.inr (.inr o0)), some (.inl o1), some (.inl o2)]) ([]) M (some (.inr (.inl r)), M') := by
  unfold fM_word_19 at h
  refine xr_ldc2_w (v := -9223372036854775808) (pc' := 22) rfl (by decide) rfl ?_
  refine xr_goto (t := 32) rfl ?_
  obtain ⟨rfl, rfl⟩ := xsome2 h
  exact xr_lret rfl mR_199
def fM_word (M : xMem) (this : xId) (a0 : Int32) : Option (Int64 × xMem) :=
  (xob M (some this) 8).bind fun u1 =>
  (fM_beginsAt M u1 a0).bind fun q2 =>
  if q2.1 < 0 then (
    fM_word_19  q2.2  )
  else
  (xgR q2.2 (some this) 8 18).bind fun v3 =>
  (xaI q2.2 v3 q2.1).bind fun v4 =>
  if v4 = 0 then (
    fM_word_19  q2.2  )
  else
  (xgR q2.2 (some this) 8 19).bind fun v5 =>
  (xaI q2.2 v5 q2.1).bind fun v6 =>
  some ((Int32.toInt64 v6), q2.2)
set_option maxRecDepth 20000 in
theorem TfM_word {M M' : xMem} {r : Int64} (this : xId) (a0 : Int32) (h : fM_word M this a0 = some (r, M')) : xrun none 2 199 0 ([some (.inr (.inr (some this))), some (.inl a0), none]) ([]) M (some (.inr (.inl r)), M') := by
  unfold fM_word at h
  refine xr_aload_n (pc' := 1) rfl rfl rfl ?_
  refine xr_iload_n (pc' := 2) rfl rfl rfl ?_
  obtain ⟨u1, hu1, h⟩ := xbind h
  obtain ⟨q2, hq2, h⟩ := xbind h
  refine xr_callV (pc' := 5) (C := 8) (As := [_]) (rest := _) rfl hu1 mC_188 mL_188 rfl (Nat.le_of_ble_eq_true rfl) rfl (Nat.le_of_ble_eq_true rfl) (TfM_beginsAt _ _ hq2) rfl ?_
  refine xr_istore_n (pc' := 6) rfl rfl rfl ?_
  refine xr_iload_n (pc' := 7) rfl rfl rfl ?_
  rcases xite h with ⟨hc, h⟩ | ⟨hc, h⟩
  · refine xr_if_lt_t (t := 19) rfl hc ?_
    exact TfM_word_19   q2.2   _ _ _ h
  · refine xr_if_lt_f (pc' := 10) rfl hc rfl ?_
    refine xr_aload_n (pc' := 11) rfl rfl rfl ?_
    obtain ⟨v3, hv3, h⟩ := xbind h
    refine xr_getR (pc' := 14) rfl (by decide) hv3 rfl ?_
    refine xr_iload_n (pc' := 15) rfl rfl rfl ?_
    obtain ⟨v4, hv4, h⟩ := xbind h
    refine xr_aI (pc' := 16) rfl hv4 rfl ?_
    rcases xite h with ⟨hc, h⟩ | ⟨hc, h⟩
    · refine xr_if_ne_f (pc' := 19) rfl hc rfl ?_
      exact TfM_word_19   q2.2   _ _ _ h
    · refine xr_if_ne_t (t := 25) rfl hc ?_
      refine xr_aload_n (pc' := 26) rfl rfl rfl ?_
      obtain ⟨v5, hv5, h⟩ := xbind h
      refine xr_getR (pc' := 29) rfl (by decide) hv5 rfl ?_
      refine xr_iload_n (pc' := 30) rfl rfl rfl ?_
      obtain ⟨v6, hv6, h⟩ := xbind h
      refine xr_aI (pc' := 31) rfl hv6 rfl ?_
      refine xr_i2l (pc' := 32) rfl rfl ?_
      obtain ⟨rfl, rfl⟩ := xsome2 h
      exact xr_lret rfl mR_199
-- 201: MagazineDepotModel.holdsBit(II)I
def fM_holdsBit (M : xMem) (this : xId) (a0 : Int32) (a1 : Int32) : Option (Int32 × xMem) :=
  (xob M (some this) 8).bind fun u1 =>
  (fM_liveAt M u1 a0).bind fun q2 =>
  if 0 ≤ q2.1 then (
    (xgR q2.2 (some this) 8 0).bind fun v3 =>
    (xob q2.2 (some this) 8).bind fun u4 =>
    (fM_cacheOf q2.2 u4 q2.1).bind fun q5 =>
    (xaI q5.2 v3 q5.1).bind fun v6 =>
    if (4 : Int32) ≤ v6 then (
      (xgR q5.2 (some this) 8 19).bind fun v7 =>
      (xaI q5.2 v7 q2.1).bind fun v8 =>
      if (v8 &&& (1 : Int32)) = a1 then (
        some ((0 : Int32), q5.2))
      else
      (xgR q5.2 (some this) 8 19).bind fun v9 =>
      (xaI q5.2 v9 q2.1).bind fun v10 =>
      (xuI q5.2 v9 q2.1 (v10 ^^^ (1 : Int32))).bind fun M11 =>
      some ((1 : Int32), M11))
    else
    some ((-5 : Int32), q5.2))
  else
  some ((-1 : Int32), q2.2)
set_option maxRecDepth 20000 in
theorem TfM_holdsBit {M M' : xMem} {r : Int32} (this : xId) (a0 : Int32) (a1 : Int32) (h : fM_holdsBit M this a0 a1 = some (r, M')) : xrun none 3 201 0 ([some (.inr (.inr (some this))), some (.inl a0), some (.inl a1), none]) ([]) M (some (.inl r), M') := by
  unfold fM_holdsBit at h
  refine xr_aload_n (pc' := 1) rfl rfl rfl ?_
  refine xr_iload_n (pc' := 2) rfl rfl rfl ?_
  obtain ⟨u1, hu1, h⟩ := xbind h
  obtain ⟨q2, hq2, h⟩ := xbind h
  refine xr_callV (pc' := 5) (C := 8) (As := [_]) (rest := _) rfl hu1 mC_187 mL_187 rfl (Nat.le_of_ble_eq_true rfl) rfl (Nat.le_of_ble_eq_true rfl) (TfM_liveAt _ _ hq2) rfl ?_
  refine xr_istore_n (pc' := 6) rfl rfl rfl ?_
  refine xr_iload_n (pc' := 7) rfl rfl rfl ?_
  rcases xite h with ⟨hc, h⟩ | ⟨hc, h⟩
  · refine xr_if_ge_t (t := 12) rfl hc ?_
    refine xr_aload_n (pc' := 13) rfl rfl rfl ?_
    obtain ⟨v3, hv3, h⟩ := xbind h
    refine xr_getR (pc' := 16) rfl (by decide) hv3 rfl ?_
    refine xr_aload_n (pc' := 17) rfl rfl rfl ?_
    refine xr_iload_n (pc' := 18) rfl rfl rfl ?_
    obtain ⟨u4, hu4, h⟩ := xbind h
    obtain ⟨q5, hq5, h⟩ := xbind h
    refine xr_callV (pc' := 21) (C := 8) (As := [_]) (rest := _) rfl hu4 mC_190 mL_190 rfl (Nat.le_of_ble_eq_true rfl) rfl (Nat.le_of_ble_eq_true rfl) (TfM_cacheOf _ _ hq5) rfl ?_
    obtain ⟨v6, hv6, h⟩ := xbind h
    refine xr_aI (pc' := 22) rfl hv6 rfl ?_
    refine xr_iconst (v := 4) (pc' := 23) rfl (by decide) rfl ?_
    rcases xite h with ⟨hc, h⟩ | ⟨hc, h⟩
    · refine xr_icmp_ge_t (t := 29) rfl hc ?_
      refine xr_aload_n (pc' := 30) rfl rfl rfl ?_
      obtain ⟨v7, hv7, h⟩ := xbind h
      refine xr_getR (pc' := 33) rfl (by decide) hv7 rfl ?_
      refine xr_iload_n (pc' := 34) rfl rfl rfl ?_
      obtain ⟨v8, hv8, h⟩ := xbind h
      refine xr_aI (pc' := 35) rfl hv8 rfl ?_
      refine xr_iconst (v := 1) (pc' := 36) rfl (by decide) rfl ?_
      refine xr_iand (pc' := 37) rfl rfl ?_
      refine xr_iload_n (pc' := 38) rfl rfl rfl ?_
      rcases xite h with ⟨hc, h⟩ | ⟨hc, h⟩
      · refine xr_icmp_ne_f (pc' := 41) rfl hc rfl ?_
        refine xr_iconst (v := 0) (pc' := 42) rfl (by decide) rfl ?_
        obtain ⟨rfl, rfl⟩ := xsome2 h
        exact xr_iret rfl mR_201
      · refine xr_icmp_ne_t (t := 43) rfl hc ?_
        refine xr_aload_n (pc' := 44) rfl rfl rfl ?_
        obtain ⟨v9, hv9, h⟩ := xbind h
        refine xr_getR (pc' := 47) rfl (by decide) hv9 rfl ?_
        refine xr_iload_n (pc' := 48) rfl rfl rfl ?_
        refine xr_dup2_ia (pc' := 49) rfl rfl ?_
        obtain ⟨v10, hv10, h⟩ := xbind h
        refine xr_aI (pc' := 50) rfl hv10 rfl ?_
        refine xr_iconst (v := 1) (pc' := 51) rfl (by decide) rfl ?_
        refine xr_ixor (pc' := 52) rfl rfl ?_
        obtain ⟨M11, hM11, h⟩ := xbind h
        refine xr_uI (pc' := 53) rfl hM11 rfl ?_
        refine xr_iconst (v := 1) (pc' := 54) rfl (by decide) rfl ?_
        obtain ⟨rfl, rfl⟩ := xsome2 h
        exact xr_iret rfl mR_201
    · refine xr_icmp_ge_f (pc' := 26) rfl hc rfl ?_
      refine xr_bipush (v := -5) (pc' := 28) rfl (by decide) rfl ?_
      obtain ⟨rfl, rfl⟩ := xsome2 h
      exact xr_iret rfl mR_201
  · refine xr_if_ge_f (pc' := 10) rfl hc rfl ?_
    refine xr_iconst (v := -1) (pc' := 11) rfl (by decide) rfl ?_
    obtain ⟨rfl, rfl⟩ := xsome2 h
    exact xr_iret rfl mR_201
-- 200: MagazineDepotModel.hold(I)I
def fM_hold (M : xMem) (this : xId) (a0 : Int32) : Option (Int32 × xMem) :=
  (xob M (some this) 8).bind fun u1 =>
  (fM_holdsBit M u1 a0 (1 : Int32)).bind fun q2 =>
  some (q2.1, q2.2)
set_option maxRecDepth 20000 in
theorem TfM_hold {M M' : xMem} {r : Int32} (this : xId) (a0 : Int32) (h : fM_hold M this a0 = some (r, M')) : xrun none 4 200 0 ([some (.inr (.inr (some this))), some (.inl a0)]) ([]) M (some (.inl r), M') := by
  unfold fM_hold at h
  refine xr_aload_n (pc' := 1) rfl rfl rfl ?_
  refine xr_iload_n (pc' := 2) rfl rfl rfl ?_
  refine xr_iconst (v := 1) (pc' := 3) rfl (by decide) rfl ?_
  obtain ⟨u1, hu1, h⟩ := xbind h
  obtain ⟨q2, hq2, h⟩ := xbind h
  refine xr_callV (pc' := 6) (C := 8) (As := [_, _]) (rest := _) rfl hu1 mC_201 mL_201 rfl (Nat.le_of_ble_eq_true rfl) rfl (Nat.le_of_ble_eq_true rfl) (TfM_holdsBit _ _ _ hq2) rfl ?_
  obtain ⟨rfl, rfl⟩ := xsome2 h
  exact xr_iret rfl mR_200
-- 202: MagazineDepotModel.letGo(I)I
def fM_letGo (M : xMem) (this : xId) (a0 : Int32) : Option (Int32 × xMem) :=
  (xob M (some this) 8).bind fun u1 =>
  (fM_holdsBit M u1 a0 (0 : Int32)).bind fun q2 =>
  some (q2.1, q2.2)
set_option maxRecDepth 20000 in
theorem TfM_letGo {M M' : xMem} {r : Int32} (this : xId) (a0 : Int32) (h : fM_letGo M this a0 = some (r, M')) : xrun none 4 202 0 ([some (.inr (.inr (some this))), some (.inl a0)]) ([]) M (some (.inl r), M') := by
  unfold fM_letGo at h
  refine xr_aload_n (pc' := 1) rfl rfl rfl ?_
  refine xr_iload_n (pc' := 2) rfl rfl rfl ?_
  refine xr_iconst (v := 0) (pc' := 3) rfl (by decide) rfl ?_
  obtain ⟨u1, hu1, h⟩ := xbind h
  obtain ⟨q2, hq2, h⟩ := xbind h
  refine xr_callV (pc' := 6) (C := 8) (As := [_, _]) (rest := _) rfl hu1 mC_201 mL_201 rfl (Nat.le_of_ble_eq_true rfl) rfl (Nat.le_of_ble_eq_true rfl) (TfM_holdsBit _ _ _ hq2) rfl ?_
  obtain ⟨rfl, rfl⟩ := xsome2 h
  exact xr_iret rfl mR_202
-- 205: MagazineDepotModel.manyMade()I
def fM_manyMade_4  : Nat → xMem → Option xId → Int32 → Int32 → Option (Int32 × xMem)
  | 0, _, _, _, _ => none
  | n + 1, M, l0, l1, l2 =>
    if (24 : Int32) ≤ l2 then (
      some (l1, M))
    else
    (xgR M l0 8 22).bind fun v1 =>
    (xaI M v1 l2).bind fun v2 =>
    fM_manyMade_4  n M l0 (l1 + v2) (l2 + 1)
set_option maxRecDepth 20000 in
theorem TfM_manyMade_4 {M' : xMem} {r : Int32}  : ∀ (n : Nat) (M : xMem) (l0 : Option xId) (l1 : Int32) (l2 : Int32) , fM_manyMade_4  n M l0 l1 l2 = some (r, M') → xrun none 0 205 4 ([some (.inr (.inr l0)), some (.inl l1), some (.inl l2)]) ([]) M (some (.inl r), M') := by
  intro n
  induction n with
  | zero => intro M l0 l1 l2  h; unfold fM_manyMade_4 at h; cases h
  | succ n ih =>
    intro M l0 l1 l2  h
    unfold fM_manyMade_4 at h
    refine xr_iload_n (pc' := 5) rfl rfl rfl ?_
    refine xr_bipush (v := 24) (pc' := 7) rfl (by decide) rfl ?_
    rcases xite h with ⟨hc, h⟩ | ⟨hc, h⟩
    · refine xr_icmp_ge_t (t := 25) rfl hc ?_
      refine xr_iload_n (pc' := 26) rfl rfl rfl ?_
      obtain ⟨rfl, rfl⟩ := xsome2 h
      exact xr_iret rfl mR_205
    · refine xr_icmp_ge_f (pc' := 10) rfl hc rfl ?_
      refine xr_iload_n (pc' := 11) rfl rfl rfl ?_
      refine xr_aload_n (pc' := 12) rfl rfl rfl ?_
      obtain ⟨v1, hv1, h⟩ := xbind h
      refine xr_getR (pc' := 15) rfl (by decide) hv1 rfl ?_
      refine xr_iload_n (pc' := 16) rfl rfl rfl ?_
      obtain ⟨v2, hv2, h⟩ := xbind h
      refine xr_aI (pc' := 17) rfl hv2 rfl ?_
      refine xr_iadd (pc' := 18) rfl rfl ?_
      refine xr_istore_n (pc' := 19) rfl rfl rfl ?_
      refine xr_iinc (c := 1) (pc' := 22) rfl (by decide) rfl rfl rfl ?_
      refine xr_goto (t := 4) rfl ?_
      exact ih M _ _ _  h
def fM_manyMade (M : xMem) (this : xId) : Option (Int32 × xMem) :=
  fM_manyMade_4  xF M (some this) (0 : Int32) (0 : Int32)
set_option maxRecDepth 20000 in
theorem TfM_manyMade {M M' : xMem} {r : Int32} (this : xId) (h : fM_manyMade M this = some (r, M')) : xrun none 0 205 0 ([some (.inr (.inr (some this))), none, none]) ([]) M (some (.inl r), M') := by
  unfold fM_manyMade at h
  refine xr_iconst (v := 0) (pc' := 1) rfl (by decide) rfl ?_
  refine xr_istore_n (pc' := 2) rfl rfl rfl ?_
  refine xr_iconst (v := 0) (pc' := 3) rfl (by decide) rfl ?_
  refine xr_istore_n (pc' := 4) rfl rfl rfl ?_
  exact TfM_manyMade_4   xF M _ _ _  h
-- 207: MagazineDepotModel.empties(I)I
def fM_empties_15  : Nat → xMem → Option xId → Int32 → Int32 → Int32 → Option (Int32 × xMem)
  | 0, _, _, _, _, _ => none
  | n + 1, M, l0, l1, l2, l3 =>
    if l2 ≤ l3 then (
      (xgR M l0 8 23).bind fun v3 =>
      (xuI M v3 l1 (0 : Int32)).bind fun M4 =>
      (xgR M4 l0 8 22).bind fun v5 =>
      (xuI M4 v5 l1 (0 : Int32)).bind fun M6 =>
      some (l2, M6))
    else
    (xgR M l0 8 24).bind fun v7 =>
    (xaI M v7 (((8 : Int32) * l1) + l3)).bind fun v8 =>
    (xob M l0 8).bind fun u9 =>
    (fM_ends M u9 v8).bind fun q10 =>
    fM_empties_15  n q10 l0 l1 l2 (l3 + 1)
set_option maxRecDepth 20000 in
theorem TfM_empties_15 {M' : xMem} {r : Int32}  : ∀ (n : Nat) (M : xMem) (l0 : Option xId) (l1 : Int32) (l2 : Int32) (l3 : Int32) , fM_empties_15  n M l0 l1 l2 l3 = some (r, M') → xrun none 2 207 15 ([some (.inr (.inr l0)), some (.inl l1), some (.inl l2), some (.inl l3)]) ([]) M (some (.inl r), M') := by
  intro n
  induction n with
  | zero => intro M l0 l1 l2 l3  h; unfold fM_empties_15 at h; cases h
  | succ n ih =>
    intro M l0 l1 l2 l3  h
    unfold fM_empties_15 at h
    refine xr_iload_n (pc' := 16) rfl rfl rfl ?_
    refine xr_iload_n (pc' := 17) rfl rfl rfl ?_
    rcases xite h with ⟨hc, h⟩ | ⟨hc, h⟩
    · refine xr_icmp_ge_t (t := 41) rfl hc ?_
      refine xr_aload_n (pc' := 42) rfl rfl rfl ?_
      obtain ⟨v3, hv3, h⟩ := xbind h
      refine xr_getR (pc' := 45) rfl (by decide) hv3 rfl ?_
      refine xr_iload_n (pc' := 46) rfl rfl rfl ?_
      refine xr_iconst (v := 0) (pc' := 47) rfl (by decide) rfl ?_
      obtain ⟨M4, hM4, h⟩ := xbind h
      refine xr_uI (pc' := 48) rfl hM4 rfl ?_
      refine xr_aload_n (pc' := 49) rfl rfl rfl ?_
      obtain ⟨v5, hv5, h⟩ := xbind h
      refine xr_getR (pc' := 52) rfl (by decide) hv5 rfl ?_
      refine xr_iload_n (pc' := 53) rfl rfl rfl ?_
      refine xr_iconst (v := 0) (pc' := 54) rfl (by decide) rfl ?_
      obtain ⟨M6, hM6, h⟩ := xbind h
      refine xr_uI (pc' := 55) rfl hM6 rfl ?_
      refine xr_iload_n (pc' := 56) rfl rfl rfl ?_
      obtain ⟨rfl, rfl⟩ := xsome2 h
      exact xr_iret rfl mR_207
    · refine xr_icmp_ge_f (pc' := 20) rfl hc rfl ?_
      refine xr_aload_n (pc' := 21) rfl rfl rfl ?_
      refine xr_aload_n (pc' := 22) rfl rfl rfl ?_
      obtain ⟨v7, hv7, h⟩ := xbind h
      refine xr_getR (pc' := 25) rfl (by decide) hv7 rfl ?_
      refine xr_bipush (v := 8) (pc' := 27) rfl (by decide) rfl ?_
      refine xr_iload_n (pc' := 28) rfl rfl rfl ?_
      refine xr_imul (pc' := 29) rfl rfl ?_
      refine xr_iload_n (pc' := 30) rfl rfl rfl ?_
      refine xr_iadd (pc' := 31) rfl rfl ?_
      obtain ⟨v8, hv8, h⟩ := xbind h
      refine xr_aI (pc' := 32) rfl hv8 rfl ?_
      obtain ⟨u9, hu9, h⟩ := xbind h
      obtain ⟨q10, hq10, h⟩ := xbind h
      refine xr_callV (pc' := 35) (C := 8) (As := [_]) (rest := _) rfl hu9 mC_195 mL_195 rfl (Nat.le_of_ble_eq_true rfl) rfl (Nat.le_of_ble_eq_true rfl) (TfM_ends _ _ hq10) rfl ?_
      refine xr_iinc (c := 1) (pc' := 38) rfl (by decide) rfl rfl rfl ?_
      refine xr_goto (t := 15) rfl ?_
      exact ih q10 _ _ _ _  h
def fM_empties (M : xMem) (this : xId) (a0 : Int32) : Option (Int32 × xMem) :=
  if 0 ≤ a0 then (
    (xgR M (some this) 8 23).bind fun v1 =>
    (xaI M v1 a0).bind fun v2 =>
    fM_empties_15  xF M (some this) a0 v2 (0 : Int32))
  else
  some ((0 : Int32), M)
set_option maxRecDepth 20000 in
theorem TfM_empties {M M' : xMem} {r : Int32} (this : xId) (a0 : Int32) (h : fM_empties M this a0 = some (r, M')) : xrun none 2 207 0 ([some (.inr (.inr (some this))), some (.inl a0), none, none]) ([]) M (some (.inl r), M') := by
  unfold fM_empties at h
  refine xr_iload_n (pc' := 1) rfl rfl rfl ?_
  rcases xite h with ⟨hc, h⟩ | ⟨hc, h⟩
  · refine xr_if_ge_t (t := 6) rfl hc ?_
    refine xr_aload_n (pc' := 7) rfl rfl rfl ?_
    obtain ⟨v1, hv1, h⟩ := xbind h
    refine xr_getR (pc' := 10) rfl (by decide) hv1 rfl ?_
    refine xr_iload_n (pc' := 11) rfl rfl rfl ?_
    obtain ⟨v2, hv2, h⟩ := xbind h
    refine xr_aI (pc' := 12) rfl hv2 rfl ?_
    refine xr_istore_n (pc' := 13) rfl rfl rfl ?_
    refine xr_iconst (v := 0) (pc' := 14) rfl (by decide) rfl ?_
    refine xr_istore_n (pc' := 15) rfl rfl rfl ?_
    exact TfM_empties_15   xF M _ _ _ _  h
  · refine xr_if_ge_f (pc' := 4) rfl hc rfl ?_
    refine xr_iconst (v := 0) (pc' := 5) rfl (by decide) rfl ?_
    obtain ⟨rfl, rfl⟩ := xsome2 h
    exact xr_iret rfl mR_207
-- 206: MagazineDepotModel.unmakesFirst([I[III)I
def fM_unmakesFirst_34  : Nat → xMem → Option xId → Option xId → Int32 → Int32 → Int32 → Option (Int32 × xMem)
  | 0, _, _, _, _, _, _ => none
  | n + 1, M, l1, l2, l3, l4, l5 =>
    (xaI M l2 l3).bind fun v4 =>
    if v4 ≤ l5 then (
      (xaI M l2 l3).bind fun v5 =>
      (xuI M l2 l3 (v5 - l4)).bind fun M6 =>
      some (l4, M6))
    else
    (xaI M l1 (((24 : Int32) * l3) + l5)).bind fun v7 =>
    (xuI M l1 ((((24 : Int32) * l3) + l5) - l4) v7).bind fun M8 =>
    fM_unmakesFirst_34  n M8 l1 l2 l3 l4 (l5 + 1)
set_option maxRecDepth 20000 in
theorem TfM_unmakesFirst_34 {M' : xMem} {r : Int32}  : ∀ (n : Nat) (M : xMem) (l1 : Option xId) (l2 : Option xId) (l3 : Int32) (l4 : Int32) (l5 : Int32) (o0 : Option xId), fM_unmakesFirst_34  n M l1 l2 l3 l4 l5 = some (r, M') → xrun none 3 206 34 ([some (.inr (.inr o0)), some (.inr (.inr l1)), some (.inr (.inr l2)), some (.inl l3), some (.inl l4), some (.inl l5)]) ([]) M (some (.inl r), M') := by
  intro n
  induction n with
  | zero => intro M l1 l2 l3 l4 l5 o0 h; unfold fM_unmakesFirst_34 at h; cases h
  | succ n ih =>
    intro M l1 l2 l3 l4 l5 o0 h
    unfold fM_unmakesFirst_34 at h
    refine xr_iload (pc' := 36) rfl rfl rfl ?_
    refine xr_aload_n (pc' := 37) rfl rfl rfl ?_
    refine xr_iload_n (pc' := 38) rfl rfl rfl ?_
    obtain ⟨v4, hv4, h⟩ := xbind h
    refine xr_aI (pc' := 39) rfl hv4 rfl ?_
    rcases xite h with ⟨hc, h⟩ | ⟨hc, h⟩
    · refine xr_icmp_ge_t (t := 69) rfl hc ?_
      refine xr_aload_n (pc' := 70) rfl rfl rfl ?_
      refine xr_iload_n (pc' := 71) rfl rfl rfl ?_
      refine xr_dup2_ia (pc' := 72) rfl rfl ?_
      obtain ⟨v5, hv5, h⟩ := xbind h
      refine xr_aI (pc' := 73) rfl hv5 rfl ?_
      refine xr_iload (pc' := 75) rfl rfl rfl ?_
      refine xr_isub (pc' := 76) rfl rfl ?_
      obtain ⟨M6, hM6, h⟩ := xbind h
      refine xr_uI (pc' := 77) rfl hM6 rfl ?_
      refine xr_iload (pc' := 79) rfl rfl rfl ?_
      obtain ⟨rfl, rfl⟩ := xsome2 h
      exact xr_iret rfl mR_206
    · refine xr_icmp_ge_f (pc' := 42) rfl hc rfl ?_
      refine xr_aload_n (pc' := 43) rfl rfl rfl ?_
      refine xr_bipush (v := 24) (pc' := 45) rfl (by decide) rfl ?_
      refine xr_iload_n (pc' := 46) rfl rfl rfl ?_
      refine xr_imul (pc' := 47) rfl rfl ?_
      refine xr_iload (pc' := 49) rfl rfl rfl ?_
      refine xr_iadd (pc' := 50) rfl rfl ?_
      refine xr_iload (pc' := 52) rfl rfl rfl ?_
      refine xr_isub (pc' := 53) rfl rfl ?_
      refine xr_aload_n (pc' := 54) rfl rfl rfl ?_
      refine xr_bipush (v := 24) (pc' := 56) rfl (by decide) rfl ?_
      refine xr_iload_n (pc' := 57) rfl rfl rfl ?_
      refine xr_imul (pc' := 58) rfl rfl ?_
      refine xr_iload (pc' := 60) rfl rfl rfl ?_
      refine xr_iadd (pc' := 61) rfl rfl ?_
      obtain ⟨v7, hv7, h⟩ := xbind h
      refine xr_aI (pc' := 62) rfl hv7 rfl ?_
      obtain ⟨M8, hM8, h⟩ := xbind h
      refine xr_uI (pc' := 63) rfl hM8 rfl ?_
      refine xr_iinc (c := 1) (pc' := 66) rfl (by decide) rfl rfl rfl ?_
      refine xr_goto (t := 34) rfl ?_
      exact ih M8 _ _ _ _ _ _ h
def fM_unmakesFirst_3  : Nat → xMem → Option xId → Option xId → Option xId → Int32 → Int32 → Int32 → Option (Int32 × xMem)
  | 0, _, _, _, _, _, _, _ => none
  | n + 1, M, l0, l1, l2, l3, l4, l5 =>
    if l4 ≤ l5 then (
      fM_unmakesFirst_34  xF M l1 l2 l3 l4 l4)
    else
    (xaI M l1 (((24 : Int32) * l3) + l5)).bind fun v1 =>
    (xob M l0 8).bind fun u2 =>
    (fM_empties M u2 v1).bind fun q3 =>
    fM_unmakesFirst_3  n q3.2 l0 l1 l2 l3 l4 (l5 + 1)
set_option maxRecDepth 20000 in
theorem TfM_unmakesFirst_3 {M' : xMem} {r : Int32}  : ∀ (n : Nat) (M : xMem) (l0 : Option xId) (l1 : Option xId) (l2 : Option xId) (l3 : Int32) (l4 : Int32) (l5 : Int32) , fM_unmakesFirst_3  n M l0 l1 l2 l3 l4 l5 = some (r, M') → xrun none 3 206 3 ([some (.inr (.inr l0)), some (.inr (.inr l1)), some (.inr (.inr l2)), some (.inl l3), some (.inl l4), some (.inl l5)]) ([]) M (some (.inl r), M') := by
  intro n
  induction n with
  | zero => intro M l0 l1 l2 l3 l4 l5  h; unfold fM_unmakesFirst_3 at h; cases h
  | succ n ih =>
    intro M l0 l1 l2 l3 l4 l5  h
    unfold fM_unmakesFirst_3 at h
    refine xr_iload (pc' := 5) rfl rfl rfl ?_
    refine xr_iload (pc' := 7) rfl rfl rfl ?_
    rcases xite h with ⟨hc, h⟩ | ⟨hc, h⟩
    · refine xr_icmp_ge_t (t := 30) rfl hc ?_
      refine xr_iload (pc' := 32) rfl rfl rfl ?_
      refine xr_istore (pc' := 34) rfl rfl rfl ?_
      exact TfM_unmakesFirst_34   xF M _ _ _ _ _ _ h
    · refine xr_icmp_ge_f (pc' := 10) rfl hc rfl ?_
      refine xr_aload_n (pc' := 11) rfl rfl rfl ?_
      refine xr_aload_n (pc' := 12) rfl rfl rfl ?_
      refine xr_bipush (v := 24) (pc' := 14) rfl (by decide) rfl ?_
      refine xr_iload_n (pc' := 15) rfl rfl rfl ?_
      refine xr_imul (pc' := 16) rfl rfl ?_
      refine xr_iload (pc' := 18) rfl rfl rfl ?_
      refine xr_iadd (pc' := 19) rfl rfl ?_
      obtain ⟨v1, hv1, h⟩ := xbind h
      refine xr_aI (pc' := 20) rfl hv1 rfl ?_
      obtain ⟨u2, hu2, h⟩ := xbind h
      obtain ⟨q3, hq3, h⟩ := xbind h
      refine xr_callV (pc' := 23) (C := 8) (As := [_]) (rest := _) rfl hu2 mC_207 mL_207 rfl (Nat.le_of_ble_eq_true rfl) rfl (Nat.le_of_ble_eq_true rfl) (TfM_empties _ _ hq3) rfl ?_
      refine xr_pop_i (pc' := 24) rfl rfl ?_
      refine xr_iinc (c := 1) (pc' := 27) rfl (by decide) rfl rfl rfl ?_
      refine xr_goto (t := 3) rfl ?_
      exact ih q3.2 _ _ _ _ _ _  h
def fM_unmakesFirst (M : xMem) (this : xId) (a0 : Option xId) (a1 : Option xId) (a2 : Int32) (a3 : Int32) : Option (Int32 × xMem) :=
  fM_unmakesFirst_3  xF M (some this) a0 a1 a2 a3 (0 : Int32)
set_option maxRecDepth 20000 in
theorem TfM_unmakesFirst {M M' : xMem} {r : Int32} (this : xId) (a0 : Option xId) (a1 : Option xId) (a2 : Int32) (a3 : Int32) (h : fM_unmakesFirst M this a0 a1 a2 a3 = some (r, M')) : xrun none 3 206 0 ([some (.inr (.inr (some this))), some (.inr (.inr a0)), some (.inr (.inr a1)), some (.inl a2), some (.inl a3), none]) ([]) M (some (.inl r), M') := by
  unfold fM_unmakesFirst at h
  refine xr_iconst (v := 0) (pc' := 1) rfl (by decide) rfl ?_
  refine xr_istore (pc' := 3) rfl rfl rfl ?_
  exact TfM_unmakesFirst_3   xF M _ _ _ _ _ _  h
-- 210: MagazineDepotModel.drains(I)I
def fM_drains (M : xMem) (this : xId) (a0 : Int32) : Option (Int32 × xMem) :=
  (xgR M (some this) 8 20).bind fun v1 =>
  (xaI M v1 a0).bind fun v2 =>
  (xob M (some this) 8).bind fun u3 =>
  (fM_empties M u3 v2).bind fun q4 =>
  (xgR q4.2 (some this) 8 21).bind fun v5 =>
  (xaI q4.2 v5 a0).bind fun v6 =>
  (xob q4.2 (some this) 8).bind fun u7 =>
  (fM_empties q4.2 u7 v6).bind fun q8 =>
  (xgR q8.2 (some this) 8 20).bind fun v9 =>
  (xuI q8.2 v9 a0 (-9 : Int32)).bind fun M10 =>
  (xgR M10 (some this) 8 21).bind fun v11 =>
  (xuI M10 v11 a0 (-9 : Int32)).bind fun M12 =>
  some ((q4.1 + q8.1), M12)
set_option maxRecDepth 20000 in
theorem TfM_drains {M M' : xMem} {r : Int32} (this : xId) (a0 : Int32) (h : fM_drains M this a0 = some (r, M')) : xrun none 3 210 0 ([some (.inr (.inr (some this))), some (.inl a0), none]) ([]) M (some (.inl r), M') := by
  unfold fM_drains at h
  refine xr_aload_n (pc' := 1) rfl rfl rfl ?_
  refine xr_aload_n (pc' := 2) rfl rfl rfl ?_
  obtain ⟨v1, hv1, h⟩ := xbind h
  refine xr_getR (pc' := 5) rfl (by decide) hv1 rfl ?_
  refine xr_iload_n (pc' := 6) rfl rfl rfl ?_
  obtain ⟨v2, hv2, h⟩ := xbind h
  refine xr_aI (pc' := 7) rfl hv2 rfl ?_
  obtain ⟨u3, hu3, h⟩ := xbind h
  obtain ⟨q4, hq4, h⟩ := xbind h
  refine xr_callV (pc' := 10) (C := 8) (As := [_]) (rest := _) rfl hu3 mC_207 mL_207 rfl (Nat.le_of_ble_eq_true rfl) rfl (Nat.le_of_ble_eq_true rfl) (TfM_empties _ _ hq4) rfl ?_
  refine xr_aload_n (pc' := 11) rfl rfl rfl ?_
  refine xr_aload_n (pc' := 12) rfl rfl rfl ?_
  obtain ⟨v5, hv5, h⟩ := xbind h
  refine xr_getR (pc' := 15) rfl (by decide) hv5 rfl ?_
  refine xr_iload_n (pc' := 16) rfl rfl rfl ?_
  obtain ⟨v6, hv6, h⟩ := xbind h
  refine xr_aI (pc' := 17) rfl hv6 rfl ?_
  obtain ⟨u7, hu7, h⟩ := xbind h
  obtain ⟨q8, hq8, h⟩ := xbind h
  refine xr_callV (pc' := 20) (C := 8) (As := [_]) (rest := _) rfl hu7 mC_207 mL_207 rfl (Nat.le_of_ble_eq_true rfl) rfl (Nat.le_of_ble_eq_true rfl) (TfM_empties _ _ hq8) rfl ?_
  refine xr_iadd (pc' := 21) rfl rfl ?_
  refine xr_istore_n (pc' := 22) rfl rfl rfl ?_
  refine xr_aload_n (pc' := 23) rfl rfl rfl ?_
  obtain ⟨v9, hv9, h⟩ := xbind h
  refine xr_getR (pc' := 26) rfl (by decide) hv9 rfl ?_
  refine xr_iload_n (pc' := 27) rfl rfl rfl ?_
  refine xr_bipush (v := -9) (pc' := 29) rfl (by decide) rfl ?_
  obtain ⟨M10, hM10, h⟩ := xbind h
  refine xr_uI (pc' := 30) rfl hM10 rfl ?_
  refine xr_aload_n (pc' := 31) rfl rfl rfl ?_
  obtain ⟨v11, hv11, h⟩ := xbind h
  refine xr_getR (pc' := 34) rfl (by decide) hv11 rfl ?_
  refine xr_iload_n (pc' := 35) rfl rfl rfl ?_
  refine xr_bipush (v := -9) (pc' := 37) rfl (by decide) rfl ?_
  obtain ⟨M12, hM12, h⟩ := xbind h
  refine xr_uI (pc' := 38) rfl hM12 rfl ?_
  refine xr_iload_n (pc' := 39) rfl rfl rfl ?_
  obtain ⟨rfl, rfl⟩ := xsome2 h
  exact xr_iret rfl mR_210
-- 209: MagazineDepotModel.unmakesAll(I)V
def fM_unmakesAll_2  : Nat → xMem → Option xId → Int32 → Int32 → Option xMem
  | 0, _, _, _, _ => none
  | n + 1, M, l0, l1, l2 =>
    if (4 : Int32) ≤ l2 then (
      (xgR M l0 8 25).bind fun v1 =>
      (xgR M l0 8 26).bind fun v2 =>
      (xgR M l0 8 26).bind fun v3 =>
      (xaI M v3 l1).bind fun v4 =>
      (xob M l0 8).bind fun u5 =>
      (fM_unmakesFirst M u5 v1 v2 l1 v4).bind fun q6 =>
      (xgR q6.2 l0 8 27).bind fun v7 =>
      (xgR q6.2 l0 8 28).bind fun v8 =>
      (xgR q6.2 l0 8 28).bind fun v9 =>
      (xaI q6.2 v9 l1).bind fun v10 =>
      (xob q6.2 l0 8).bind fun u11 =>
      (fM_unmakesFirst q6.2 u11 v7 v8 l1 v10).bind fun q12 =>
      some q12.2)
    else
    (xob M l0 8).bind fun u13 =>
    (fM_drains M u13 (((4 : Int32) * l1) + l2)).bind fun q14 =>
    fM_unmakesAll_2  n q14.2 l0 l1 (l2 + 1)
set_option maxRecDepth 20000 in
theorem TfM_unmakesAll_2 {M' : xMem}  : ∀ (n : Nat) (M : xMem) (l0 : Option xId) (l1 : Int32) (l2 : Int32) , fM_unmakesAll_2  n M l0 l1 l2 = some M' → xrun none 4 209 2 ([some (.inr (.inr l0)), some (.inl l1), some (.inl l2)]) ([]) M (none, M') := by
  intro n
  induction n with
  | zero => intro M l0 l1 l2  h; unfold fM_unmakesAll_2 at h; cases h
  | succ n ih =>
    intro M l0 l1 l2  h
    unfold fM_unmakesAll_2 at h
    refine xr_iload_n (pc' := 3) rfl rfl rfl ?_
    refine xr_iconst (v := 4) (pc' := 4) rfl (by decide) rfl ?_
    rcases xite h with ⟨hc, h⟩ | ⟨hc, h⟩
    · refine xr_icmp_ge_t (t := 23) rfl hc ?_
      refine xr_aload_n (pc' := 24) rfl rfl rfl ?_
      refine xr_aload_n (pc' := 25) rfl rfl rfl ?_
      obtain ⟨v1, hv1, h⟩ := xbind h
      refine xr_getR (pc' := 28) rfl (by decide) hv1 rfl ?_
      refine xr_aload_n (pc' := 29) rfl rfl rfl ?_
      obtain ⟨v2, hv2, h⟩ := xbind h
      refine xr_getR (pc' := 32) rfl (by decide) hv2 rfl ?_
      refine xr_iload_n (pc' := 33) rfl rfl rfl ?_
      refine xr_aload_n (pc' := 34) rfl rfl rfl ?_
      obtain ⟨v3, hv3, h⟩ := xbind h
      refine xr_getR (pc' := 37) rfl (by decide) hv3 rfl ?_
      refine xr_iload_n (pc' := 38) rfl rfl rfl ?_
      obtain ⟨v4, hv4, h⟩ := xbind h
      refine xr_aI (pc' := 39) rfl hv4 rfl ?_
      obtain ⟨u5, hu5, h⟩ := xbind h
      obtain ⟨q6, hq6, h⟩ := xbind h
      refine xr_callV (pc' := 42) (C := 8) (As := [_, _, _, _]) (rest := _) rfl hu5 mC_206 mL_206 rfl (Nat.le_of_ble_eq_true rfl) rfl (Nat.le_of_ble_eq_true rfl) (TfM_unmakesFirst _ _ _ _ _ hq6) rfl ?_
      refine xr_pop_i (pc' := 43) rfl rfl ?_
      refine xr_aload_n (pc' := 44) rfl rfl rfl ?_
      refine xr_aload_n (pc' := 45) rfl rfl rfl ?_
      obtain ⟨v7, hv7, h⟩ := xbind h
      refine xr_getR (pc' := 48) rfl (by decide) hv7 rfl ?_
      refine xr_aload_n (pc' := 49) rfl rfl rfl ?_
      obtain ⟨v8, hv8, h⟩ := xbind h
      refine xr_getR (pc' := 52) rfl (by decide) hv8 rfl ?_
      refine xr_iload_n (pc' := 53) rfl rfl rfl ?_
      refine xr_aload_n (pc' := 54) rfl rfl rfl ?_
      obtain ⟨v9, hv9, h⟩ := xbind h
      refine xr_getR (pc' := 57) rfl (by decide) hv9 rfl ?_
      refine xr_iload_n (pc' := 58) rfl rfl rfl ?_
      obtain ⟨v10, hv10, h⟩ := xbind h
      refine xr_aI (pc' := 59) rfl hv10 rfl ?_
      obtain ⟨u11, hu11, h⟩ := xbind h
      obtain ⟨q12, hq12, h⟩ := xbind h
      refine xr_callV (pc' := 62) (C := 8) (As := [_, _, _, _]) (rest := _) rfl hu11 mC_206 mL_206 rfl (Nat.le_of_ble_eq_true rfl) rfl (Nat.le_of_ble_eq_true rfl) (TfM_unmakesFirst _ _ _ _ _ hq12) rfl ?_
      refine xr_pop_i (pc' := 63) rfl rfl ?_
      obtain rfl := xsome1 h
      exact xr_ret rfl mR_209
    · refine xr_icmp_ge_f (pc' := 7) rfl hc rfl ?_
      refine xr_aload_n (pc' := 8) rfl rfl rfl ?_
      refine xr_iconst (v := 4) (pc' := 9) rfl (by decide) rfl ?_
      refine xr_iload_n (pc' := 10) rfl rfl rfl ?_
      refine xr_imul (pc' := 11) rfl rfl ?_
      refine xr_iload_n (pc' := 12) rfl rfl rfl ?_
      refine xr_iadd (pc' := 13) rfl rfl ?_
      obtain ⟨u13, hu13, h⟩ := xbind h
      obtain ⟨q14, hq14, h⟩ := xbind h
      refine xr_callV (pc' := 16) (C := 8) (As := [_]) (rest := _) rfl hu13 mC_210 mL_210 rfl (Nat.le_of_ble_eq_true rfl) rfl (Nat.le_of_ble_eq_true rfl) (TfM_drains _ _ hq14) rfl ?_
      refine xr_pop_i (pc' := 17) rfl rfl ?_
      refine xr_iinc (c := 1) (pc' := 20) rfl (by decide) rfl rfl rfl ?_
      refine xr_goto (t := 2) rfl ?_
      exact ih q14.2 _ _ _  h
def fM_unmakesAll (M : xMem) (this : xId) (a0 : Int32) : Option xMem :=
  fM_unmakesAll_2  xF M (some this) a0 (0 : Int32)
set_option maxRecDepth 20000 in
theorem TfM_unmakesAll {M M' : xMem} (this : xId) (a0 : Int32) (h : fM_unmakesAll M this a0 = some M') : xrun none 4 209 0 ([some (.inr (.inr (some this))), some (.inl a0), none]) ([]) M (none, M') := by
  unfold fM_unmakesAll at h
  refine xr_iconst (v := 0) (pc' := 1) rfl (by decide) rfl ?_
  refine xr_istore_n (pc' := 2) rfl rfl rfl ?_
  exact TfM_unmakesAll_2   xF M _ _ _  h
-- 208: MagazineDepotModel.resizes(I)V
def fM_resizes_67  (M : xMem) (l0 : Option xId) (l1 : Int32) (s0 : Option xId) (s1 : Int32) (s2 : Int32) : Option xMem :=
  (xuI M s0 s1 s2).bind fun M17 =>
  (xgR M17 l0 8 6).bind fun v18 =>
  (xaI M17 v18 l1).bind fun v19 =>
  if (3 : Int32) ≤ v19 then (
    (xgR M17 l0 8 6).bind fun v20 =>
    (xuI M17 v20 l1 (0 : Int32)).bind fun M21 =>
    (xgR M21 l0 8 3).bind fun v22 =>
    (xaI M21 v22 l1).bind fun v23 =>
    if v23 = (1 : Int32) then (
      some M21)
    else
    (xgR M21 l0 8 3).bind fun v24 =>
    (xaI M21 v24 l1).bind fun v25 =>
    (xuI M21 v24 l1 (v25 - (1 : Int32))).bind fun M26 =>
    (xob M26 l0 8).bind fun u27 =>
    (fM_unmakesAll M26 u27 l1).bind fun q28 =>
    some q28)
  else
  some M17
set_option maxRecDepth 20000 in
theorem TfM_resizes_67 {M' : xMem}  (M : xMem) (l0 : Option xId) (l1 : Int32) (s0 : Option xId) (s1 : Int32) (s2 : Int32)  (h : fM_resizes_67  M l0 l1 s0 s1 s2 = some M') : xrun none 5 208 67 ([some (.inr (.inr l0)), some (.inl l1)]) ([.inl s2, .inl s1, .inr (.inr s0)]) M (none, M') := by
  unfold fM_resizes_67 at h
  obtain ⟨M17, hM17, h⟩ := xbind h
  refine xr_uI (pc' := 68) rfl hM17 rfl ?_
  refine xr_aload_n (pc' := 69) rfl rfl rfl ?_
  obtain ⟨v18, hv18, h⟩ := xbind h
  refine xr_getR (pc' := 72) rfl (by decide) hv18 rfl ?_
  refine xr_iload_n (pc' := 73) rfl rfl rfl ?_
  obtain ⟨v19, hv19, h⟩ := xbind h
  refine xr_aI (pc' := 74) rfl hv19 rfl ?_
  refine xr_iconst (v := 3) (pc' := 75) rfl (by decide) rfl ?_
  rcases xite h with ⟨hc, h⟩ | ⟨hc, h⟩
  · refine xr_icmp_ge_t (t := 79) rfl hc ?_
    refine xr_aload_n (pc' := 80) rfl rfl rfl ?_
    obtain ⟨v20, hv20, h⟩ := xbind h
    refine xr_getR (pc' := 83) rfl (by decide) hv20 rfl ?_
    refine xr_iload_n (pc' := 84) rfl rfl rfl ?_
    refine xr_iconst (v := 0) (pc' := 85) rfl (by decide) rfl ?_
    obtain ⟨M21, hM21, h⟩ := xbind h
    refine xr_uI (pc' := 86) rfl hM21 rfl ?_
    refine xr_aload_n (pc' := 87) rfl rfl rfl ?_
    obtain ⟨v22, hv22, h⟩ := xbind h
    refine xr_getR (pc' := 90) rfl (by decide) hv22 rfl ?_
    refine xr_iload_n (pc' := 91) rfl rfl rfl ?_
    obtain ⟨v23, hv23, h⟩ := xbind h
    refine xr_aI (pc' := 92) rfl hv23 rfl ?_
    refine xr_iconst (v := 1) (pc' := 93) rfl (by decide) rfl ?_
    rcases xite h with ⟨hc, h⟩ | ⟨hc, h⟩
    · refine xr_icmp_ne_f (pc' := 96) rfl hc rfl ?_
      obtain rfl := xsome1 h
      exact xr_ret rfl mR_208
    · refine xr_icmp_ne_t (t := 97) rfl hc ?_
      refine xr_aload_n (pc' := 98) rfl rfl rfl ?_
      obtain ⟨v24, hv24, h⟩ := xbind h
      refine xr_getR (pc' := 101) rfl (by decide) hv24 rfl ?_
      refine xr_iload_n (pc' := 102) rfl rfl rfl ?_
      refine xr_dup2_ia (pc' := 103) rfl rfl ?_
      obtain ⟨v25, hv25, h⟩ := xbind h
      refine xr_aI (pc' := 104) rfl hv25 rfl ?_
      refine xr_iconst (v := 1) (pc' := 105) rfl (by decide) rfl ?_
      refine xr_isub (pc' := 106) rfl rfl ?_
      obtain ⟨M26, hM26, h⟩ := xbind h
      refine xr_uI (pc' := 107) rfl hM26 rfl ?_
      refine xr_aload_n (pc' := 108) rfl rfl rfl ?_
      refine xr_iload_n (pc' := 109) rfl rfl rfl ?_
      obtain ⟨u27, hu27, h⟩ := xbind h
      obtain ⟨q28, hq28, h⟩ := xbind h
      refine xr_callV (pc' := 112) (C := 8) (As := [_]) (rest := _) rfl hu27 mC_209 mL_209 rfl (Nat.le_of_ble_eq_true rfl) rfl (Nat.le_of_ble_eq_true rfl) (TfM_unmakesAll _ _ hq28) rfl ?_
      obtain rfl := xsome1 h
      exact xr_ret rfl mR_208
  · refine xr_icmp_ge_f (pc' := 78) rfl hc rfl ?_
    obtain rfl := xsome1 h
    exact xr_ret rfl mR_208
def fM_resizes_41  (M : xMem) (l0 : Option xId) (l1 : Int32)  : Option xMem :=
  (xgR M l0 8 6).bind fun v12 =>
  (xgR M l0 8 5).bind fun v13 =>
  (xaI M v13 l1).bind fun v14 =>
  if v14 = 0 then (
    (xgR M l0 8 6).bind fun v15 =>
    (xaI M v15 l1).bind fun v16 =>
    fM_resizes_67  M l0 l1 v12 l1 (v16 + (1 : Int32)))
  else
  fM_resizes_67  M l0 l1 v12 l1 (0 : Int32)
set_option maxRecDepth 20000 in
theorem TfM_resizes_41 {M' : xMem}  (M : xMem) (l0 : Option xId) (l1 : Int32)   (h : fM_resizes_41  M l0 l1  = some M') : xrun none 5 208 41 ([some (.inr (.inr l0)), some (.inl l1)]) ([]) M (none, M') := by
  unfold fM_resizes_41 at h
  refine xr_aload_n (pc' := 42) rfl rfl rfl ?_
  obtain ⟨v12, hv12, h⟩ := xbind h
  refine xr_getR (pc' := 45) rfl (by decide) hv12 rfl ?_
  refine xr_iload_n (pc' := 46) rfl rfl rfl ?_
  refine xr_aload_n (pc' := 47) rfl rfl rfl ?_
  obtain ⟨v13, hv13, h⟩ := xbind h
  refine xr_getR (pc' := 50) rfl (by decide) hv13 rfl ?_
  refine xr_iload_n (pc' := 51) rfl rfl rfl ?_
  obtain ⟨v14, hv14, h⟩ := xbind h
  refine xr_aI (pc' := 52) rfl hv14 rfl ?_
  rcases xite h with ⟨hc, h⟩ | ⟨hc, h⟩
  · refine xr_if_ne_f (pc' := 55) rfl hc rfl ?_
    refine xr_aload_n (pc' := 56) rfl rfl rfl ?_
    obtain ⟨v15, hv15, h⟩ := xbind h
    refine xr_getR (pc' := 59) rfl (by decide) hv15 rfl ?_
    refine xr_iload_n (pc' := 60) rfl rfl rfl ?_
    obtain ⟨v16, hv16, h⟩ := xbind h
    refine xr_aI (pc' := 61) rfl hv16 rfl ?_
    refine xr_iconst (v := 1) (pc' := 62) rfl (by decide) rfl ?_
    refine xr_iadd (pc' := 63) rfl rfl ?_
    refine xr_goto (t := 67) rfl ?_
    exact TfM_resizes_67   M _ _ _ _ _  h
  · refine xr_if_ne_t (t := 66) rfl hc ?_
    refine xr_iconst (v := 0) (pc' := 67) rfl (by decide) rfl ?_
    exact TfM_resizes_67   M _ _ _ _ _  h
def fM_resizes (M : xMem) (this : xId) (a0 : Int32) : Option xMem :=
  (xgR M (some this) 8 5).bind fun v1 =>
  (xaI M v1 a0).bind fun v2 =>
  (xgR M (some this) 8 4).bind fun v3 =>
  (xaI M v3 a0).bind fun v4 =>
  if v2 ≤ v4 then (
    fM_resizes_41  M (some this) a0 )
  else
  (xgR M (some this) 8 3).bind fun v5 =>
  (xaI M v5 a0).bind fun v6 =>
  if (8 : Int32) ≤ v6 then (
    fM_resizes_41  M (some this) a0 )
  else
  (xgR M (some this) 8 3).bind fun v7 =>
  (xaI M v7 a0).bind fun v8 =>
  (xuI M v7 a0 (v8 + (1 : Int32))).bind fun M9 =>
  (xob M9 (some this) 8).bind fun u10 =>
  (fM_unmakesAll M9 u10 a0).bind fun q11 =>
  fM_resizes_41  q11 (some this) a0 
set_option maxRecDepth 20000 in
theorem TfM_resizes {M M' : xMem} (this : xId) (a0 : Int32) (h : fM_resizes M this a0 = some M') : xrun none 5 208 0 ([some (.inr (.inr (some this))), some (.inl a0)]) ([]) M (none, M') := by
  unfold fM_resizes at h
  refine xr_aload_n (pc' := 1) rfl rfl rfl ?_
  obtain ⟨v1, hv1, h⟩ := xbind h
  refine xr_getR (pc' := 4) rfl (by decide) hv1 rfl ?_
  refine xr_iload_n (pc' := 5) rfl rfl rfl ?_
  obtain ⟨v2, hv2, h⟩ := xbind h
  refine xr_aI (pc' := 6) rfl hv2 rfl ?_
  refine xr_aload_n (pc' := 7) rfl rfl rfl ?_
  obtain ⟨v3, hv3, h⟩ := xbind h
  refine xr_getR (pc' := 10) rfl (by decide) hv3 rfl ?_
  refine xr_iload_n (pc' := 11) rfl rfl rfl ?_
  obtain ⟨v4, hv4, h⟩ := xbind h
  refine xr_aI (pc' := 12) rfl hv4 rfl ?_
  rcases xite h with ⟨hc, h⟩ | ⟨hc, h⟩
  · refine xr_icmp_le_t (t := 41) rfl hc ?_
    exact TfM_resizes_41   M _ _   h
  · refine xr_icmp_le_f (pc' := 15) rfl hc rfl ?_
    refine xr_aload_n (pc' := 16) rfl rfl rfl ?_
    obtain ⟨v5, hv5, h⟩ := xbind h
    refine xr_getR (pc' := 19) rfl (by decide) hv5 rfl ?_
    refine xr_iload_n (pc' := 20) rfl rfl rfl ?_
    obtain ⟨v6, hv6, h⟩ := xbind h
    refine xr_aI (pc' := 21) rfl hv6 rfl ?_
    refine xr_bipush (v := 8) (pc' := 23) rfl (by decide) rfl ?_
    rcases xite h with ⟨hc, h⟩ | ⟨hc, h⟩
    · refine xr_icmp_ge_t (t := 41) rfl hc ?_
      exact TfM_resizes_41   M _ _   h
    · refine xr_icmp_ge_f (pc' := 26) rfl hc rfl ?_
      refine xr_aload_n (pc' := 27) rfl rfl rfl ?_
      obtain ⟨v7, hv7, h⟩ := xbind h
      refine xr_getR (pc' := 30) rfl (by decide) hv7 rfl ?_
      refine xr_iload_n (pc' := 31) rfl rfl rfl ?_
      refine xr_dup2_ia (pc' := 32) rfl rfl ?_
      obtain ⟨v8, hv8, h⟩ := xbind h
      refine xr_aI (pc' := 33) rfl hv8 rfl ?_
      refine xr_iconst (v := 1) (pc' := 34) rfl (by decide) rfl ?_
      refine xr_iadd (pc' := 35) rfl rfl ?_
      obtain ⟨M9, hM9, h⟩ := xbind h
      refine xr_uI (pc' := 36) rfl hM9 rfl ?_
      refine xr_aload_n (pc' := 37) rfl rfl rfl ?_
      refine xr_iload_n (pc' := 38) rfl rfl rfl ?_
      obtain ⟨u10, hu10, h⟩ := xbind h
      obtain ⟨q11, hq11, h⟩ := xbind h
      refine xr_callV (pc' := 41) (C := 8) (As := [_]) (rest := _) rfl hu10 mC_209 mL_209 rfl (Nat.le_of_ble_eq_true rfl) rfl (Nat.le_of_ble_eq_true rfl) (TfM_unmakesAll _ _ hq11) rfl ?_
      exact TfM_resizes_41   q11 _ _   h
-- 204: MagazineDepotModel.endsInterval()I
def fM_endsInterval_17  : Nat → xMem → Option xId → Int32 → Int32 → Option (Int32 × xMem)
  | 0, _, _, _, _ => none
  | n + 1, M, l0, l1, l2 =>
    (xgI M l0 8 13).bind fun v5 =>
    if v5 ≤ l2 then (
      (xob M l0 8).bind fun u6 =>
      (fM_manyMade M u6 ).bind fun q7 =>
      some ((l1 - q7.1), q7.2))
    else
    (xgR M l0 8 25).bind fun v8 =>
    (xgR M l0 8 26).bind fun v9 =>
    (xgR M l0 8 7).bind fun v10 =>
    (xaI M v10 l2).bind fun v11 =>
    (xob M l0 8).bind fun u12 =>
    (fM_unmakesFirst M u12 v8 v9 l2 v11).bind fun q13 =>
    (xgR q13.2 l0 8 27).bind fun v14 =>
    (xgR q13.2 l0 8 28).bind fun v15 =>
    (xgR q13.2 l0 8 8).bind fun v16 =>
    (xaI q13.2 v16 l2).bind fun v17 =>
    (xob q13.2 l0 8).bind fun u18 =>
    (fM_unmakesFirst q13.2 u18 v14 v15 l2 v17).bind fun q19 =>
    (xob q19.2 l0 8).bind fun u20 =>
    (fM_resizes q19.2 u20 l2).bind fun q21 =>
    (xgR q21 l0 8 5).bind fun v22 =>
    (xuI q21 v22 l2 (0 : Int32)).bind fun M23 =>
    (xgR M23 l0 8 7).bind fun v24 =>
    (xgR M23 l0 8 26).bind fun v25 =>
    (xaI M23 v25 l2).bind fun v26 =>
    (xuI M23 v24 l2 v26).bind fun M27 =>
    (xgR M27 l0 8 8).bind fun v28 =>
    (xgR M27 l0 8 28).bind fun v29 =>
    (xaI M27 v29 l2).bind fun v30 =>
    (xuI M27 v28 l2 v30).bind fun M31 =>
    fM_endsInterval_17  n M31 l0 l1 (l2 + 1)
set_option maxRecDepth 20000 in
theorem TfM_endsInterval_17 {M' : xMem} {r : Int32}  : ∀ (n : Nat) (M : xMem) (l0 : Option xId) (l1 : Int32) (l2 : Int32) , fM_endsInterval_17  n M l0 l1 l2 = some (r, M') → xrun none 6 204 17 ([some (.inr (.inr l0)), some (.inl l1), some (.inl l2)]) ([]) M (some (.inl r), M') := by
  intro n
  induction n with
  | zero => intro M l0 l1 l2  h; unfold fM_endsInterval_17 at h; cases h
  | succ n ih =>
    intro M l0 l1 l2  h
    unfold fM_endsInterval_17 at h
    refine xr_iload_n (pc' := 18) rfl rfl rfl ?_
    refine xr_aload_n (pc' := 19) rfl rfl rfl ?_
    obtain ⟨v5, hv5, h⟩ := xbind h
    refine xr_getI (pc' := 22) rfl (by decide) hv5 rfl ?_
    rcases xite h with ⟨hc, h⟩ | ⟨hc, h⟩
    · refine xr_icmp_ge_t (t := 107) rfl hc ?_
      refine xr_iload_n (pc' := 108) rfl rfl rfl ?_
      refine xr_aload_n (pc' := 109) rfl rfl rfl ?_
      obtain ⟨u6, hu6, h⟩ := xbind h
      obtain ⟨q7, hq7, h⟩ := xbind h
      refine xr_callV (pc' := 112) (C := 8) (As := []) (rest := _) rfl hu6 mC_205 mL_205 rfl (Nat.le_of_ble_eq_true rfl) rfl (Nat.le_of_ble_eq_true rfl) (TfM_manyMade _  hq7) rfl ?_
      refine xr_isub (pc' := 113) rfl rfl ?_
      obtain ⟨rfl, rfl⟩ := xsome2 h
      exact xr_iret rfl mR_204
    · refine xr_icmp_ge_f (pc' := 25) rfl hc rfl ?_
      refine xr_aload_n (pc' := 26) rfl rfl rfl ?_
      refine xr_aload_n (pc' := 27) rfl rfl rfl ?_
      obtain ⟨v8, hv8, h⟩ := xbind h
      refine xr_getR (pc' := 30) rfl (by decide) hv8 rfl ?_
      refine xr_aload_n (pc' := 31) rfl rfl rfl ?_
      obtain ⟨v9, hv9, h⟩ := xbind h
      refine xr_getR (pc' := 34) rfl (by decide) hv9 rfl ?_
      refine xr_iload_n (pc' := 35) rfl rfl rfl ?_
      refine xr_aload_n (pc' := 36) rfl rfl rfl ?_
      obtain ⟨v10, hv10, h⟩ := xbind h
      refine xr_getR (pc' := 39) rfl (by decide) hv10 rfl ?_
      refine xr_iload_n (pc' := 40) rfl rfl rfl ?_
      obtain ⟨v11, hv11, h⟩ := xbind h
      refine xr_aI (pc' := 41) rfl hv11 rfl ?_
      obtain ⟨u12, hu12, h⟩ := xbind h
      obtain ⟨q13, hq13, h⟩ := xbind h
      refine xr_callV (pc' := 44) (C := 8) (As := [_, _, _, _]) (rest := _) rfl hu12 mC_206 mL_206 rfl (Nat.le_of_ble_eq_true rfl) rfl (Nat.le_of_ble_eq_true rfl) (TfM_unmakesFirst _ _ _ _ _ hq13) rfl ?_
      refine xr_pop_i (pc' := 45) rfl rfl ?_
      refine xr_aload_n (pc' := 46) rfl rfl rfl ?_
      refine xr_aload_n (pc' := 47) rfl rfl rfl ?_
      obtain ⟨v14, hv14, h⟩ := xbind h
      refine xr_getR (pc' := 50) rfl (by decide) hv14 rfl ?_
      refine xr_aload_n (pc' := 51) rfl rfl rfl ?_
      obtain ⟨v15, hv15, h⟩ := xbind h
      refine xr_getR (pc' := 54) rfl (by decide) hv15 rfl ?_
      refine xr_iload_n (pc' := 55) rfl rfl rfl ?_
      refine xr_aload_n (pc' := 56) rfl rfl rfl ?_
      obtain ⟨v16, hv16, h⟩ := xbind h
      refine xr_getR (pc' := 59) rfl (by decide) hv16 rfl ?_
      refine xr_iload_n (pc' := 60) rfl rfl rfl ?_
      obtain ⟨v17, hv17, h⟩ := xbind h
      refine xr_aI (pc' := 61) rfl hv17 rfl ?_
      obtain ⟨u18, hu18, h⟩ := xbind h
      obtain ⟨q19, hq19, h⟩ := xbind h
      refine xr_callV (pc' := 64) (C := 8) (As := [_, _, _, _]) (rest := _) rfl hu18 mC_206 mL_206 rfl (Nat.le_of_ble_eq_true rfl) rfl (Nat.le_of_ble_eq_true rfl) (TfM_unmakesFirst _ _ _ _ _ hq19) rfl ?_
      refine xr_pop_i (pc' := 65) rfl rfl ?_
      refine xr_aload_n (pc' := 66) rfl rfl rfl ?_
      refine xr_iload_n (pc' := 67) rfl rfl rfl ?_
      obtain ⟨u20, hu20, h⟩ := xbind h
      obtain ⟨q21, hq21, h⟩ := xbind h
      refine xr_callV (pc' := 70) (C := 8) (As := [_]) (rest := _) rfl hu20 mC_208 mL_208 rfl (Nat.le_of_ble_eq_true rfl) rfl (Nat.le_of_ble_eq_true rfl) (TfM_resizes _ _ hq21) rfl ?_
      refine xr_aload_n (pc' := 71) rfl rfl rfl ?_
      obtain ⟨v22, hv22, h⟩ := xbind h
      refine xr_getR (pc' := 74) rfl (by decide) hv22 rfl ?_
      refine xr_iload_n (pc' := 75) rfl rfl rfl ?_
      refine xr_iconst (v := 0) (pc' := 76) rfl (by decide) rfl ?_
      obtain ⟨M23, hM23, h⟩ := xbind h
      refine xr_uI (pc' := 77) rfl hM23 rfl ?_
      refine xr_aload_n (pc' := 78) rfl rfl rfl ?_
      obtain ⟨v24, hv24, h⟩ := xbind h
      refine xr_getR (pc' := 81) rfl (by decide) hv24 rfl ?_
      refine xr_iload_n (pc' := 82) rfl rfl rfl ?_
      refine xr_aload_n (pc' := 83) rfl rfl rfl ?_
      obtain ⟨v25, hv25, h⟩ := xbind h
      refine xr_getR (pc' := 86) rfl (by decide) hv25 rfl ?_
      refine xr_iload_n (pc' := 87) rfl rfl rfl ?_
      obtain ⟨v26, hv26, h⟩ := xbind h
      refine xr_aI (pc' := 88) rfl hv26 rfl ?_
      obtain ⟨M27, hM27, h⟩ := xbind h
      refine xr_uI (pc' := 89) rfl hM27 rfl ?_
      refine xr_aload_n (pc' := 90) rfl rfl rfl ?_
      obtain ⟨v28, hv28, h⟩ := xbind h
      refine xr_getR (pc' := 93) rfl (by decide) hv28 rfl ?_
      refine xr_iload_n (pc' := 94) rfl rfl rfl ?_
      refine xr_aload_n (pc' := 95) rfl rfl rfl ?_
      obtain ⟨v29, hv29, h⟩ := xbind h
      refine xr_getR (pc' := 98) rfl (by decide) hv29 rfl ?_
      refine xr_iload_n (pc' := 99) rfl rfl rfl ?_
      obtain ⟨v30, hv30, h⟩ := xbind h
      refine xr_aI (pc' := 100) rfl hv30 rfl ?_
      obtain ⟨M31, hM31, h⟩ := xbind h
      refine xr_uI (pc' := 101) rfl hM31 rfl ?_
      refine xr_iinc (c := 1) (pc' := 104) rfl (by decide) rfl rfl rfl ?_
      refine xr_goto (t := 17) rfl ?_
      exact ih M31 _ _ _  h
def fM_endsInterval (M : xMem) (this : xId) : Option (Int32 × xMem) :=
  (xob M (some this) 8).bind fun u1 =>
  (fM_manyMade M u1 ).bind fun q2 =>
  (xgI q2.2 (some this) 8 14).bind fun v3 =>
  (xpI q2.2 (some this) 8 14 (v3 + (1 : Int32))).bind fun M4 =>
  fM_endsInterval_17  xF M4 (some this) q2.1 (0 : Int32)
set_option maxRecDepth 20000 in
theorem TfM_endsInterval {M M' : xMem} {r : Int32} (this : xId) (h : fM_endsInterval M this = some (r, M')) : xrun none 6 204 0 ([some (.inr (.inr (some this))), none, none]) ([]) M (some (.inl r), M') := by
  unfold fM_endsInterval at h
  refine xr_aload_n (pc' := 1) rfl rfl rfl ?_
  obtain ⟨u1, hu1, h⟩ := xbind h
  obtain ⟨q2, hq2, h⟩ := xbind h
  refine xr_callV (pc' := 4) (C := 8) (As := []) (rest := _) rfl hu1 mC_205 mL_205 rfl (Nat.le_of_ble_eq_true rfl) rfl (Nat.le_of_ble_eq_true rfl) (TfM_manyMade _  hq2) rfl ?_
  refine xr_istore_n (pc' := 5) rfl rfl rfl ?_
  refine xr_aload_n (pc' := 6) rfl rfl rfl ?_
  refine xr_dup_a (pc' := 7) rfl rfl ?_
  obtain ⟨v3, hv3, h⟩ := xbind h
  refine xr_getI (pc' := 10) rfl (by decide) hv3 rfl ?_
  refine xr_iconst (v := 1) (pc' := 11) rfl (by decide) rfl ?_
  refine xr_iadd (pc' := 12) rfl rfl ?_
  obtain ⟨M4, hM4, h⟩ := xbind h
  refine xr_putI (pc' := 15) rfl (by decide) hM4 rfl ?_
  refine xr_iconst (v := 0) (pc' := 16) rfl (by decide) rfl ?_
  refine xr_istore_n (pc' := 17) rfl rfl rfl ?_
  exact TfM_endsInterval_17   xF M4 _ _ _  h
-- 203: MagazineDepotModel.interval()I
def fM_interval (M : xMem) (this : xId) : Option (Int32 × xMem) :=
  (xob M (some this) 8).bind fun u1 =>
  (fM_endsInterval M u1 ).bind fun q2 =>
  some (q2.1, q2.2)
set_option maxRecDepth 20000 in
theorem TfM_interval {M M' : xMem} {r : Int32} (this : xId) (h : fM_interval M this = some (r, M')) : xrun none 7 203 0 ([some (.inr (.inr (some this)))]) ([]) M (some (.inl r), M') := by
  unfold fM_interval at h
  refine xr_aload_n (pc' := 1) rfl rfl rfl ?_
  obtain ⟨u1, hu1, h⟩ := xbind h
  obtain ⟨q2, hq2, h⟩ := xbind h
  refine xr_callV (pc' := 4) (C := 8) (As := []) (rest := _) rfl hu1 mC_204 mL_204 rfl (Nat.le_of_ble_eq_true rfl) rfl (Nat.le_of_ble_eq_true rfl) (TfM_endsInterval _  hq2) rfl ?_
  obtain ⟨rfl, rfl⟩ := xsome2 h
  exact xr_iret rfl mR_203
-- 211: MagazineDepotModel.drain(II)I
def fM_drain (M : xMem) (this : xId) (a0 : Int32) (a1 : Int32) : Option (Int32 × xMem) :=
  (xob M (some this) 8).bind fun u1 =>
  (fM_isCache M u1 a0).bind fun q2 =>
  if q2.1 = 0 then (
    some ((-1 : Int32), q2.2))
  else
  (fM_isProcessor q2.2 a1).bind fun q3 =>
  if q3.1 = 0 then (
    some ((-1 : Int32), q3.2))
  else
  (xob q3.2 (some this) 8).bind fun u4 =>
  (fM_drains q3.2 u4 (((4 : Int32) * a0) + a1)).bind fun q5 =>
  some (q5.1, q5.2)
set_option maxRecDepth 20000 in
theorem TfM_drain {M M' : xMem} {r : Int32} (this : xId) (a0 : Int32) (a1 : Int32) (h : fM_drain M this a0 a1 = some (r, M')) : xrun none 4 211 0 ([some (.inr (.inr (some this))), some (.inl a0), some (.inl a1)]) ([]) M (some (.inl r), M') := by
  unfold fM_drain at h
  refine xr_aload_n (pc' := 1) rfl rfl rfl ?_
  refine xr_iload_n (pc' := 2) rfl rfl rfl ?_
  obtain ⟨u1, hu1, h⟩ := xbind h
  obtain ⟨q2, hq2, h⟩ := xbind h
  refine xr_callV (pc' := 5) (C := 8) (As := [_]) (rest := _) rfl hu1 mC_166 mL_166 rfl (Nat.le_of_ble_eq_true rfl) rfl (Nat.le_of_ble_eq_true rfl) (TfM_isCache _ _ hq2) rfl ?_
  rcases xite h with ⟨hc, h⟩ | ⟨hc, h⟩
  · refine xr_if_eq_t (t := 27) rfl hc ?_
    refine xr_iconst (v := -1) (pc' := 28) rfl (by decide) rfl ?_
    obtain ⟨rfl, rfl⟩ := xsome2 h
    exact xr_iret rfl mR_211
  · refine xr_if_eq_f (pc' := 8) rfl hc rfl ?_
    refine xr_iload_n (pc' := 9) rfl rfl rfl ?_
    obtain ⟨q3, hq3, h⟩ := xbind h
    refine xr_callS (pc' := 12) (As := [_]) (rest := _) rfl (by decide) mL_168 rfl (Nat.le_of_ble_eq_true rfl) rfl (Nat.le_of_ble_eq_true rfl) (TfM_isProcessor _ hq3) rfl ?_
    rcases xite h with ⟨hc, h⟩ | ⟨hc, h⟩
    · refine xr_if_eq_t (t := 27) rfl hc ?_
      refine xr_iconst (v := -1) (pc' := 28) rfl (by decide) rfl ?_
      obtain ⟨rfl, rfl⟩ := xsome2 h
      exact xr_iret rfl mR_211
    · refine xr_if_eq_f (pc' := 15) rfl hc rfl ?_
      refine xr_aload_n (pc' := 16) rfl rfl rfl ?_
      refine xr_iconst (v := 4) (pc' := 17) rfl (by decide) rfl ?_
      refine xr_iload_n (pc' := 18) rfl rfl rfl ?_
      refine xr_imul (pc' := 19) rfl rfl ?_
      refine xr_iload_n (pc' := 20) rfl rfl rfl ?_
      refine xr_iadd (pc' := 21) rfl rfl ?_
      obtain ⟨u4, hu4, h⟩ := xbind h
      obtain ⟨q5, hq5, h⟩ := xbind h
      refine xr_callV (pc' := 24) (C := 8) (As := [_]) (rest := _) rfl hu4 mC_210 mL_210 rfl (Nat.le_of_ble_eq_true rfl) rfl (Nat.le_of_ble_eq_true rfl) (TfM_drains _ _ hq5) rfl ?_
      refine xr_goto (t := 28) rfl ?_
      obtain ⟨rfl, rfl⟩ := xsome2 h
      exact xr_iret rfl mR_211
-- 213: MagazineDepotModel.manyIn(II)I
def fM_manyIn_42 (k5 : xMem → Option xId → Int32 → Int32 → Int32 → Int32 → Option (Int32 × xMem)) (M : xMem) (l0 : Option xId) (l1 : Int32) (l2 : Int32) (l4 : Int32) (s0 : Int32) (s1 : Int32) : Option (Int32 × xMem) :=
  k5 M l0 l1 l2 (s0 + s1) (l4 + 1)
set_option maxRecDepth 20000 in
theorem TfM_manyIn_42 {M' : xMem} {r : Int32} (k5 : xMem → Option xId → Int32 → Int32 → Int32 → Int32 → Option (Int32 × xMem)) (hk5 : ∀ (M : xMem) (l0 : Option xId) (l1 : Int32) (l2 : Int32) (l3 : Int32) (l4 : Int32) , k5 M l0 l1 l2 l3 l4 = some (r, M') → xrun none 1 213 5 ([some (.inr (.inr l0)), some (.inl l1), some (.inl l2), some (.inl l3), some (.inl l4)]) ([]) M (some (.inl r), M')) (M : xMem) (l0 : Option xId) (l1 : Int32) (l2 : Int32) (l4 : Int32) (s0 : Int32) (s1 : Int32) (o3 : Int32) (h : fM_manyIn_42 k5 M l0 l1 l2 l4 s0 s1 = some (r, M')) : xrun none 1 213 42 ([some (.inr (.inr l0)), some (.inl l1), some (.inl l2), some (.inl o3), some (.inl l4)]) ([.inl s1, .inl s0]) M (some (.inl r), M') := by
  unfold fM_manyIn_42 at h
  refine xr_iadd (pc' := 43) rfl rfl ?_
  refine xr_istore_n (pc' := 44) rfl rfl rfl ?_
  refine xr_iinc (c := 1) (pc' := 47) rfl (by decide) rfl rfl rfl ?_
  refine xr_goto (t := 5) rfl ?_
  exact hk5 M _ _ _ _ _  h
def fM_manyIn_5  : Nat → xMem → Option xId → Int32 → Int32 → Int32 → Int32 → Option (Int32 × xMem)
  | 0, _, _, _, _, _, _ => none
  | n + 1, M, l0, l1, l2, l3, l4 =>
    (xgR M l0 8 16).bind fun v1 =>
    (xaI M v1 l1).bind fun v2 =>
    (xob M l0 8).bind fun u3 =>
    (fM_per M u3 v2).bind fun q4 =>
    if q4.1 ≤ l4 then (
      some (l3, q4.2))
    else
    (xgR q4.2 l0 8 18).bind fun v5 =>
    (xaI q4.2 v5 (((62 : Int32) * l1) + l4)).bind fun v6 =>
    if v6 = l2 then (
      fM_manyIn_42 (fun M l0 l1 l2 l3 l4 => fM_manyIn_5  n M l0 l1 l2 l3 l4) q4.2 l0 l1 l2 l4 l3 (1 : Int32))
    else
    fM_manyIn_42 (fun M l0 l1 l2 l3 l4 => fM_manyIn_5  n M l0 l1 l2 l3 l4) q4.2 l0 l1 l2 l4 l3 (0 : Int32)
set_option maxRecDepth 20000 in
theorem TfM_manyIn_5 {M' : xMem} {r : Int32}  : ∀ (n : Nat) (M : xMem) (l0 : Option xId) (l1 : Int32) (l2 : Int32) (l3 : Int32) (l4 : Int32) , fM_manyIn_5  n M l0 l1 l2 l3 l4 = some (r, M') → xrun none 1 213 5 ([some (.inr (.inr l0)), some (.inl l1), some (.inl l2), some (.inl l3), some (.inl l4)]) ([]) M (some (.inl r), M') := by
  intro n
  induction n with
  | zero => intro M l0 l1 l2 l3 l4  h; unfold fM_manyIn_5 at h; cases h
  | succ n ih =>
    intro M l0 l1 l2 l3 l4  h
    unfold fM_manyIn_5 at h
    refine xr_iload (pc' := 7) rfl rfl rfl ?_
    refine xr_aload_n (pc' := 8) rfl rfl rfl ?_
    refine xr_aload_n (pc' := 9) rfl rfl rfl ?_
    obtain ⟨v1, hv1, h⟩ := xbind h
    refine xr_getR (pc' := 12) rfl (by decide) hv1 rfl ?_
    refine xr_iload_n (pc' := 13) rfl rfl rfl ?_
    obtain ⟨v2, hv2, h⟩ := xbind h
    refine xr_aI (pc' := 14) rfl hv2 rfl ?_
    obtain ⟨u3, hu3, h⟩ := xbind h
    obtain ⟨q4, hq4, h⟩ := xbind h
    refine xr_callV (pc' := 17) (C := 8) (As := [_]) (rest := _) rfl hu3 mC_177 mL_177 rfl (Nat.le_of_ble_eq_true rfl) rfl (Nat.le_of_ble_eq_true rfl) (TfM_per _ _ hq4) rfl ?_
    rcases xite h with ⟨hc, h⟩ | ⟨hc, h⟩
    · refine xr_icmp_ge_t (t := 50) rfl hc ?_
      refine xr_iload_n (pc' := 51) rfl rfl rfl ?_
      obtain ⟨rfl, rfl⟩ := xsome2 h
      exact xr_iret rfl mR_213
    · refine xr_icmp_ge_f (pc' := 20) rfl hc rfl ?_
      refine xr_iload_n (pc' := 21) rfl rfl rfl ?_
      refine xr_aload_n (pc' := 22) rfl rfl rfl ?_
      obtain ⟨v5, hv5, h⟩ := xbind h
      refine xr_getR (pc' := 25) rfl (by decide) hv5 rfl ?_
      refine xr_bipush (v := 62) (pc' := 27) rfl (by decide) rfl ?_
      refine xr_iload_n (pc' := 28) rfl rfl rfl ?_
      refine xr_imul (pc' := 29) rfl rfl ?_
      refine xr_iload (pc' := 31) rfl rfl rfl ?_
      refine xr_iadd (pc' := 32) rfl rfl ?_
      obtain ⟨v6, hv6, h⟩ := xbind h
      refine xr_aI (pc' := 33) rfl hv6 rfl ?_
      refine xr_iload_n (pc' := 34) rfl rfl rfl ?_
      rcases xite h with ⟨hc, h⟩ | ⟨hc, h⟩
      · refine xr_icmp_ne_f (pc' := 37) rfl hc rfl ?_
        refine xr_iconst (v := 1) (pc' := 38) rfl (by decide) rfl ?_
        refine xr_goto (t := 42) rfl ?_
        exact TfM_manyIn_42 _ (fun M l0 l1 l2 l3 l4  h => ih M l0 l1 l2 l3 l4  h) q4.2 _ _ _ _ _ _ _ h
      · refine xr_icmp_ne_t (t := 41) rfl hc ?_
        refine xr_iconst (v := 0) (pc' := 42) rfl (by decide) rfl ?_
        exact TfM_manyIn_42 _ (fun M l0 l1 l2 l3 l4  h => ih M l0 l1 l2 l3 l4  h) q4.2 _ _ _ _ _ _ _ h
def fM_manyIn (M : xMem) (this : xId) (a0 : Int32) (a1 : Int32) : Option (Int32 × xMem) :=
  fM_manyIn_5  xF M (some this) a0 a1 (0 : Int32) (0 : Int32)
set_option maxRecDepth 20000 in
theorem TfM_manyIn {M M' : xMem} {r : Int32} (this : xId) (a0 : Int32) (a1 : Int32) (h : fM_manyIn M this a0 a1 = some (r, M')) : xrun none 1 213 0 ([some (.inr (.inr (some this))), some (.inl a0), some (.inl a1), none, none]) ([]) M (some (.inl r), M') := by
  unfold fM_manyIn at h
  refine xr_iconst (v := 0) (pc' := 1) rfl (by decide) rfl ?_
  refine xr_istore_n (pc' := 2) rfl rfl rfl ?_
  refine xr_iconst (v := 0) (pc' := 3) rfl (by decide) rfl ?_
  refine xr_istore (pc' := 5) rfl rfl rfl ?_
  exact TfM_manyIn_5   xF M _ _ _ _ _  h
-- 212: MagazineDepotModel.reap(I)I
def fM_reap_58 (k14 : xMem → Option xId → Int32 → Int32 → Int32 → Option (Int32 × xMem)) (M : xMem) (l0 : Option xId) (l1 : Int32) (l2 : Int32) (l3 : Int32)  : Option (Int32 × xMem) :=
  k14 M l0 l1 l2 (l3 + 1)
set_option maxRecDepth 20000 in
theorem TfM_reap_58 {M' : xMem} {r : Int32} (k14 : xMem → Option xId → Int32 → Int32 → Int32 → Option (Int32 × xMem)) (hk14 : ∀ (M : xMem) (l0 : Option xId) (l1 : Int32) (l2 : Int32) (l3 : Int32) , k14 M l0 l1 l2 l3 = some (r, M') → xrun none 2 212 14 ([some (.inr (.inr l0)), some (.inl l1), some (.inl l2), some (.inl l3)]) ([]) M (some (.inl r), M')) (M : xMem) (l0 : Option xId) (l1 : Int32) (l2 : Int32) (l3 : Int32)   (h : fM_reap_58 k14 M l0 l1 l2 l3  = some (r, M')) : xrun none 2 212 58 ([some (.inr (.inr l0)), some (.inl l1), some (.inl l2), some (.inl l3)]) ([]) M (some (.inl r), M') := by
  unfold fM_reap_58 at h
  refine xr_iinc (c := 1) (pc' := 61) rfl (by decide) rfl rfl rfl ?_
  refine xr_goto (t := 14) rfl ?_
  exact hk14 M _ _ _ _  h
def fM_reap_14  : Nat → xMem → Option xId → Int32 → Int32 → Int32 → Option (Int32 × xMem)
  | 0, _, _, _, _, _ => none
  | n + 1, M, l0, l1, l2, l3 =>
    if (32 : Int32) ≤ l3 then (
      some (l2, M))
    else
    (xgR M l0 8 16).bind fun v3 =>
    (xaI M v3 l3).bind fun v4 =>
    if v4 = l1 then (
      (xob M l0 8).bind fun u5 =>
      (fM_manyIn M u5 l3 (0 : Int32)).bind fun q6 =>
      (xob q6.2 l0 8).bind fun u7 =>
      (fM_per q6.2 u7 l1).bind fun q8 =>
      if q8.1 ≤ q6.1 then (
        (xgR q8.2 l0 8 16).bind fun v9 =>
        (xuI q8.2 v9 l3 (-9 : Int32)).bind fun M10 =>
        fM_reap_58 (fun M l0 l1 l2 l3 => fM_reap_14  n M l0 l1 l2 l3) M10 l0 l1 (l2 + 1) l3 )
      else
      fM_reap_58 (fun M l0 l1 l2 l3 => fM_reap_14  n M l0 l1 l2 l3) q8.2 l0 l1 l2 l3 )
    else
    fM_reap_58 (fun M l0 l1 l2 l3 => fM_reap_14  n M l0 l1 l2 l3) M l0 l1 l2 l3 
set_option maxRecDepth 20000 in
theorem TfM_reap_14 {M' : xMem} {r : Int32}  : ∀ (n : Nat) (M : xMem) (l0 : Option xId) (l1 : Int32) (l2 : Int32) (l3 : Int32) , fM_reap_14  n M l0 l1 l2 l3 = some (r, M') → xrun none 2 212 14 ([some (.inr (.inr l0)), some (.inl l1), some (.inl l2), some (.inl l3)]) ([]) M (some (.inl r), M') := by
  intro n
  induction n with
  | zero => intro M l0 l1 l2 l3  h; unfold fM_reap_14 at h; cases h
  | succ n ih =>
    intro M l0 l1 l2 l3  h
    unfold fM_reap_14 at h
    refine xr_iload_n (pc' := 15) rfl rfl rfl ?_
    refine xr_bipush (v := 32) (pc' := 17) rfl (by decide) rfl ?_
    rcases xite h with ⟨hc, h⟩ | ⟨hc, h⟩
    · refine xr_icmp_ge_t (t := 64) rfl hc ?_
      refine xr_iload_n (pc' := 65) rfl rfl rfl ?_
      obtain ⟨rfl, rfl⟩ := xsome2 h
      exact xr_iret rfl mR_212
    · refine xr_icmp_ge_f (pc' := 20) rfl hc rfl ?_
      refine xr_aload_n (pc' := 21) rfl rfl rfl ?_
      obtain ⟨v3, hv3, h⟩ := xbind h
      refine xr_getR (pc' := 24) rfl (by decide) hv3 rfl ?_
      refine xr_iload_n (pc' := 25) rfl rfl rfl ?_
      obtain ⟨v4, hv4, h⟩ := xbind h
      refine xr_aI (pc' := 26) rfl hv4 rfl ?_
      refine xr_iload_n (pc' := 27) rfl rfl rfl ?_
      rcases xite h with ⟨hc, h⟩ | ⟨hc, h⟩
      · refine xr_icmp_ne_f (pc' := 30) rfl hc rfl ?_
        refine xr_aload_n (pc' := 31) rfl rfl rfl ?_
        refine xr_iload_n (pc' := 32) rfl rfl rfl ?_
        refine xr_iconst (v := 0) (pc' := 33) rfl (by decide) rfl ?_
        obtain ⟨u5, hu5, h⟩ := xbind h
        obtain ⟨q6, hq6, h⟩ := xbind h
        refine xr_callV (pc' := 36) (C := 8) (As := [_, _]) (rest := _) rfl hu5 mC_213 mL_213 rfl (Nat.le_of_ble_eq_true rfl) rfl (Nat.le_of_ble_eq_true rfl) (TfM_manyIn _ _ _ hq6) rfl ?_
        refine xr_aload_n (pc' := 37) rfl rfl rfl ?_
        refine xr_iload_n (pc' := 38) rfl rfl rfl ?_
        obtain ⟨u7, hu7, h⟩ := xbind h
        obtain ⟨q8, hq8, h⟩ := xbind h
        refine xr_callV (pc' := 41) (C := 8) (As := [_]) (rest := _) rfl hu7 mC_177 mL_177 rfl (Nat.le_of_ble_eq_true rfl) rfl (Nat.le_of_ble_eq_true rfl) (TfM_per _ _ hq8) rfl ?_
        rcases xite h with ⟨hc, h⟩ | ⟨hc, h⟩
        · refine xr_icmp_ge_t (t := 47) rfl hc ?_
          refine xr_aload_n (pc' := 48) rfl rfl rfl ?_
          obtain ⟨v9, hv9, h⟩ := xbind h
          refine xr_getR (pc' := 51) rfl (by decide) hv9 rfl ?_
          refine xr_iload_n (pc' := 52) rfl rfl rfl ?_
          refine xr_bipush (v := -9) (pc' := 54) rfl (by decide) rfl ?_
          obtain ⟨M10, hM10, h⟩ := xbind h
          refine xr_uI (pc' := 55) rfl hM10 rfl ?_
          refine xr_iinc (c := 1) (pc' := 58) rfl (by decide) rfl rfl rfl ?_
          exact TfM_reap_58 _ (fun M l0 l1 l2 l3  h => ih M l0 l1 l2 l3  h) M10 _ _ _ _   h
        · refine xr_icmp_ge_f (pc' := 44) rfl hc rfl ?_
          refine xr_goto (t := 58) rfl ?_
          exact TfM_reap_58 _ (fun M l0 l1 l2 l3  h => ih M l0 l1 l2 l3  h) q8.2 _ _ _ _   h
      · refine xr_icmp_ne_t (t := 58) rfl hc ?_
        exact TfM_reap_58 _ (fun M l0 l1 l2 l3  h => ih M l0 l1 l2 l3  h) M _ _ _ _   h
def fM_reap (M : xMem) (this : xId) (a0 : Int32) : Option (Int32 × xMem) :=
  (xob M (some this) 8).bind fun u1 =>
  (fM_isCache M u1 a0).bind fun q2 =>
  if q2.1 = 0 then (
    some ((-1 : Int32), q2.2))
  else
  fM_reap_14  xF q2.2 (some this) a0 (0 : Int32) (0 : Int32)
set_option maxRecDepth 20000 in
theorem TfM_reap {M M' : xMem} {r : Int32} (this : xId) (a0 : Int32) (h : fM_reap M this a0 = some (r, M')) : xrun none 2 212 0 ([some (.inr (.inr (some this))), some (.inl a0), none, none]) ([]) M (some (.inl r), M') := by
  unfold fM_reap at h
  refine xr_aload_n (pc' := 1) rfl rfl rfl ?_
  refine xr_iload_n (pc' := 2) rfl rfl rfl ?_
  obtain ⟨u1, hu1, h⟩ := xbind h
  obtain ⟨q2, hq2, h⟩ := xbind h
  refine xr_callV (pc' := 5) (C := 8) (As := [_]) (rest := _) rfl hu1 mC_166 mL_166 rfl (Nat.le_of_ble_eq_true rfl) rfl (Nat.le_of_ble_eq_true rfl) (TfM_isCache _ _ hq2) rfl ?_
  rcases xite h with ⟨hc, h⟩ | ⟨hc, h⟩
  · refine xr_if_ne_f (pc' := 8) rfl hc rfl ?_
    refine xr_iconst (v := -1) (pc' := 9) rfl (by decide) rfl ?_
    obtain ⟨rfl, rfl⟩ := xsome2 h
    exact xr_iret rfl mR_212
  · refine xr_if_ne_t (t := 10) rfl hc ?_
    refine xr_iconst (v := 0) (pc' := 11) rfl (by decide) rfl ?_
    refine xr_istore_n (pc' := 12) rfl rfl rfl ?_
    refine xr_iconst (v := 0) (pc' := 13) rfl (by decide) rfl ?_
    refine xr_istore_n (pc' := 14) rfl rfl rfl ?_
    exact TfM_reap_14   xF q2.2 _ _ _ _  h
-- 214: MagazineDepotModel.state(I)I
def fM_state (M : xMem) (this : xId) (a0 : Int32) : Option (Int32 × xMem) :=
  (fM_isIn M a0 (0 : Int32) (32767 : Int32)).bind fun q1 =>
  if q1.1 = 0 then (
    some ((-1 : Int32), q1.2))
  else
  (xob q1.2 (some this) 8).bind fun u2 =>
  (fM_beginsAt q1.2 u2 a0).bind fun q3 =>
  if 0 ≤ q3.1 then (
    (xgR q3.2 (some this) 8 18).bind fun v4 =>
    (xaI q3.2 v4 q3.1).bind fun v5 =>
    some (v5, q3.2))
  else
  some ((-2 : Int32), q3.2)
set_option maxRecDepth 20000 in
theorem TfM_state {M M' : xMem} {r : Int32} (this : xId) (a0 : Int32) (h : fM_state M this a0 = some (r, M')) : xrun none 2 214 0 ([some (.inr (.inr (some this))), some (.inl a0), none]) ([]) M (some (.inl r), M') := by
  unfold fM_state at h
  refine xr_iload_n (pc' := 1) rfl rfl rfl ?_
  refine xr_iconst (v := 0) (pc' := 2) rfl (by decide) rfl ?_
  refine xr_sipush (v := 32767) (pc' := 5) rfl (by decide) rfl ?_
  obtain ⟨q1, hq1, h⟩ := xbind h
  refine xr_callS (pc' := 8) (As := [_, _, _]) (rest := _) rfl (by decide) mL_163 rfl (Nat.le_of_ble_eq_true rfl) rfl (Nat.le_of_ble_eq_true rfl) (TfM_isIn _ _ _ hq1) rfl ?_
  rcases xite h with ⟨hc, h⟩ | ⟨hc, h⟩
  · refine xr_if_ne_f (pc' := 11) rfl hc rfl ?_
    refine xr_iconst (v := -1) (pc' := 12) rfl (by decide) rfl ?_
    obtain ⟨rfl, rfl⟩ := xsome2 h
    exact xr_iret rfl mR_214
  · refine xr_if_ne_t (t := 13) rfl hc ?_
    refine xr_aload_n (pc' := 14) rfl rfl rfl ?_
    refine xr_iload_n (pc' := 15) rfl rfl rfl ?_
    obtain ⟨u2, hu2, h⟩ := xbind h
    obtain ⟨q3, hq3, h⟩ := xbind h
    refine xr_callV (pc' := 18) (C := 8) (As := [_]) (rest := _) rfl hu2 mC_188 mL_188 rfl (Nat.le_of_ble_eq_true rfl) rfl (Nat.le_of_ble_eq_true rfl) (TfM_beginsAt _ _ hq3) rfl ?_
    refine xr_istore_n (pc' := 19) rfl rfl rfl ?_
    refine xr_iload_n (pc' := 20) rfl rfl rfl ?_
    rcases xite h with ⟨hc, h⟩ | ⟨hc, h⟩
    · refine xr_if_ge_t (t := 28) rfl hc ?_
      refine xr_aload_n (pc' := 29) rfl rfl rfl ?_
      obtain ⟨v4, hv4, h⟩ := xbind h
      refine xr_getR (pc' := 32) rfl (by decide) hv4 rfl ?_
      refine xr_iload_n (pc' := 33) rfl rfl rfl ?_
      obtain ⟨v5, hv5, h⟩ := xbind h
      refine xr_aI (pc' := 34) rfl hv5 rfl ?_
      obtain ⟨rfl, rfl⟩ := xsome2 h
      exact xr_iret rfl mR_214
    · refine xr_if_ge_f (pc' := 23) rfl hc rfl ?_
      refine xr_bipush (v := -2) (pc' := 25) rfl (by decide) rfl ?_
      refine xr_goto (t := 34) rfl ?_
      obtain ⟨rfl, rfl⟩ := xsome2 h
      exact xr_iret rfl mR_214
