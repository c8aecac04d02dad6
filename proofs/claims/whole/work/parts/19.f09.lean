/-! shallow functions of the methods (by program, out of the bytecode), and that a run is what they say -/
-- 216: MagazineDepotModel.ownerOf(I)I
def fM_ownerOf (M : xMem) (this : xId) (a0 : Int32) : Option (Int32 × xMem) :=
  (xgR M (some this) 8 16).bind fun v1 =>
  (xaI M v1 (a0 / (1024 : Int32))).bind fun v2 =>
  if 0 ≤ v2 then (
    if (32 : Int32) ≤ (a0 - a0 / (1024 : Int32) * (1024 : Int32)) then (
      (xgR M (some this) 8 17).bind fun v3 =>
      (xaI M v3 (a0 / (1024 : Int32))).bind fun v4 =>
      if ((32 : Int32) + v4) ≤ (a0 - a0 / (1024 : Int32) * (1024 : Int32)) then (
        (xgR M (some this) 8 17).bind fun v5 =>
        (xaI M v5 (a0 / (1024 : Int32))).bind fun v6 =>
        (xgR M (some this) 8 1).bind fun v7 =>
        (xaI M v7 v2).bind fun v8 =>
        if v8 = 0 then none else
        let x9 : Int32 := ((((a0 - a0 / (1024 : Int32) * (1024 : Int32)) - (32 : Int32)) - v6) / v8)
        (xob M (some this) 8).bind fun u10 =>
        (fM_per M u10 v2).bind fun q11 =>
        if x9 < q11.1 then (
          (xgR q11.2 (some this) 8 18).bind fun v12 =>
          (xaI q11.2 v12 (((62 : Int32) * (a0 / (1024 : Int32))) + x9)).bind fun v13 =>
          if v13 = (1 : Int32) then (
            some ((4 : Int32), q11.2))
          else
          if v13 = (2 : Int32) then (
            some ((5 : Int32), q11.2))
          else
          some ((6 : Int32), q11.2))
        else
        some ((3 : Int32), q11.2))
      else
      some ((2 : Int32), M))
    else
    some ((1 : Int32), M))
  else
  some ((0 : Int32), M)
set_option maxRecDepth 20000 in
theorem TfM_ownerOf {M M' : xMem} {r : Int32} (this : xId) (a0 : Int32) (h : fM_ownerOf M this a0 = some (r, M')) : xrun none 1 216 0 ([some (.inr (.inr (some this))), some (.inl a0), none, none, none, none, none]) ([]) M (some (.inl r), M') := by
  unfold fM_ownerOf at h
  refine xr_iload_n (pc' := 1) rfl rfl rfl ?_
  refine xr_sipush (v := 1024) (pc' := 4) rfl (by decide) rfl ?_
  refine xr_idiv (pc' := 5) rfl (by decide) rfl ?_
  refine xr_istore_n (pc' := 6) rfl rfl rfl ?_
  refine xr_aload_n (pc' := 7) rfl rfl rfl ?_
  obtain ⟨v1, hv1, h⟩ := xbind h
  refine xr_getR (pc' := 10) rfl (by decide) hv1 rfl ?_
  refine xr_iload_n (pc' := 11) rfl rfl rfl ?_
  obtain ⟨v2, hv2, h⟩ := xbind h
  refine xr_aI (pc' := 12) rfl hv2 rfl ?_
  refine xr_istore_n (pc' := 13) rfl rfl rfl ?_
  refine xr_iload_n (pc' := 14) rfl rfl rfl ?_
  rcases xite h with ⟨hc, h⟩ | ⟨hc, h⟩
  · refine xr_if_ge_t (t := 19) rfl hc ?_
    refine xr_iload_n (pc' := 20) rfl rfl rfl ?_
    refine xr_sipush (v := 1024) (pc' := 23) rfl (by decide) rfl ?_
    refine xr_irem (pc' := 24) rfl (by decide) rfl ?_
    refine xr_istore (pc' := 26) rfl rfl rfl ?_
    refine xr_iload (pc' := 28) rfl rfl rfl ?_
    refine xr_bipush (v := 32) (pc' := 30) rfl (by decide) rfl ?_
    rcases xite h with ⟨hc, h⟩ | ⟨hc, h⟩
    · refine xr_icmp_ge_t (t := 35) rfl hc ?_
      refine xr_iload (pc' := 37) rfl rfl rfl ?_
      refine xr_bipush (v := 32) (pc' := 39) rfl (by decide) rfl ?_
      refine xr_aload_n (pc' := 40) rfl rfl rfl ?_
      obtain ⟨v3, hv3, h⟩ := xbind h
      refine xr_getR (pc' := 43) rfl (by decide) hv3 rfl ?_
      refine xr_iload_n (pc' := 44) rfl rfl rfl ?_
      obtain ⟨v4, hv4, h⟩ := xbind h
      refine xr_aI (pc' := 45) rfl hv4 rfl ?_
      refine xr_iadd (pc' := 46) rfl rfl ?_
      rcases xite h with ⟨hc, h⟩ | ⟨hc, h⟩
      · refine xr_icmp_ge_t (t := 51) rfl hc ?_
        refine xr_iload (pc' := 53) rfl rfl rfl ?_
        refine xr_bipush (v := 32) (pc' := 55) rfl (by decide) rfl ?_
        refine xr_isub (pc' := 56) rfl rfl ?_
        refine xr_aload_n (pc' := 57) rfl rfl rfl ?_
        obtain ⟨v5, hv5, h⟩ := xbind h
        refine xr_getR (pc' := 60) rfl (by decide) hv5 rfl ?_
        refine xr_iload_n (pc' := 61) rfl rfl rfl ?_
        obtain ⟨v6, hv6, h⟩ := xbind h
        refine xr_aI (pc' := 62) rfl hv6 rfl ?_
        refine xr_isub (pc' := 63) rfl rfl ?_
        refine xr_aload_n (pc' := 64) rfl rfl rfl ?_
        obtain ⟨v7, hv7, h⟩ := xbind h
        refine xr_getR (pc' := 67) rfl (by decide) hv7 rfl ?_
        refine xr_iload_n (pc' := 68) rfl rfl rfl ?_
        obtain ⟨v8, hv8, h⟩ := xbind h
        refine xr_aI (pc' := 69) rfl hv8 rfl ?_
        rcases xite h with ⟨hc, h⟩ | ⟨hc, h⟩
        · cases h
        refine xr_idiv (pc' := 70) rfl hc rfl ?_
        refine xr_istore (pc' := 72) rfl rfl rfl ?_
        refine xr_iload (pc' := 74) rfl rfl rfl ?_
        refine xr_aload_n (pc' := 75) rfl rfl rfl ?_
        refine xr_iload_n (pc' := 76) rfl rfl rfl ?_
        obtain ⟨u10, hu10, h⟩ := xbind h
        obtain ⟨q11, hq11, h⟩ := xbind h
        refine xr_callV (pc' := 79) (C := 8) (As := [_]) (rest := _) rfl hu10 mC_177 mL_177 rfl (Nat.le_of_ble_eq_true rfl) rfl (Nat.le_of_ble_eq_true rfl) (TfM_per _ _ hq11) rfl ?_
        rcases xite h with ⟨hc, h⟩ | ⟨hc, h⟩
        · refine xr_icmp_lt_t (t := 84) rfl hc ?_
          refine xr_aload_n (pc' := 85) rfl rfl rfl ?_
          obtain ⟨v12, hv12, h⟩ := xbind h
          refine xr_getR (pc' := 88) rfl (by decide) hv12 rfl ?_
          refine xr_bipush (v := 62) (pc' := 90) rfl (by decide) rfl ?_
          refine xr_iload_n (pc' := 91) rfl rfl rfl ?_
          refine xr_imul (pc' := 92) rfl rfl ?_
          refine xr_iload (pc' := 94) rfl rfl rfl ?_
          refine xr_iadd (pc' := 95) rfl rfl ?_
          obtain ⟨v13, hv13, h⟩ := xbind h
          refine xr_aI (pc' := 96) rfl hv13 rfl ?_
          refine xr_istore (pc' := 98) rfl rfl rfl ?_
          refine xr_iload (pc' := 100) rfl rfl rfl ?_
          refine xr_iconst (v := 1) (pc' := 101) rfl (by decide) rfl ?_
          rcases xite h with ⟨hc, h⟩ | ⟨hc, h⟩
          · refine xr_icmp_ne_f (pc' := 104) rfl hc rfl ?_
            refine xr_iconst (v := 4) (pc' := 105) rfl (by decide) rfl ?_
            refine xr_goto (t := 120) rfl ?_
            obtain ⟨rfl, rfl⟩ := xsome2 h
            exact xr_iret rfl mR_216
          · refine xr_icmp_ne_t (t := 108) rfl hc ?_
            refine xr_iload (pc' := 110) rfl rfl rfl ?_
            refine xr_iconst (v := 2) (pc' := 111) rfl (by decide) rfl ?_
            rcases xite h with ⟨hc, h⟩ | ⟨hc, h⟩
            · refine xr_icmp_ne_f (pc' := 114) rfl hc rfl ?_
              refine xr_iconst (v := 5) (pc' := 115) rfl (by decide) rfl ?_
              refine xr_goto (t := 120) rfl ?_
              obtain ⟨rfl, rfl⟩ := xsome2 h
              exact xr_iret rfl mR_216
            · refine xr_icmp_ne_t (t := 118) rfl hc ?_
              refine xr_bipush (v := 6) (pc' := 120) rfl (by decide) rfl ?_
              obtain ⟨rfl, rfl⟩ := xsome2 h
              exact xr_iret rfl mR_216
        · refine xr_icmp_lt_f (pc' := 82) rfl hc rfl ?_
          refine xr_iconst (v := 3) (pc' := 83) rfl (by decide) rfl ?_
          obtain ⟨rfl, rfl⟩ := xsome2 h
          exact xr_iret rfl mR_216
      · refine xr_icmp_ge_f (pc' := 49) rfl hc rfl ?_
        refine xr_iconst (v := 2) (pc' := 50) rfl (by decide) rfl ?_
        obtain ⟨rfl, rfl⟩ := xsome2 h
        exact xr_iret rfl mR_216
    · refine xr_icmp_ge_f (pc' := 33) rfl hc rfl ?_
      refine xr_iconst (v := 1) (pc' := 34) rfl (by decide) rfl ?_
      obtain ⟨rfl, rfl⟩ := xsome2 h
      exact xr_iret rfl mR_216
  · refine xr_if_ge_f (pc' := 17) rfl hc rfl ?_
    refine xr_iconst (v := 0) (pc' := 18) rfl (by decide) rfl ?_
    obtain ⟨rfl, rfl⟩ := xsome2 h
    exact xr_iret rfl mR_216
-- 215: MagazineDepotModel.owner(I)I
def fM_owner (M : xMem) (this : xId) (a0 : Int32) : Option (Int32 × xMem) :=
  (fM_isIn M a0 (0 : Int32) (32767 : Int32)).bind fun q1 =>
  if q1.1 = 0 then (
    some ((-1 : Int32), q1.2))
  else
  (xob q1.2 (some this) 8).bind fun u2 =>
  (fM_ownerOf q1.2 u2 a0).bind fun q3 =>
  some (q3.1, q3.2)
set_option maxRecDepth 20000 in
theorem TfM_owner {M M' : xMem} {r : Int32} (this : xId) (a0 : Int32) (h : fM_owner M this a0 = some (r, M')) : xrun none 2 215 0 ([some (.inr (.inr (some this))), some (.inl a0)]) ([]) M (some (.inl r), M') := by
  unfold fM_owner at h
  refine xr_iload_n (pc' := 1) rfl rfl rfl ?_
  refine xr_iconst (v := 0) (pc' := 2) rfl (by decide) rfl ?_
  refine xr_sipush (v := 32767) (pc' := 5) rfl (by decide) rfl ?_
  obtain ⟨q1, hq1, h⟩ := xbind h
  refine xr_callS (pc' := 8) (As := [_, _, _]) (rest := _) rfl (by decide) mL_163 rfl (Nat.le_of_ble_eq_true rfl) rfl (Nat.le_of_ble_eq_true rfl) (TfM_isIn _ _ _ hq1) rfl ?_
  rcases xite h with ⟨hc, h⟩ | ⟨hc, h⟩
  · refine xr_if_eq_t (t := 19) rfl hc ?_
    refine xr_iconst (v := -1) (pc' := 20) rfl (by decide) rfl ?_
    obtain ⟨rfl, rfl⟩ := xsome2 h
    exact xr_iret rfl mR_215
  · refine xr_if_eq_f (pc' := 11) rfl hc rfl ?_
    refine xr_aload_n (pc' := 12) rfl rfl rfl ?_
    refine xr_iload_n (pc' := 13) rfl rfl rfl ?_
    obtain ⟨u2, hu2, h⟩ := xbind h
    obtain ⟨q3, hq3, h⟩ := xbind h
    refine xr_callV (pc' := 16) (C := 8) (As := [_]) (rest := _) rfl hu2 mC_216 mL_216 rfl (Nat.le_of_ble_eq_true rfl) rfl (Nat.le_of_ble_eq_true rfl) (TfM_ownerOf _ _ hq3) rfl ?_
    refine xr_goto (t := 20) rfl ?_
    obtain ⟨rfl, rfl⟩ := xsome2 h
    exact xr_iret rfl mR_215
-- 218: MagazineDepotModel.bytesIn(II)I
def fM_bytesIn_107  (M : xMem)  (s0 : Int32) (s1 : Option xId) (s2 : Int32) (s3 : Int32) : Option (Int32 × xMem) :=
  (xob M s1 8).bind fun u11 =>
  (fM_manyIn M u11 s2 s3).bind fun q12 =>
  some ((s0 * q12.1), q12.2)
set_option maxRecDepth 20000 in
theorem TfM_bytesIn_107 {M' : xMem} {r : Int32}  (M : xMem)  (s0 : Int32) (s1 : Option xId) (s2 : Int32) (s3 : Int32) (o0 : Option xId) (o1 : Int32) (o2 : Int32) (o3 : Int32) (h : fM_bytesIn_107  M  s0 s1 s2 s3 = some (r, M')) : xrun none 2 218 107 ([some (.inr (.inr o0)), some (.inl o1), some (.inl o2), some (.inl o3)]) ([.inl s3, .inl s2, .inr (.inr s1), .inl s0]) M (some (.inl r), M') := by
  unfold fM_bytesIn_107 at h
  obtain ⟨u11, hu11, h⟩ := xbind h
  obtain ⟨q12, hq12, h⟩ := xbind h
  refine xr_callV (pc' := 110) (C := 8) (As := [_, _]) (rest := _) rfl hu11 mC_213 mL_213 rfl (Nat.le_of_ble_eq_true rfl) rfl (Nat.le_of_ble_eq_true rfl) (TfM_manyIn _ _ _ hq12) rfl ?_
  refine xr_imul (pc' := 111) rfl rfl ?_
  obtain ⟨rfl, rfl⟩ := xsome2 h
  exact xr_iret rfl mR_218
def fM_bytesIn (M : xMem) (this : xId) (a0 : Int32) (a1 : Int32) : Option (Int32 × xMem) :=
  (xgR M (some this) 8 16).bind fun v1 =>
  (xaI M v1 a0).bind fun v2 =>
  if 0 ≤ v2 then (
    if a1 = 0 then (
      some ((0 : Int32), M))
    else
    if a1 = 1 then (
      some ((32 : Int32), M))
    else
    if a1 = 2 then (
      (xgR M (some this) 8 17).bind fun v3 =>
      (xaI M v3 a0).bind fun v4 =>
      some (v4, M))
    else
    if a1 = 3 then (
      (xgR M (some this) 8 17).bind fun v5 =>
      (xaI M v5 a0).bind fun v6 =>
      (xob M (some this) 8).bind fun u7 =>
      (fM_tailOf M u7 v2 v6).bind fun q8 =>
      some (q8.1, q8.2))
    else
    (xgR M (some this) 8 1).bind fun v9 =>
    (xaI M v9 v2).bind fun v10 =>
    if a1 = (4 : Int32) then (
      fM_bytesIn_107  M  v10 (some this) a0 (1 : Int32))
    else
    if a1 = (5 : Int32) then (
      fM_bytesIn_107  M  v10 (some this) a0 (2 : Int32))
    else
    fM_bytesIn_107  M  v10 (some this) a0 (0 : Int32))
  else
  if a1 = 0 then (
    some ((1024 : Int32), M))
  else
  some ((0 : Int32), M)
set_option maxRecDepth 20000 in
theorem TfM_bytesIn {M M' : xMem} {r : Int32} (this : xId) (a0 : Int32) (a1 : Int32) (h : fM_bytesIn M this a0 a1 = some (r, M')) : xrun none 2 218 0 ([some (.inr (.inr (some this))), some (.inl a0), some (.inl a1), none]) ([]) M (some (.inl r), M') := by
  unfold fM_bytesIn at h
  refine xr_aload_n (pc' := 1) rfl rfl rfl ?_
  obtain ⟨v1, hv1, h⟩ := xbind h
  refine xr_getR (pc' := 4) rfl (by decide) hv1 rfl ?_
  refine xr_iload_n (pc' := 5) rfl rfl rfl ?_
  obtain ⟨v2, hv2, h⟩ := xbind h
  refine xr_aI (pc' := 6) rfl hv2 rfl ?_
  refine xr_istore_n (pc' := 7) rfl rfl rfl ?_
  refine xr_iload_n (pc' := 8) rfl rfl rfl ?_
  rcases xite h with ⟨hc, h⟩ | ⟨hc, h⟩
  · refine xr_if_ge_t (t := 23) rfl hc ?_
    refine xr_iload_n (pc' := 24) rfl rfl rfl ?_
    rcases xite h with ⟨hc24_0, h⟩ | ⟨hc24_0, h⟩
    · refine xr_tsw_in (t := 56) rfl (by rw [hc24_0]; decide) (by rw [hc24_0]; rfl) (by decide) ?_
      refine xr_iconst (v := 0) (pc' := 57) rfl (by decide) rfl ?_
      obtain ⟨rfl, rfl⟩ := xsome2 h
      exact xr_iret rfl mR_218
    rcases xite h with ⟨hc24_1, h⟩ | ⟨hc24_1, h⟩
    · refine xr_tsw_in (t := 58) rfl (by rw [hc24_1]; decide) (by rw [hc24_1]; rfl) (by decide) ?_
      refine xr_bipush (v := 32) (pc' := 60) rfl (by decide) rfl ?_
      obtain ⟨rfl, rfl⟩ := xsome2 h
      exact xr_iret rfl mR_218
    rcases xite h with ⟨hc24_2, h⟩ | ⟨hc24_2, h⟩
    · refine xr_tsw_in (t := 61) rfl (by rw [hc24_2]; decide) (by rw [hc24_2]; rfl) (by decide) ?_
      refine xr_aload_n (pc' := 62) rfl rfl rfl ?_
      obtain ⟨v3, hv3, h⟩ := xbind h
      refine xr_getR (pc' := 65) rfl (by decide) hv3 rfl ?_
      refine xr_iload_n (pc' := 66) rfl rfl rfl ?_
      obtain ⟨v4, hv4, h⟩ := xbind h
      refine xr_aI (pc' := 67) rfl hv4 rfl ?_
      obtain ⟨rfl, rfl⟩ := xsome2 h
      exact xr_iret rfl mR_218
    rcases xite h with ⟨hc24_3, h⟩ | ⟨hc24_3, h⟩
    · refine xr_tsw_in (t := 68) rfl (by rw [hc24_3]; decide) (by rw [hc24_3]; rfl) (by decide) ?_
      refine xr_aload_n (pc' := 69) rfl rfl rfl ?_
      refine xr_iload_n (pc' := 70) rfl rfl rfl ?_
      refine xr_aload_n (pc' := 71) rfl rfl rfl ?_
      obtain ⟨v5, hv5, h⟩ := xbind h
      refine xr_getR (pc' := 74) rfl (by decide) hv5 rfl ?_
      refine xr_iload_n (pc' := 75) rfl rfl rfl ?_
      obtain ⟨v6, hv6, h⟩ := xbind h
      refine xr_aI (pc' := 76) rfl hv6 rfl ?_
      obtain ⟨u7, hu7, h⟩ := xbind h
      obtain ⟨q8, hq8, h⟩ := xbind h
      refine xr_callV (pc' := 79) (C := 8) (As := [_, _]) (rest := _) rfl hu7 mC_180 mL_180 rfl (Nat.le_of_ble_eq_true rfl) rfl (Nat.le_of_ble_eq_true rfl) (TfM_tailOf _ _ _ hq8) rfl ?_
      obtain ⟨rfl, rfl⟩ := xsome2 h
      exact xr_iret rfl mR_218
    have hc24_0 := lv_neT hc24_0 (by decide : (0 : Int32).toInt = 0)
    have hc24_1 := lv_neT hc24_1 (by decide : (1 : Int32).toInt = 1)
    have hc24_2 := lv_neT hc24_2 (by decide : (2 : Int32).toInt = 2)
    have hc24_3 := lv_neT hc24_3 (by decide : (3 : Int32).toInt = 3)
    refine xr_tsw_out (t := 80) rfl (by omega) (by decide) ?_
    refine xr_aload_n (pc' := 81) rfl rfl rfl ?_
    obtain ⟨v9, hv9, h⟩ := xbind h
    refine xr_getR (pc' := 84) rfl (by decide) hv9 rfl ?_
    refine xr_iload_n (pc' := 85) rfl rfl rfl ?_
    obtain ⟨v10, hv10, h⟩ := xbind h
    refine xr_aI (pc' := 86) rfl hv10 rfl ?_
    refine xr_aload_n (pc' := 87) rfl rfl rfl ?_
    refine xr_iload_n (pc' := 88) rfl rfl rfl ?_
    refine xr_iload_n (pc' := 89) rfl rfl rfl ?_
    refine xr_iconst (v := 4) (pc' := 90) rfl (by decide) rfl ?_
    rcases xite h with ⟨hc, h⟩ | ⟨hc, h⟩
    · refine xr_icmp_ne_f (pc' := 93) rfl hc rfl ?_
      refine xr_iconst (v := 1) (pc' := 94) rfl (by decide) rfl ?_
      refine xr_goto (t := 107) rfl ?_
      exact TfM_bytesIn_107   M  _ _ _ _ _ _ _ _ h
    · refine xr_icmp_ne_t (t := 97) rfl hc ?_
      refine xr_iload_n (pc' := 98) rfl rfl rfl ?_
      refine xr_iconst (v := 5) (pc' := 99) rfl (by decide) rfl ?_
      rcases xite h with ⟨hc, h⟩ | ⟨hc, h⟩
      · refine xr_icmp_ne_f (pc' := 102) rfl hc rfl ?_
        refine xr_iconst (v := 2) (pc' := 103) rfl (by decide) rfl ?_
        refine xr_goto (t := 107) rfl ?_
        exact TfM_bytesIn_107   M  _ _ _ _ _ _ _ _ h
      · refine xr_icmp_ne_t (t := 106) rfl hc ?_
        refine xr_iconst (v := 0) (pc' := 107) rfl (by decide) rfl ?_
        exact TfM_bytesIn_107   M  _ _ _ _ _ _ _ _ h
  · refine xr_if_ge_f (pc' := 11) rfl hc rfl ?_
    refine xr_iload_n (pc' := 12) rfl rfl rfl ?_
    rcases xite h with ⟨hc, h⟩ | ⟨hc, h⟩
    · refine xr_if_ne_f (pc' := 15) rfl hc rfl ?_
      refine xr_sipush (v := 1024) (pc' := 18) rfl (by decide) rfl ?_
      refine xr_goto (t := 22) rfl ?_
      obtain ⟨rfl, rfl⟩ := xsome2 h
      exact xr_iret rfl mR_218
    · refine xr_if_ne_t (t := 21) rfl hc ?_
      refine xr_iconst (v := 0) (pc' := 22) rfl (by decide) rfl ?_
      obtain ⟨rfl, rfl⟩ := xsome2 h
      exact xr_iret rfl mR_218
-- 217: MagazineDepotModel.bytes(I)I
def fM_bytes_16  : Nat → xMem → Option xId → Int32 → Int32 → Int32 → Option (Int32 × xMem)
  | 0, _, _, _, _, _ => none
  | n + 1, M, l0, l1, l2, l3 =>
    if (32 : Int32) ≤ l3 then (
      some (l2, M))
    else
    (xob M l0 8).bind fun u2 =>
    (fM_bytesIn M u2 l3 l1).bind fun q3 =>
    fM_bytes_16  n q3.2 l0 l1 (l2 + q3.1) (l3 + 1)
set_option maxRecDepth 20000 in
theorem TfM_bytes_16 {M' : xMem} {r : Int32}  : ∀ (n : Nat) (M : xMem) (l0 : Option xId) (l1 : Int32) (l2 : Int32) (l3 : Int32) , fM_bytes_16  n M l0 l1 l2 l3 = some (r, M') → xrun none 3 217 16 ([some (.inr (.inr l0)), some (.inl l1), some (.inl l2), some (.inl l3)]) ([]) M (some (.inl r), M') := by
  intro n
  induction n with
  | zero => intro M l0 l1 l2 l3  h; unfold fM_bytes_16 at h; cases h
  | succ n ih =>
    intro M l0 l1 l2 l3  h
    unfold fM_bytes_16 at h
    refine xr_iload_n (pc' := 17) rfl rfl rfl ?_
    refine xr_bipush (v := 32) (pc' := 19) rfl (by decide) rfl ?_
    rcases xite h with ⟨hc, h⟩ | ⟨hc, h⟩
    · refine xr_icmp_ge_t (t := 37) rfl hc ?_
      refine xr_iload_n (pc' := 38) rfl rfl rfl ?_
      obtain ⟨rfl, rfl⟩ := xsome2 h
      exact xr_iret rfl mR_217
    · refine xr_icmp_ge_f (pc' := 22) rfl hc rfl ?_
      refine xr_iload_n (pc' := 23) rfl rfl rfl ?_
      refine xr_aload_n (pc' := 24) rfl rfl rfl ?_
      refine xr_iload_n (pc' := 25) rfl rfl rfl ?_
      refine xr_iload_n (pc' := 26) rfl rfl rfl ?_
      obtain ⟨u2, hu2, h⟩ := xbind h
      obtain ⟨q3, hq3, h⟩ := xbind h
      refine xr_callV (pc' := 29) (C := 8) (As := [_, _]) (rest := _) rfl hu2 mC_218 mL_218 rfl (Nat.le_of_ble_eq_true rfl) rfl (Nat.le_of_ble_eq_true rfl) (TfM_bytesIn _ _ _ hq3) rfl ?_
      refine xr_iadd (pc' := 30) rfl rfl ?_
      refine xr_istore_n (pc' := 31) rfl rfl rfl ?_
      refine xr_iinc (c := 1) (pc' := 34) rfl (by decide) rfl rfl rfl ?_
      refine xr_goto (t := 16) rfl ?_
      exact ih q3.2 _ _ _ _  h
def fM_bytes (M : xMem) (this : xId) (a0 : Int32) : Option (Int32 × xMem) :=
  (fM_isIn M a0 (0 : Int32) (6 : Int32)).bind fun q1 =>
  if q1.1 = 0 then (
    some ((-1 : Int32), q1.2))
  else
  fM_bytes_16  xF q1.2 (some this) a0 (0 : Int32) (0 : Int32)
set_option maxRecDepth 20000 in
theorem TfM_bytes {M M' : xMem} {r : Int32} (this : xId) (a0 : Int32) (h : fM_bytes M this a0 = some (r, M')) : xrun none 3 217 0 ([some (.inr (.inr (some this))), some (.inl a0), none, none]) ([]) M (some (.inl r), M') := by
  unfold fM_bytes at h
  refine xr_iload_n (pc' := 1) rfl rfl rfl ?_
  refine xr_iconst (v := 0) (pc' := 2) rfl (by decide) rfl ?_
  refine xr_bipush (v := 6) (pc' := 4) rfl (by decide) rfl ?_
  obtain ⟨q1, hq1, h⟩ := xbind h
  refine xr_callS (pc' := 7) (As := [_, _, _]) (rest := _) rfl (by decide) mL_163 rfl (Nat.le_of_ble_eq_true rfl) rfl (Nat.le_of_ble_eq_true rfl) (TfM_isIn _ _ _ hq1) rfl ?_
  rcases xite h with ⟨hc, h⟩ | ⟨hc, h⟩
  · refine xr_if_ne_f (pc' := 10) rfl hc rfl ?_
    refine xr_iconst (v := -1) (pc' := 11) rfl (by decide) rfl ?_
    obtain ⟨rfl, rfl⟩ := xsome2 h
    exact xr_iret rfl mR_217
  · refine xr_if_ne_t (t := 12) rfl hc ?_
    refine xr_iconst (v := 0) (pc' := 13) rfl (by decide) rfl ?_
    refine xr_istore_n (pc' := 14) rfl rfl rfl ?_
    refine xr_iconst (v := 0) (pc' := 15) rfl (by decide) rfl ?_
    refine xr_istore_n (pc' := 16) rfl rfl rfl ?_
    exact TfM_bytes_16   xF q1.2 _ _ _ _  h
-- 219: MagazineDepotModel.page(II)I
def fM_page (M : xMem) (this : xId) (a0 : Int32) (a1 : Int32) : Option (Int32 × xMem) :=
  (fM_isIn M a0 (0 : Int32) (31 : Int32)).bind fun q1 =>
  if q1.1 = 0 then (
    some ((-1 : Int32), q1.2))
  else
  (fM_isIn q1.2 a1 (0 : Int32) (4 : Int32)).bind fun q2 =>
  if q2.1 = 0 then (
    some ((-1 : Int32), q2.2))
  else
  (xgR q2.2 (some this) 8 16).bind fun v3 =>
  (xaI q2.2 v3 a0).bind fun v4 =>
  if 0 ≤ v4 then (
    (xob q2.2 (some this) 8).bind fun u5 =>
    (fM_freeIn q2.2 u5 a0).bind fun q6 =>
    if a1 = 0 then (
      some (v4, q6.2))
    else
    if a1 = 1 then (
      (xgR q6.2 (some this) 8 17).bind fun v7 =>
      (xaI q6.2 v7 a0).bind fun v8 =>
      some (v8, q6.2))
    else
    if a1 = 2 then (
      (xgR q6.2 (some this) 8 17).bind fun v9 =>
      (xaI q6.2 v9 a0).bind fun v10 =>
      (xob q6.2 (some this) 8).bind fun u11 =>
      (fM_tailOf q6.2 u11 v4 v10).bind fun q12 =>
      some (q12.1, q12.2))
    else
    if a1 = 3 then (
      (xob q6.2 (some this) 8).bind fun u13 =>
      (fM_manyIn q6.2 u13 a0 (0 : Int32)).bind fun q14 =>
      some (q14.1, q14.2))
    else
    if 0 ≤ q6.1 then (
      (xob q6.2 (some this) 8).bind fun u15 =>
      (fM_addressOf q6.2 u15 q6.1).bind fun q16 =>
      some (q16.1, q16.2))
    else
    some ((-2 : Int32), q6.2))
  else
  some ((-2 : Int32), q2.2)
set_option maxRecDepth 20000 in
theorem TfM_page {M M' : xMem} {r : Int32} (this : xId) (a0 : Int32) (a1 : Int32) (h : fM_page M this a0 a1 = some (r, M')) : xrun none 2 219 0 ([some (.inr (.inr (some this))), some (.inl a0), some (.inl a1), none, none]) ([]) M (some (.inl r), M') := by
  unfold fM_page at h
  refine xr_iload_n (pc' := 1) rfl rfl rfl ?_
  refine xr_iconst (v := 0) (pc' := 2) rfl (by decide) rfl ?_
  refine xr_bipush (v := 31) (pc' := 4) rfl (by decide) rfl ?_
  obtain ⟨q1, hq1, h⟩ := xbind h
  refine xr_callS (pc' := 7) (As := [_, _, _]) (rest := _) rfl (by decide) mL_163 rfl (Nat.le_of_ble_eq_true rfl) rfl (Nat.le_of_ble_eq_true rfl) (TfM_isIn _ _ _ hq1) rfl ?_
  rcases xite h with ⟨hc, h⟩ | ⟨hc, h⟩
  · refine xr_if_eq_t (t := 19) rfl hc ?_
    refine xr_iconst (v := -1) (pc' := 20) rfl (by decide) rfl ?_
    obtain ⟨rfl, rfl⟩ := xsome2 h
    exact xr_iret rfl mR_219
  · refine xr_if_eq_f (pc' := 10) rfl hc rfl ?_
    refine xr_iload_n (pc' := 11) rfl rfl rfl ?_
    refine xr_iconst (v := 0) (pc' := 12) rfl (by decide) rfl ?_
    refine xr_iconst (v := 4) (pc' := 13) rfl (by decide) rfl ?_
    obtain ⟨q2, hq2, h⟩ := xbind h
    refine xr_callS (pc' := 16) (As := [_, _, _]) (rest := _) rfl (by decide) mL_163 rfl (Nat.le_of_ble_eq_true rfl) rfl (Nat.le_of_ble_eq_true rfl) (TfM_isIn _ _ _ hq2) rfl ?_
    rcases xite h with ⟨hc, h⟩ | ⟨hc, h⟩
    · refine xr_if_ne_f (pc' := 19) rfl hc rfl ?_
      refine xr_iconst (v := -1) (pc' := 20) rfl (by decide) rfl ?_
      obtain ⟨rfl, rfl⟩ := xsome2 h
      exact xr_iret rfl mR_219
    · refine xr_if_ne_t (t := 21) rfl hc ?_
      refine xr_aload_n (pc' := 22) rfl rfl rfl ?_
      obtain ⟨v3, hv3, h⟩ := xbind h
      refine xr_getR (pc' := 25) rfl (by decide) hv3 rfl ?_
      refine xr_iload_n (pc' := 26) rfl rfl rfl ?_
      obtain ⟨v4, hv4, h⟩ := xbind h
      refine xr_aI (pc' := 27) rfl hv4 rfl ?_
      refine xr_istore_n (pc' := 28) rfl rfl rfl ?_
      refine xr_iload_n (pc' := 29) rfl rfl rfl ?_
      rcases xite h with ⟨hc, h⟩ | ⟨hc, h⟩
      · refine xr_if_ge_t (t := 35) rfl hc ?_
        refine xr_aload_n (pc' := 36) rfl rfl rfl ?_
        refine xr_iload_n (pc' := 37) rfl rfl rfl ?_
        obtain ⟨u5, hu5, h⟩ := xbind h
        obtain ⟨q6, hq6, h⟩ := xbind h
        refine xr_callV (pc' := 40) (C := 8) (As := [_]) (rest := _) rfl hu5 mC_176 mL_176 rfl (Nat.le_of_ble_eq_true rfl) rfl (Nat.le_of_ble_eq_true rfl) (TfM_freeIn _ _ hq6) rfl ?_
        refine xr_istore (pc' := 42) rfl rfl rfl ?_
        refine xr_iload_n (pc' := 43) rfl rfl rfl ?_
        rcases xite h with ⟨hc43_0, h⟩ | ⟨hc43_0, h⟩
        · refine xr_tsw_in (t := 72) rfl (by rw [hc43_0]; decide) (by rw [hc43_0]; rfl) (by decide) ?_
          refine xr_iload_n (pc' := 73) rfl rfl rfl ?_
          obtain ⟨rfl, rfl⟩ := xsome2 h
          exact xr_iret rfl mR_219
        rcases xite h with ⟨hc43_1, h⟩ | ⟨hc43_1, h⟩
        · refine xr_tsw_in (t := 74) rfl (by rw [hc43_1]; decide) (by rw [hc43_1]; rfl) (by decide) ?_
          refine xr_aload_n (pc' := 75) rfl rfl rfl ?_
          obtain ⟨v7, hv7, h⟩ := xbind h
          refine xr_getR (pc' := 78) rfl (by decide) hv7 rfl ?_
          refine xr_iload_n (pc' := 79) rfl rfl rfl ?_
          obtain ⟨v8, hv8, h⟩ := xbind h
          refine xr_aI (pc' := 80) rfl hv8 rfl ?_
          obtain ⟨rfl, rfl⟩ := xsome2 h
          exact xr_iret rfl mR_219
        rcases xite h with ⟨hc43_2, h⟩ | ⟨hc43_2, h⟩
        · refine xr_tsw_in (t := 81) rfl (by rw [hc43_2]; decide) (by rw [hc43_2]; rfl) (by decide) ?_
          refine xr_aload_n (pc' := 82) rfl rfl rfl ?_
          refine xr_iload_n (pc' := 83) rfl rfl rfl ?_
          refine xr_aload_n (pc' := 84) rfl rfl rfl ?_
          obtain ⟨v9, hv9, h⟩ := xbind h
          refine xr_getR (pc' := 87) rfl (by decide) hv9 rfl ?_
          refine xr_iload_n (pc' := 88) rfl rfl rfl ?_
          obtain ⟨v10, hv10, h⟩ := xbind h
          refine xr_aI (pc' := 89) rfl hv10 rfl ?_
          obtain ⟨u11, hu11, h⟩ := xbind h
          obtain ⟨q12, hq12, h⟩ := xbind h
          refine xr_callV (pc' := 92) (C := 8) (As := [_, _]) (rest := _) rfl hu11 mC_180 mL_180 rfl (Nat.le_of_ble_eq_true rfl) rfl (Nat.le_of_ble_eq_true rfl) (TfM_tailOf _ _ _ hq12) rfl ?_
          obtain ⟨rfl, rfl⟩ := xsome2 h
          exact xr_iret rfl mR_219
        rcases xite h with ⟨hc43_3, h⟩ | ⟨hc43_3, h⟩
        · refine xr_tsw_in (t := 93) rfl (by rw [hc43_3]; decide) (by rw [hc43_3]; rfl) (by decide) ?_
          refine xr_aload_n (pc' := 94) rfl rfl rfl ?_
          refine xr_iload_n (pc' := 95) rfl rfl rfl ?_
          refine xr_iconst (v := 0) (pc' := 96) rfl (by decide) rfl ?_
          obtain ⟨u13, hu13, h⟩ := xbind h
          obtain ⟨q14, hq14, h⟩ := xbind h
          refine xr_callV (pc' := 99) (C := 8) (As := [_, _]) (rest := _) rfl hu13 mC_213 mL_213 rfl (Nat.le_of_ble_eq_true rfl) rfl (Nat.le_of_ble_eq_true rfl) (TfM_manyIn _ _ _ hq14) rfl ?_
          obtain ⟨rfl, rfl⟩ := xsome2 h
          exact xr_iret rfl mR_219
        have hc43_0 := lv_neT hc43_0 (by decide : (0 : Int32).toInt = 0)
        have hc43_1 := lv_neT hc43_1 (by decide : (1 : Int32).toInt = 1)
        have hc43_2 := lv_neT hc43_2 (by decide : (2 : Int32).toInt = 2)
        have hc43_3 := lv_neT hc43_3 (by decide : (3 : Int32).toInt = 3)
        refine xr_tsw_out (t := 100) rfl (by omega) (by decide) ?_
        refine xr_iload (pc' := 102) rfl rfl rfl ?_
        rcases xite h with ⟨hc, h⟩ | ⟨hc, h⟩
        · refine xr_if_ge_t (t := 110) rfl hc ?_
          refine xr_aload_n (pc' := 111) rfl rfl rfl ?_
          refine xr_iload (pc' := 113) rfl rfl rfl ?_
          obtain ⟨u15, hu15, h⟩ := xbind h
          obtain ⟨q16, hq16, h⟩ := xbind h
          refine xr_callV (pc' := 116) (C := 8) (As := [_]) (rest := _) rfl hu15 mC_181 mL_181 rfl (Nat.le_of_ble_eq_true rfl) rfl (Nat.le_of_ble_eq_true rfl) (TfM_addressOf _ _ hq16) rfl ?_
          obtain ⟨rfl, rfl⟩ := xsome2 h
          exact xr_iret rfl mR_219
        · refine xr_if_ge_f (pc' := 105) rfl hc rfl ?_
          refine xr_bipush (v := -2) (pc' := 107) rfl (by decide) rfl ?_
          refine xr_goto (t := 116) rfl ?_
          obtain ⟨rfl, rfl⟩ := xsome2 h
          exact xr_iret rfl mR_219
      · refine xr_if_ge_f (pc' := 32) rfl hc rfl ?_
        refine xr_bipush (v := -2) (pc' := 34) rfl (by decide) rfl ?_
        obtain ⟨rfl, rfl⟩ := xsome2 h
        exact xr_iret rfl mR_219
-- 220: MagazineDepotModel.map(II)J
def fM_map_81 (k41 : xMem → Option xId → Int32 → Int32 → Int64 → Int32 → Option (Int64 × xMem)) (M : xMem) (l0 : Option xId) (l1 : Int32) (l2 : Int32) (l5 : Int32) (s0 : Int64) (s1 : Int64) : Option (Int64 × xMem) :=
  k41 M l0 l1 l2 (s0 ||| s1) (l5 + 1)
set_option maxRecDepth 20000 in
theorem TfM_map_81 {M' : xMem} {r : Int64} (k41 : xMem → Option xId → Int32 → Int32 → Int64 → Int32 → Option (Int64 × xMem)) (hk41 : ∀ (M : xMem) (l0 : Option xId) (l1 : Int32) (l2 : Int32) (l3 : Int64) (l5 : Int32) , k41 M l0 l1 l2 l3 l5 = some (r, M') → xrun none 1 220 41 ([some (.inr (.inr l0)), some (.inl l1), some (.inl l2), some (.inr (.inl l3)), none, some (.inl l5)]) ([]) M (some (.inr (.inl r)), M')) (M : xMem) (l0 : Option xId) (l1 : Int32) (l2 : Int32) (l5 : Int32) (s0 : Int64) (s1 : Int64) (o3 : Int64) (h : fM_map_81 k41 M l0 l1 l2 l5 s0 s1 = some (r, M')) : xrun none 1 220 81 ([some (.inr (.inr l0)), some (.inl l1), some (.inl l2), some (.inr (.inl o3)), none, some (.inl l5)]) ([.inr (.inl s1), .inr (.inl s0)]) M (some (.inr (.inl r)), M') := by
  unfold fM_map_81 at h
  refine xr_lor (pc' := 82) rfl rfl ?_
  refine xr_lstore_n (pc' := 83) rfl rfl rfl ?_
  refine xr_iinc (c := 1) (pc' := 86) rfl (by decide) rfl rfl rfl ?_
  refine xr_goto (t := 41) rfl ?_
  exact hk41 M _ _ _ _ _  h
def fM_map_41  : Nat → xMem → Option xId → Int32 → Int32 → Int64 → Int32 → Option (Int64 × xMem)
  | 0, _, _, _, _, _, _ => none
  | n + 1, M, l0, l1, l2, l3, l5 =>
    (xgR M l0 8 16).bind fun v5 =>
    (xaI M v5 l1).bind fun v6 =>
    (xob M l0 8).bind fun u7 =>
    (fM_per M u7 v6).bind fun q8 =>
    if q8.1 ≤ l5 then (
      some (l3, q8.2))
    else
    (xgR q8.2 l0 8 18).bind fun v9 =>
    (xaI q8.2 v9 (((62 : Int32) * l1) + l5)).bind fun v10 =>
    if v10 = l2 then (
      fM_map_81 (fun M l0 l1 l2 l3 l5 => fM_map_41  n M l0 l1 l2 l3 l5) q8.2 l0 l1 l2 l5 l3 ((1 : Int64) <<< (Int32.toInt64 l5 &&& 63)))
    else
    fM_map_81 (fun M l0 l1 l2 l3 l5 => fM_map_41  n M l0 l1 l2 l3 l5) q8.2 l0 l1 l2 l5 l3 (0 : Int64)
set_option maxRecDepth 20000 in
theorem TfM_map_41 {M' : xMem} {r : Int64}  : ∀ (n : Nat) (M : xMem) (l0 : Option xId) (l1 : Int32) (l2 : Int32) (l3 : Int64) (l5 : Int32) , fM_map_41  n M l0 l1 l2 l3 l5 = some (r, M') → xrun none 1 220 41 ([some (.inr (.inr l0)), some (.inl l1), some (.inl l2), some (.inr (.inl l3)), none, some (.inl l5)]) ([]) M (some (.inr (.inl r)), M') := by
  intro n
  induction n with
  | zero => intro M l0 l1 l2 l3 l5  h; unfold fM_map_41 at h; cases h
  | succ n ih =>
    intro M l0 l1 l2 l3 l5  h
    unfold fM_map_41 at h
    refine xr_iload (pc' := 43) rfl rfl rfl ?_
    refine xr_aload_n (pc' := 44) rfl rfl rfl ?_
    refine xr_aload_n (pc' := 45) rfl rfl rfl ?_
    obtain ⟨v5, hv5, h⟩ := xbind h
    refine xr_getR (pc' := 48) rfl (by decide) hv5 rfl ?_
    refine xr_iload_n (pc' := 49) rfl rfl rfl ?_
    obtain ⟨v6, hv6, h⟩ := xbind h
    refine xr_aI (pc' := 50) rfl hv6 rfl ?_
    obtain ⟨u7, hu7, h⟩ := xbind h
    obtain ⟨q8, hq8, h⟩ := xbind h
    refine xr_callV (pc' := 53) (C := 8) (As := [_]) (rest := _) rfl hu7 mC_177 mL_177 rfl (Nat.le_of_ble_eq_true rfl) rfl (Nat.le_of_ble_eq_true rfl) (TfM_per _ _ hq8) rfl ?_
    rcases xite h with ⟨hc, h⟩ | ⟨hc, h⟩
    · refine xr_icmp_ge_t (t := 89) rfl hc ?_
      refine xr_lload_n (pc' := 90) rfl rfl rfl ?_
      obtain ⟨rfl, rfl⟩ := xsome2 h
      exact xr_lret rfl mR_220
    · refine xr_icmp_ge_f (pc' := 56) rfl hc rfl ?_
      refine xr_lload_n (pc' := 57) rfl rfl rfl ?_
      refine xr_aload_n (pc' := 58) rfl rfl rfl ?_
      obtain ⟨v9, hv9, h⟩ := xbind h
      refine xr_getR (pc' := 61) rfl (by decide) hv9 rfl ?_
      refine xr_bipush (v := 62) (pc' := 63) rfl (by decide) rfl ?_
      refine xr_iload_n (pc' := 64) rfl rfl rfl ?_
      refine xr_imul (pc' := 65) rfl rfl ?_
      refine xr_iload (pc' := 67) rfl rfl rfl ?_
      refine xr_iadd (pc' := 68) rfl rfl ?_
      obtain ⟨v10, hv10, h⟩ := xbind h
      refine xr_aI (pc' := 69) rfl hv10 rfl ?_
      refine xr_iload_n (pc' := 70) rfl rfl rfl ?_
      rcases xite h with ⟨hc, h⟩ | ⟨hc, h⟩
      · refine xr_icmp_ne_f (pc' := 73) rfl hc rfl ?_
        refine xr_lconst (v := 1) (pc' := 74) rfl (by decide) rfl ?_
        refine xr_iload (pc' := 76) rfl rfl rfl ?_
        refine xr_lshl (pc' := 77) rfl rfl ?_
        refine xr_goto (t := 81) rfl ?_
        exact TfM_map_81 _ (fun M l0 l1 l2 l3 l5  h => ih M l0 l1 l2 l3 l5  h) q8.2 _ _ _ _ _ _ _ h
      · refine xr_icmp_ne_t (t := 80) rfl hc ?_
        refine xr_lconst (v := 0) (pc' := 81) rfl (by decide) rfl ?_
        exact TfM_map_81 _ (fun M l0 l1 l2 l3 l5  h => ih M l0 l1 l2 l3 l5  h) q8.2 _ _ _ _ _ _ _ h
def fM_map (M : xMem) (this : xId) (a0 : Int32) (a1 : Int32) : Option (Int64 × xMem) :=
  (fM_isIn M a0 (0 : Int32) (31 : Int32)).bind fun q1 =>
  if q1.1 = 0 then (
    some ((-1 : Int64), q1.2))
  else
  (fM_isIn q1.2 a1 (0 : Int32) (1 : Int32)).bind fun q2 =>
  if q2.1 = 0 then (
    some ((-1 : Int64), q2.2))
  else
  (xgR q2.2 (some this) 8 16).bind fun v3 =>
  (xaI q2.2 v3 a0).bind fun v4 =>
  if 0 ≤ v4 then (
    fM_map_41  xF q2.2 (some this) a0 a1 (0 : Int64) (0 : Int32))
  else
  some ((-2 : Int64), q2.2)
set_option maxRecDepth 20000 in
theorem TfM_map {M M' : xMem} {r : Int64} (this : xId) (a0 : Int32) (a1 : Int32) (h : fM_map M this a0 a1 = some (r, M')) : xrun none 1 220 0 ([some (.inr (.inr (some this))), some (.inl a0), some (.inl a1), none, none, none]) ([]) M (some (.inr (.inl r)), M') := by
  unfold fM_map at h
  refine xr_iload_n (pc' := 1) rfl rfl rfl ?_
  refine xr_iconst (v := 0) (pc' := 2) rfl (by decide) rfl ?_
  refine xr_bipush (v := 31) (pc' := 4) rfl (by decide) rfl ?_
  obtain ⟨q1, hq1, h⟩ := xbind h
  refine xr_callS (pc' := 7) (As := [_, _, _]) (rest := _) rfl (by decide) mL_163 rfl (Nat.le_of_ble_eq_true rfl) rfl (Nat.le_of_ble_eq_true rfl) (TfM_isIn _ _ _ hq1) rfl ?_
  rcases xite h with ⟨hc, h⟩ | ⟨hc, h⟩
  · refine xr_if_eq_t (t := 19) rfl hc ?_
    refine xr_ldc2_w (v := -1) (pc' := 22) rfl (by decide) rfl ?_
    obtain ⟨rfl, rfl⟩ := xsome2 h
    exact xr_lret rfl mR_220
  · refine xr_if_eq_f (pc' := 10) rfl hc rfl ?_
    refine xr_iload_n (pc' := 11) rfl rfl rfl ?_
    refine xr_iconst (v := 0) (pc' := 12) rfl (by decide) rfl ?_
    refine xr_iconst (v := 1) (pc' := 13) rfl (by decide) rfl ?_
    obtain ⟨q2, hq2, h⟩ := xbind h
    refine xr_callS (pc' := 16) (As := [_, _, _]) (rest := _) rfl (by decide) mL_163 rfl (Nat.le_of_ble_eq_true rfl) rfl (Nat.le_of_ble_eq_true rfl) (TfM_isIn _ _ _ hq2) rfl ?_
    rcases xite h with ⟨hc, h⟩ | ⟨hc, h⟩
    · refine xr_if_ne_f (pc' := 19) rfl hc rfl ?_
      refine xr_ldc2_w (v := -1) (pc' := 22) rfl (by decide) rfl ?_
      obtain ⟨rfl, rfl⟩ := xsome2 h
      exact xr_lret rfl mR_220
    · refine xr_if_ne_t (t := 23) rfl hc ?_
      refine xr_aload_n (pc' := 24) rfl rfl rfl ?_
      obtain ⟨v3, hv3, h⟩ := xbind h
      refine xr_getR (pc' := 27) rfl (by decide) hv3 rfl ?_
      refine xr_iload_n (pc' := 28) rfl rfl rfl ?_
      obtain ⟨v4, hv4, h⟩ := xbind h
      refine xr_aI (pc' := 29) rfl hv4 rfl ?_
      rcases xite h with ⟨hc, h⟩ | ⟨hc, h⟩
      · refine xr_if_ge_t (t := 36) rfl hc ?_
        refine xr_lconst (v := 0) (pc' := 37) rfl (by decide) rfl ?_
        refine xr_lstore_n (pc' := 38) rfl rfl rfl ?_
        refine xr_iconst (v := 0) (pc' := 39) rfl (by decide) rfl ?_
        refine xr_istore (pc' := 41) rfl rfl rfl ?_
        exact TfM_map_41   xF q2.2 _ _ _ _ _  h
      · refine xr_if_ge_f (pc' := 32) rfl hc rfl ?_
        refine xr_ldc2_w (v := -2) (pc' := 35) rfl (by decide) rfl ?_
        obtain ⟨rfl, rfl⟩ := xsome2 h
        exact xr_lret rfl mR_220
-- 222: MagazineDepotModel.slabsOf(I)I
def fM_slabsOf_26 (k4 : xMem → Option xId → Int32 → Int32 → Int32 → Option (Int32 × xMem)) (M : xMem) (l0 : Option xId) (l1 : Int32) (l3 : Int32) (s0 : Int32) (s1 : Int32) : Option (Int32 × xMem) :=
  k4 M l0 l1 (s0 + s1) (l3 + 1)
set_option maxRecDepth 20000 in
theorem TfM_slabsOf_26 {M' : xMem} {r : Int32} (k4 : xMem → Option xId → Int32 → Int32 → Int32 → Option (Int32 × xMem)) (hk4 : ∀ (M : xMem) (l0 : Option xId) (l1 : Int32) (l2 : Int32) (l3 : Int32) , k4 M l0 l1 l2 l3 = some (r, M') → xrun none 0 222 4 ([some (.inr (.inr l0)), some (.inl l1), some (.inl l2), some (.inl l3)]) ([]) M (some (.inl r), M')) (M : xMem) (l0 : Option xId) (l1 : Int32) (l3 : Int32) (s0 : Int32) (s1 : Int32) (o2 : Int32) (h : fM_slabsOf_26 k4 M l0 l1 l3 s0 s1 = some (r, M')) : xrun none 0 222 26 ([some (.inr (.inr l0)), some (.inl l1), some (.inl o2), some (.inl l3)]) ([.inl s1, .inl s0]) M (some (.inl r), M') := by
  unfold fM_slabsOf_26 at h
  refine xr_iadd (pc' := 27) rfl rfl ?_
  refine xr_istore_n (pc' := 28) rfl rfl rfl ?_
  refine xr_iinc (c := 1) (pc' := 31) rfl (by decide) rfl rfl rfl ?_
  refine xr_goto (t := 4) rfl ?_
  exact hk4 M _ _ _ _  h
def fM_slabsOf_4  : Nat → xMem → Option xId → Int32 → Int32 → Int32 → Option (Int32 × xMem)
  | 0, _, _, _, _, _ => none
  | n + 1, M, l0, l1, l2, l3 =>
    if (32 : Int32) ≤ l3 then (
      some (l2, M))
    else
    (xgR M l0 8 16).bind fun v1 =>
    (xaI M v1 l3).bind fun v2 =>
    if v2 = l1 then (
      fM_slabsOf_26 (fun M l0 l1 l2 l3 => fM_slabsOf_4  n M l0 l1 l2 l3) M l0 l1 l3 l2 (1 : Int32))
    else
    fM_slabsOf_26 (fun M l0 l1 l2 l3 => fM_slabsOf_4  n M l0 l1 l2 l3) M l0 l1 l3 l2 (0 : Int32)
set_option maxRecDepth 20000 in
theorem TfM_slabsOf_4 {M' : xMem} {r : Int32}  : ∀ (n : Nat) (M : xMem) (l0 : Option xId) (l1 : Int32) (l2 : Int32) (l3 : Int32) , fM_slabsOf_4  n M l0 l1 l2 l3 = some (r, M') → xrun none 0 222 4 ([some (.inr (.inr l0)), some (.inl l1), some (.inl l2), some (.inl l3)]) ([]) M (some (.inl r), M') := by
  intro n
  induction n with
  | zero => intro M l0 l1 l2 l3  h; unfold fM_slabsOf_4 at h; cases h
  | succ n ih =>
    intro M l0 l1 l2 l3  h
    unfold fM_slabsOf_4 at h
    refine xr_iload_n (pc' := 5) rfl rfl rfl ?_
    refine xr_bipush (v := 32) (pc' := 7) rfl (by decide) rfl ?_
    rcases xite h with ⟨hc, h⟩ | ⟨hc, h⟩
    · refine xr_icmp_ge_t (t := 34) rfl hc ?_
      refine xr_iload_n (pc' := 35) rfl rfl rfl ?_
      obtain ⟨rfl, rfl⟩ := xsome2 h
      exact xr_iret rfl mR_222
    · refine xr_icmp_ge_f (pc' := 10) rfl hc rfl ?_
      refine xr_iload_n (pc' := 11) rfl rfl rfl ?_
      refine xr_aload_n (pc' := 12) rfl rfl rfl ?_
      obtain ⟨v1, hv1, h⟩ := xbind h
      refine xr_getR (pc' := 15) rfl (by decide) hv1 rfl ?_
      refine xr_iload_n (pc' := 16) rfl rfl rfl ?_
      obtain ⟨v2, hv2, h⟩ := xbind h
      refine xr_aI (pc' := 17) rfl hv2 rfl ?_
      refine xr_iload_n (pc' := 18) rfl rfl rfl ?_
      rcases xite h with ⟨hc, h⟩ | ⟨hc, h⟩
      · refine xr_icmp_ne_f (pc' := 21) rfl hc rfl ?_
        refine xr_iconst (v := 1) (pc' := 22) rfl (by decide) rfl ?_
        refine xr_goto (t := 26) rfl ?_
        exact TfM_slabsOf_26 _ (fun M l0 l1 l2 l3  h => ih M l0 l1 l2 l3  h) M _ _ _ _ _ _ h
      · refine xr_icmp_ne_t (t := 25) rfl hc ?_
        refine xr_iconst (v := 0) (pc' := 26) rfl (by decide) rfl ?_
        exact TfM_slabsOf_26 _ (fun M l0 l1 l2 l3  h => ih M l0 l1 l2 l3  h) M _ _ _ _ _ _ h
def fM_slabsOf (M : xMem) (this : xId) (a0 : Int32) : Option (Int32 × xMem) :=
  fM_slabsOf_4  xF M (some this) a0 (0 : Int32) (0 : Int32)
set_option maxRecDepth 20000 in
theorem TfM_slabsOf {M M' : xMem} {r : Int32} (this : xId) (a0 : Int32) (h : fM_slabsOf M this a0 = some (r, M')) : xrun none 0 222 0 ([some (.inr (.inr (some this))), some (.inl a0), none, none]) ([]) M (some (.inl r), M') := by
  unfold fM_slabsOf at h
  refine xr_iconst (v := 0) (pc' := 1) rfl (by decide) rfl ?_
  refine xr_istore_n (pc' := 2) rfl rfl rfl ?_
  refine xr_iconst (v := 0) (pc' := 3) rfl (by decide) rfl ?_
  refine xr_istore_n (pc' := 4) rfl rfl rfl ?_
  exact TfM_slabsOf_4   xF M _ _ _ _  h
-- 221: MagazineDepotModel.of(II)I
def fM_of (M : xMem) (this : xId) (a0 : Int32) (a1 : Int32) : Option (Int32 × xMem) :=
  (xob M (some this) 8).bind fun u1 =>
  (fM_isCache M u1 a0).bind fun q2 =>
  if q2.1 = 0 then (
    some ((-1 : Int32), q2.2))
  else
  if a1 = 0 then (
    (xgR q2.2 (some this) 8 0).bind fun v3 =>
    (xaI q2.2 v3 a0).bind fun v4 =>
    some (v4, q2.2))
  else
  if a1 = 1 then (
    (xgR q2.2 (some this) 8 1).bind fun v5 =>
    (xaI q2.2 v5 a0).bind fun v6 =>
    some (v6, q2.2))
  else
  if a1 = 2 then (
    (xgR q2.2 (some this) 8 2).bind fun v7 =>
    (xaI q2.2 v7 a0).bind fun v8 =>
    some (v8, q2.2))
  else
  if a1 = 3 then (
    (xob q2.2 (some this) 8).bind fun u9 =>
    (fM_per q2.2 u9 a0).bind fun q10 =>
    some (q10.1, q10.2))
  else
  if a1 = 4 then (
    (xgR q2.2 (some this) 8 3).bind fun v11 =>
    (xaI q2.2 v11 a0).bind fun v12 =>
    some (v12, q2.2))
  else
  if a1 = 5 then (
    (xgR q2.2 (some this) 8 4).bind fun v13 =>
    (xaI q2.2 v13 a0).bind fun v14 =>
    some (v14, q2.2))
  else
  if a1 = 6 then (
    (xgR q2.2 (some this) 8 5).bind fun v15 =>
    (xaI q2.2 v15 a0).bind fun v16 =>
    some (v16, q2.2))
  else
  if a1 = 7 then (
    (xgR q2.2 (some this) 8 6).bind fun v17 =>
    (xaI q2.2 v17 a0).bind fun v18 =>
    some (v18, q2.2))
  else
  if a1 = 8 then (
    (xgR q2.2 (some this) 8 26).bind fun v19 =>
    (xaI q2.2 v19 a0).bind fun v20 =>
    some (v20, q2.2))
  else
  if a1 = 9 then (
    (xgR q2.2 (some this) 8 28).bind fun v21 =>
    (xaI q2.2 v21 a0).bind fun v22 =>
    some (v22, q2.2))
  else
  if a1 = 10 then (
    (xgR q2.2 (some this) 8 7).bind fun v23 =>
    (xaI q2.2 v23 a0).bind fun v24 =>
    some (v24, q2.2))
  else
  if a1 = 11 then (
    (xgR q2.2 (some this) 8 8).bind fun v25 =>
    (xaI q2.2 v25 a0).bind fun v26 =>
    some (v26, q2.2))
  else
  if a1 = 12 then (
    (xob q2.2 (some this) 8).bind fun u27 =>
    (fM_slabsOf q2.2 u27 a0).bind fun q28 =>
    some (q28.1, q28.2))
  else
  if a1 = 13 then (
    (xgR q2.2 (some this) 8 9).bind fun v29 =>
    (xaI q2.2 v29 a0).bind fun v30 =>
    some (v30, q2.2))
  else
  if a1 = 14 then (
    (xgR q2.2 (some this) 8 10).bind fun v31 =>
    (xaI q2.2 v31 a0).bind fun v32 =>
    some (v32, q2.2))
  else
  if a1 = 15 then (
    (xgR q2.2 (some this) 8 11).bind fun v33 =>
    (xaI q2.2 v33 a0).bind fun v34 =>
    some (v34, q2.2))
  else
  some ((-1 : Int32), q2.2)
set_option maxRecDepth 20000 in
theorem TfM_of {M M' : xMem} {r : Int32} (this : xId) (a0 : Int32) (a1 : Int32) (h : fM_of M this a0 a1 = some (r, M')) : xrun none 2 221 0 ([some (.inr (.inr (some this))), some (.inl a0), some (.inl a1)]) ([]) M (some (.inl r), M') := by
  unfold fM_of at h
  refine xr_aload_n (pc' := 1) rfl rfl rfl ?_
  refine xr_iload_n (pc' := 2) rfl rfl rfl ?_
  obtain ⟨u1, hu1, h⟩ := xbind h
  obtain ⟨q2, hq2, h⟩ := xbind h
  refine xr_callV (pc' := 5) (C := 8) (As := [_]) (rest := _) rfl hu1 mC_166 mL_166 rfl (Nat.le_of_ble_eq_true rfl) rfl (Nat.le_of_ble_eq_true rfl) (TfM_isCache _ _ hq2) rfl ?_
  rcases xite h with ⟨hc, h⟩ | ⟨hc, h⟩
  · refine xr_if_ne_f (pc' := 8) rfl hc rfl ?_
    refine xr_iconst (v := -1) (pc' := 9) rfl (by decide) rfl ?_
    obtain ⟨rfl, rfl⟩ := xsome2 h
    exact xr_iret rfl mR_221
  · refine xr_if_ne_t (t := 10) rfl hc ?_
    refine xr_iload_n (pc' := 11) rfl rfl rfl ?_
    rcases xite h with ⟨hc11_0, h⟩ | ⟨hc11_0, h⟩
    · refine xr_tsw_in (t := 88) rfl (by rw [hc11_0]; decide) (by rw [hc11_0]; rfl) (by decide) ?_
      refine xr_aload_n (pc' := 89) rfl rfl rfl ?_
      obtain ⟨v3, hv3, h⟩ := xbind h
      refine xr_getR (pc' := 92) rfl (by decide) hv3 rfl ?_
      refine xr_iload_n (pc' := 93) rfl rfl rfl ?_
      obtain ⟨v4, hv4, h⟩ := xbind h
      refine xr_aI (pc' := 94) rfl hv4 rfl ?_
      obtain ⟨rfl, rfl⟩ := xsome2 h
      exact xr_iret rfl mR_221
    rcases xite h with ⟨hc11_1, h⟩ | ⟨hc11_1, h⟩
    · refine xr_tsw_in (t := 95) rfl (by rw [hc11_1]; decide) (by rw [hc11_1]; rfl) (by decide) ?_
      refine xr_aload_n (pc' := 96) rfl rfl rfl ?_
      obtain ⟨v5, hv5, h⟩ := xbind h
      refine xr_getR (pc' := 99) rfl (by decide) hv5 rfl ?_
      refine xr_iload_n (pc' := 100) rfl rfl rfl ?_
      obtain ⟨v6, hv6, h⟩ := xbind h
      refine xr_aI (pc' := 101) rfl hv6 rfl ?_
      obtain ⟨rfl, rfl⟩ := xsome2 h
      exact xr_iret rfl mR_221
    rcases xite h with ⟨hc11_2, h⟩ | ⟨hc11_2, h⟩
    · refine xr_tsw_in (t := 102) rfl (by rw [hc11_2]; decide) (by rw [hc11_2]; rfl) (by decide) ?_
      refine xr_aload_n (pc' := 103) rfl rfl rfl ?_
      obtain ⟨v7, hv7, h⟩ := xbind h
      refine xr_getR (pc' := 106) rfl (by decide) hv7 rfl ?_
      refine xr_iload_n (pc' := 107) rfl rfl rfl ?_
      obtain ⟨v8, hv8, h⟩ := xbind h
      refine xr_aI (pc' := 108) rfl hv8 rfl ?_
      obtain ⟨rfl, rfl⟩ := xsome2 h
      exact xr_iret rfl mR_221
    rcases xite h with ⟨hc11_3, h⟩ | ⟨hc11_3, h⟩
    · refine xr_tsw_in (t := 109) rfl (by rw [hc11_3]; decide) (by rw [hc11_3]; rfl) (by decide) ?_
      refine xr_aload_n (pc' := 110) rfl rfl rfl ?_
      refine xr_iload_n (pc' := 111) rfl rfl rfl ?_
      obtain ⟨u9, hu9, h⟩ := xbind h
      obtain ⟨q10, hq10, h⟩ := xbind h
      refine xr_callV (pc' := 114) (C := 8) (As := [_]) (rest := _) rfl hu9 mC_177 mL_177 rfl (Nat.le_of_ble_eq_true rfl) rfl (Nat.le_of_ble_eq_true rfl) (TfM_per _ _ hq10) rfl ?_
      obtain ⟨rfl, rfl⟩ := xsome2 h
      exact xr_iret rfl mR_221
    rcases xite h with ⟨hc11_4, h⟩ | ⟨hc11_4, h⟩
    · refine xr_tsw_in (t := 115) rfl (by rw [hc11_4]; decide) (by rw [hc11_4]; rfl) (by decide) ?_
      refine xr_aload_n (pc' := 116) rfl rfl rfl ?_
      obtain ⟨v11, hv11, h⟩ := xbind h
      refine xr_getR (pc' := 119) rfl (by decide) hv11 rfl ?_
      refine xr_iload_n (pc' := 120) rfl rfl rfl ?_
      obtain ⟨v12, hv12, h⟩ := xbind h
      refine xr_aI (pc' := 121) rfl hv12 rfl ?_
      obtain ⟨rfl, rfl⟩ := xsome2 h
      exact xr_iret rfl mR_221
    rcases xite h with ⟨hc11_5, h⟩ | ⟨hc11_5, h⟩
    · refine xr_tsw_in (t := 122) rfl (by rw [hc11_5]; decide) (by rw [hc11_5]; rfl) (by decide) ?_
      refine xr_aload_n (pc' := 123) rfl rfl rfl ?_
      obtain ⟨v13, hv13, h⟩ := xbind h
      refine xr_getR (pc' := 126) rfl (by decide) hv13 rfl ?_
      refine xr_iload_n (pc' := 127) rfl rfl rfl ?_
      obtain ⟨v14, hv14, h⟩ := xbind h
      refine xr_aI (pc' := 128) rfl hv14 rfl ?_
      obtain ⟨rfl, rfl⟩ := xsome2 h
      exact xr_iret rfl mR_221
    rcases xite h with ⟨hc11_6, h⟩ | ⟨hc11_6, h⟩
    · refine xr_tsw_in (t := 129) rfl (by rw [hc11_6]; decide) (by rw [hc11_6]; rfl) (by decide) ?_
      refine xr_aload_n (pc' := 130) rfl rfl rfl ?_
      obtain ⟨v15, hv15, h⟩ := xbind h
      refine xr_getR (pc' := 133) rfl (by decide) hv15 rfl ?_
      refine xr_iload_n (pc' := 134) rfl rfl rfl ?_
      obtain ⟨v16, hv16, h⟩ := xbind h
      refine xr_aI (pc' := 135) rfl hv16 rfl ?_
      obtain ⟨rfl, rfl⟩ := xsome2 h
      exact xr_iret rfl mR_221
    rcases xite h with ⟨hc11_7, h⟩ | ⟨hc11_7, h⟩
    · refine xr_tsw_in (t := 136) rfl (by rw [hc11_7]; decide) (by rw [hc11_7]; rfl) (by decide) ?_
      refine xr_aload_n (pc' := 137) rfl rfl rfl ?_
      obtain ⟨v17, hv17, h⟩ := xbind h
      refine xr_getR (pc' := 140) rfl (by decide) hv17 rfl ?_
      refine xr_iload_n (pc' := 141) rfl rfl rfl ?_
      obtain ⟨v18, hv18, h⟩ := xbind h
      refine xr_aI (pc' := 142) rfl hv18 rfl ?_
      obtain ⟨rfl, rfl⟩ := xsome2 h
      exact xr_iret rfl mR_221
    rcases xite h with ⟨hc11_8, h⟩ | ⟨hc11_8, h⟩
    · refine xr_tsw_in (t := 143) rfl (by rw [hc11_8]; decide) (by rw [hc11_8]; rfl) (by decide) ?_
      refine xr_aload_n (pc' := 144) rfl rfl rfl ?_
      obtain ⟨v19, hv19, h⟩ := xbind h
      refine xr_getR (pc' := 147) rfl (by decide) hv19 rfl ?_
      refine xr_iload_n (pc' := 148) rfl rfl rfl ?_
      obtain ⟨v20, hv20, h⟩ := xbind h
      refine xr_aI (pc' := 149) rfl hv20 rfl ?_
      obtain ⟨rfl, rfl⟩ := xsome2 h
      exact xr_iret rfl mR_221
    rcases xite h with ⟨hc11_9, h⟩ | ⟨hc11_9, h⟩
    · refine xr_tsw_in (t := 150) rfl (by rw [hc11_9]; decide) (by rw [hc11_9]; rfl) (by decide) ?_
      refine xr_aload_n (pc' := 151) rfl rfl rfl ?_
      obtain ⟨v21, hv21, h⟩ := xbind h
      refine xr_getR (pc' := 154) rfl (by decide) hv21 rfl ?_
      refine xr_iload_n (pc' := 155) rfl rfl rfl ?_
      obtain ⟨v22, hv22, h⟩ := xbind h
      refine xr_aI (pc' := 156) rfl hv22 rfl ?_
      obtain ⟨rfl, rfl⟩ := xsome2 h
      exact xr_iret rfl mR_221
    rcases xite h with ⟨hc11_10, h⟩ | ⟨hc11_10, h⟩
    · refine xr_tsw_in (t := 157) rfl (by rw [hc11_10]; decide) (by rw [hc11_10]; rfl) (by decide) ?_
      refine xr_aload_n (pc' := 158) rfl rfl rfl ?_
      obtain ⟨v23, hv23, h⟩ := xbind h
      refine xr_getR (pc' := 161) rfl (by decide) hv23 rfl ?_
      refine xr_iload_n (pc' := 162) rfl rfl rfl ?_
      obtain ⟨v24, hv24, h⟩ := xbind h
      refine xr_aI (pc' := 163) rfl hv24 rfl ?_
      obtain ⟨rfl, rfl⟩ := xsome2 h
      exact xr_iret rfl mR_221
    rcases xite h with ⟨hc11_11, h⟩ | ⟨hc11_11, h⟩
    · refine xr_tsw_in (t := 164) rfl (by rw [hc11_11]; decide) (by rw [hc11_11]; rfl) (by decide) ?_
      refine xr_aload_n (pc' := 165) rfl rfl rfl ?_
      obtain ⟨v25, hv25, h⟩ := xbind h
      refine xr_getR (pc' := 168) rfl (by decide) hv25 rfl ?_
      refine xr_iload_n (pc' := 169) rfl rfl rfl ?_
      obtain ⟨v26, hv26, h⟩ := xbind h
      refine xr_aI (pc' := 170) rfl hv26 rfl ?_
      obtain ⟨rfl, rfl⟩ := xsome2 h
      exact xr_iret rfl mR_221
    rcases xite h with ⟨hc11_12, h⟩ | ⟨hc11_12, h⟩
    · refine xr_tsw_in (t := 171) rfl (by rw [hc11_12]; decide) (by rw [hc11_12]; rfl) (by decide) ?_
      refine xr_aload_n (pc' := 172) rfl rfl rfl ?_
      refine xr_iload_n (pc' := 173) rfl rfl rfl ?_
      obtain ⟨u27, hu27, h⟩ := xbind h
      obtain ⟨q28, hq28, h⟩ := xbind h
      refine xr_callV (pc' := 176) (C := 8) (As := [_]) (rest := _) rfl hu27 mC_222 mL_222 rfl (Nat.le_of_ble_eq_true rfl) rfl (Nat.le_of_ble_eq_true rfl) (TfM_slabsOf _ _ hq28) rfl ?_
      obtain ⟨rfl, rfl⟩ := xsome2 h
      exact xr_iret rfl mR_221
    rcases xite h with ⟨hc11_13, h⟩ | ⟨hc11_13, h⟩
    · refine xr_tsw_in (t := 177) rfl (by rw [hc11_13]; decide) (by rw [hc11_13]; rfl) (by decide) ?_
      refine xr_aload_n (pc' := 178) rfl rfl rfl ?_
      obtain ⟨v29, hv29, h⟩ := xbind h
      refine xr_getR (pc' := 181) rfl (by decide) hv29 rfl ?_
      refine xr_iload_n (pc' := 182) rfl rfl rfl ?_
      obtain ⟨v30, hv30, h⟩ := xbind h
      refine xr_aI (pc' := 183) rfl hv30 rfl ?_
      obtain ⟨rfl, rfl⟩ := xsome2 h
      exact xr_iret rfl mR_221
    rcases xite h with ⟨hc11_14, h⟩ | ⟨hc11_14, h⟩
    · refine xr_tsw_in (t := 184) rfl (by rw [hc11_14]; decide) (by rw [hc11_14]; rfl) (by decide) ?_
      refine xr_aload_n (pc' := 185) rfl rfl rfl ?_
      obtain ⟨v31, hv31, h⟩ := xbind h
      refine xr_getR (pc' := 188) rfl (by decide) hv31 rfl ?_
      refine xr_iload_n (pc' := 189) rfl rfl rfl ?_
      obtain ⟨v32, hv32, h⟩ := xbind h
      refine xr_aI (pc' := 190) rfl hv32 rfl ?_
      obtain ⟨rfl, rfl⟩ := xsome2 h
      exact xr_iret rfl mR_221
    rcases xite h with ⟨hc11_15, h⟩ | ⟨hc11_15, h⟩
    · refine xr_tsw_in (t := 191) rfl (by rw [hc11_15]; decide) (by rw [hc11_15]; rfl) (by decide) ?_
      refine xr_aload_n (pc' := 192) rfl rfl rfl ?_
      obtain ⟨v33, hv33, h⟩ := xbind h
      refine xr_getR (pc' := 195) rfl (by decide) hv33 rfl ?_
      refine xr_iload_n (pc' := 196) rfl rfl rfl ?_
      obtain ⟨v34, hv34, h⟩ := xbind h
      refine xr_aI (pc' := 197) rfl hv34 rfl ?_
      obtain ⟨rfl, rfl⟩ := xsome2 h
      exact xr_iret rfl mR_221
    have hc11_0 := lv_neT hc11_0 (by decide : (0 : Int32).toInt = 0)
    have hc11_1 := lv_neT hc11_1 (by decide : (1 : Int32).toInt = 1)
    have hc11_2 := lv_neT hc11_2 (by decide : (2 : Int32).toInt = 2)
    have hc11_3 := lv_neT hc11_3 (by decide : (3 : Int32).toInt = 3)
    have hc11_4 := lv_neT hc11_4 (by decide : (4 : Int32).toInt = 4)
    have hc11_5 := lv_neT hc11_5 (by decide : (5 : Int32).toInt = 5)
    have hc11_6 := lv_neT hc11_6 (by decide : (6 : Int32).toInt = 6)
    have hc11_7 := lv_neT hc11_7 (by decide : (7 : Int32).toInt = 7)
    have hc11_8 := lv_neT hc11_8 (by decide : (8 : Int32).toInt = 8)
    have hc11_9 := lv_neT hc11_9 (by decide : (9 : Int32).toInt = 9)
    have hc11_10 := lv_neT hc11_10 (by decide : (10 : Int32).toInt = 10)
    have hc11_11 := lv_neT hc11_11 (by decide : (11 : Int32).toInt = 11)
    have hc11_12 := lv_neT hc11_12 (by decide : (12 : Int32).toInt = 12)
    have hc11_13 := lv_neT hc11_13 (by decide : (13 : Int32).toInt = 13)
    have hc11_14 := lv_neT hc11_14 (by decide : (14 : Int32).toInt = 14)
    have hc11_15 := lv_neT hc11_15 (by decide : (15 : Int32).toInt = 15)
    refine xr_tsw_out (t := 198) rfl (by omega) (by decide) ?_
    refine xr_iconst (v := -1) (pc' := 199) rfl (by decide) rfl ?_
    obtain ⟨rfl, rfl⟩ := xsome2 h
    exact xr_iret rfl mR_221
-- 223: MagazineDepotModel.tally(I)J
def fM_tally (M : xMem) (this : xId) (a0 : Int32) : Option (Int64 × xMem) :=
  (xob M (some this) 8).bind fun u1 =>
  (fM_isCache M u1 a0).bind fun q2 =>
  if q2.1 = 0 then (
    some ((-9223372036854775808 : Int64), q2.2))
  else
  (xgR q2.2 (some this) 8 12).bind fun v3 =>
  (xaL q2.2 v3 a0).bind fun v4 =>
  some (v4, q2.2)
set_option maxRecDepth 20000 in
theorem TfM_tally {M M' : xMem} {r : Int64} (this : xId) (a0 : Int32) (h : fM_tally M this a0 = some (r, M')) : xrun none 2 223 0 ([some (.inr (.inr (some this))), some (.inl a0)]) ([]) M (some (.inr (.inl r)), M') := by
  unfold fM_tally at h
  refine xr_aload_n (pc' := 1) rfl rfl rfl ?_
  refine xr_iload_n (pc' := 2) rfl rfl rfl ?_
  obtain ⟨u1, hu1, h⟩ := xbind h
  obtain ⟨q2, hq2, h⟩ := xbind h
  refine xr_callV (pc' := 5) (C := 8) (As := [_]) (rest := _) rfl hu1 mC_166 mL_166 rfl (Nat.le_of_ble_eq_true rfl) rfl (Nat.le_of_ble_eq_true rfl) (TfM_isCache _ _ hq2) rfl ?_
  rcases xite h with ⟨hc, h⟩ | ⟨hc, h⟩
  · refine xr_if_eq_t (t := 17) rfl hc ?_
    refine xr_ldc2_w (v := -9223372036854775808) (pc' := 20) rfl (by decide) rfl ?_
    obtain ⟨rfl, rfl⟩ := xsome2 h
    exact xr_lret rfl mR_223
  · refine xr_if_eq_f (pc' := 8) rfl hc rfl ?_
    refine xr_aload_n (pc' := 9) rfl rfl rfl ?_
    obtain ⟨v3, hv3, h⟩ := xbind h
    refine xr_getR (pc' := 12) rfl (by decide) hv3 rfl ?_
    refine xr_iload_n (pc' := 13) rfl rfl rfl ?_
    obtain ⟨v4, hv4, h⟩ := xbind h
    refine xr_aL (pc' := 14) rfl hv4 rfl ?_
    refine xr_goto (t := 20) rfl ?_
    obtain ⟨rfl, rfl⟩ := xsome2 h
    exact xr_lret rfl mR_223
-- 224: MagazineDepotModel.magazine(III)I
def fM_magazine_54  (M : xMem) (l0 : Option xId) (l3 : Int32) (s0 : Int32) : Option (Int32 × xMem) :=
  if 0 ≤ s0 then (
    if (l3 - l3 / (2 : Int32) * (2 : Int32)) = 0 then (
      (xgR M l0 8 23).bind fun v9 =>
      (xaI M v9 s0).bind fun v10 =>
      some (v10, M))
    else
    (xgR M l0 8 23).bind fun v11 =>
    (xaI M v11 s0).bind fun v12 =>
    if v12 = 0 then (
      some ((-2 : Int32), M))
    else
    (xob M l0 8).bind fun u13 =>
    (fM_latestOf M u13 s0).bind fun q14 =>
    (xob q14.2 l0 8).bind fun u15 =>
    (fM_addressOf q14.2 u15 q14.1).bind fun q16 =>
    some (q16.1, q16.2))
  else
  some ((-2 : Int32), M)
set_option maxRecDepth 20000 in
theorem TfM_magazine_54 {M' : xMem} {r : Int32}  (M : xMem) (l0 : Option xId) (l3 : Int32) (s0 : Int32) (o1 : Int32) (o2 : Int32) (o4 : Option xVal) (h : fM_magazine_54  M l0 l3 s0 = some (r, M')) : xrun none 2 224 54 ([some (.inr (.inr l0)), some (.inl o1), some (.inl o2), some (.inl l3), o4]) ([.inl s0]) M (some (.inl r), M') := by
  unfold fM_magazine_54 at h
  refine xr_istore (pc' := 56) rfl rfl rfl ?_
  refine xr_iload (pc' := 58) rfl rfl rfl ?_
  rcases xite h with ⟨hc, h⟩ | ⟨hc, h⟩
  · refine xr_if_ge_t (t := 64) rfl hc ?_
    refine xr_iload_n (pc' := 65) rfl rfl rfl ?_
    refine xr_iconst (v := 2) (pc' := 66) rfl (by decide) rfl ?_
    refine xr_irem (pc' := 67) rfl (by decide) rfl ?_
    rcases xite h with ⟨hc, h⟩ | ⟨hc, h⟩
    · refine xr_if_ne_f (pc' := 70) rfl hc rfl ?_
      refine xr_aload_n (pc' := 71) rfl rfl rfl ?_
      obtain ⟨v9, hv9, h⟩ := xbind h
      refine xr_getR (pc' := 74) rfl (by decide) hv9 rfl ?_
      refine xr_iload (pc' := 76) rfl rfl rfl ?_
      obtain ⟨v10, hv10, h⟩ := xbind h
      refine xr_aI (pc' := 77) rfl hv10 rfl ?_
      obtain ⟨rfl, rfl⟩ := xsome2 h
      exact xr_iret rfl mR_224
    · refine xr_if_ne_t (t := 78) rfl hc ?_
      refine xr_aload_n (pc' := 79) rfl rfl rfl ?_
      obtain ⟨v11, hv11, h⟩ := xbind h
      refine xr_getR (pc' := 82) rfl (by decide) hv11 rfl ?_
      refine xr_iload (pc' := 84) rfl rfl rfl ?_
      obtain ⟨v12, hv12, h⟩ := xbind h
      refine xr_aI (pc' := 85) rfl hv12 rfl ?_
      rcases xite h with ⟨hc, h⟩ | ⟨hc, h⟩
      · refine xr_if_ne_f (pc' := 88) rfl hc rfl ?_
        refine xr_bipush (v := -2) (pc' := 90) rfl (by decide) rfl ?_
        refine xr_goto (t := 103) rfl ?_
        obtain ⟨rfl, rfl⟩ := xsome2 h
        exact xr_iret rfl mR_224
      · refine xr_if_ne_t (t := 93) rfl hc ?_
        refine xr_aload_n (pc' := 94) rfl rfl rfl ?_
        refine xr_aload_n (pc' := 95) rfl rfl rfl ?_
        refine xr_iload (pc' := 97) rfl rfl rfl ?_
        obtain ⟨u13, hu13, h⟩ := xbind h
        obtain ⟨q14, hq14, h⟩ := xbind h
        refine xr_callV (pc' := 100) (C := 8) (As := [_]) (rest := _) rfl hu13 mC_172 mL_172 rfl (Nat.le_of_ble_eq_true rfl) rfl (Nat.le_of_ble_eq_true rfl) (TfM_latestOf _ _ hq14) rfl ?_
        obtain ⟨u15, hu15, h⟩ := xbind h
        obtain ⟨q16, hq16, h⟩ := xbind h
        refine xr_callV (pc' := 103) (C := 8) (As := [_]) (rest := _) rfl hu15 mC_181 mL_181 rfl (Nat.le_of_ble_eq_true rfl) rfl (Nat.le_of_ble_eq_true rfl) (TfM_addressOf _ _ hq16) rfl ?_
        obtain ⟨rfl, rfl⟩ := xsome2 h
        exact xr_iret rfl mR_224
  · refine xr_if_ge_f (pc' := 61) rfl hc rfl ?_
    refine xr_bipush (v := -2) (pc' := 63) rfl (by decide) rfl ?_
    obtain ⟨rfl, rfl⟩ := xsome2 h
    exact xr_iret rfl mR_224
def fM_magazine (M : xMem) (this : xId) (a0 : Int32) (a1 : Int32) (a2 : Int32) : Option (Int32 × xMem) :=
  (xob M (some this) 8).bind fun u1 =>
  (fM_isCache M u1 a0).bind fun q2 =>
  if q2.1 = 0 then (
    some ((-1 : Int32), q2.2))
  else
  (fM_isProcessor q2.2 a1).bind fun q3 =>
  if q3.1 = 0 then (
    some ((-1 : Int32), q3.2))
  else
  (fM_isIn q3.2 a2 (0 : Int32) (3 : Int32)).bind fun q4 =>
  if q4.1 = 0 then (
    some ((-1 : Int32), q4.2))
  else
  if (2 : Int32) ≤ a2 then (
    (xgR q4.2 (some this) 8 21).bind fun v5 =>
    (xaI q4.2 v5 (((4 : Int32) * a0) + a1)).bind fun v6 =>
    fM_magazine_54  q4.2 (some this) a2 v6)
  else
  (xgR q4.2 (some this) 8 20).bind fun v7 =>
  (xaI q4.2 v7 (((4 : Int32) * a0) + a1)).bind fun v8 =>
  fM_magazine_54  q4.2 (some this) a2 v8
set_option maxRecDepth 20000 in
theorem TfM_magazine {M M' : xMem} {r : Int32} (this : xId) (a0 : Int32) (a1 : Int32) (a2 : Int32) (h : fM_magazine M this a0 a1 a2 = some (r, M')) : xrun none 2 224 0 ([some (.inr (.inr (some this))), some (.inl a0), some (.inl a1), some (.inl a2), none]) ([]) M (some (.inl r), M') := by
  unfold fM_magazine at h
  refine xr_aload_n (pc' := 1) rfl rfl rfl ?_
  refine xr_iload_n (pc' := 2) rfl rfl rfl ?_
  obtain ⟨u1, hu1, h⟩ := xbind h
  obtain ⟨q2, hq2, h⟩ := xbind h
  refine xr_callV (pc' := 5) (C := 8) (As := [_]) (rest := _) rfl hu1 mC_166 mL_166 rfl (Nat.le_of_ble_eq_true rfl) rfl (Nat.le_of_ble_eq_true rfl) (TfM_isCache _ _ hq2) rfl ?_
  rcases xite h with ⟨hc, h⟩ | ⟨hc, h⟩
  · refine xr_if_eq_t (t := 24) rfl hc ?_
    refine xr_iconst (v := -1) (pc' := 25) rfl (by decide) rfl ?_
    obtain ⟨rfl, rfl⟩ := xsome2 h
    exact xr_iret rfl mR_224
  · refine xr_if_eq_f (pc' := 8) rfl hc rfl ?_
    refine xr_iload_n (pc' := 9) rfl rfl rfl ?_
    obtain ⟨q3, hq3, h⟩ := xbind h
    refine xr_callS (pc' := 12) (As := [_]) (rest := _) rfl (by decide) mL_168 rfl (Nat.le_of_ble_eq_true rfl) rfl (Nat.le_of_ble_eq_true rfl) (TfM_isProcessor _ hq3) rfl ?_
    rcases xite h with ⟨hc, h⟩ | ⟨hc, h⟩
    · refine xr_if_eq_t (t := 24) rfl hc ?_
      refine xr_iconst (v := -1) (pc' := 25) rfl (by decide) rfl ?_
      obtain ⟨rfl, rfl⟩ := xsome2 h
      exact xr_iret rfl mR_224
    · refine xr_if_eq_f (pc' := 15) rfl hc rfl ?_
      refine xr_iload_n (pc' := 16) rfl rfl rfl ?_
      refine xr_iconst (v := 0) (pc' := 17) rfl (by decide) rfl ?_
      refine xr_iconst (v := 3) (pc' := 18) rfl (by decide) rfl ?_
      obtain ⟨q4, hq4, h⟩ := xbind h
      refine xr_callS (pc' := 21) (As := [_, _, _]) (rest := _) rfl (by decide) mL_163 rfl (Nat.le_of_ble_eq_true rfl) rfl (Nat.le_of_ble_eq_true rfl) (TfM_isIn _ _ _ hq4) rfl ?_
      rcases xite h with ⟨hc, h⟩ | ⟨hc, h⟩
      · refine xr_if_ne_f (pc' := 24) rfl hc rfl ?_
        refine xr_iconst (v := -1) (pc' := 25) rfl (by decide) rfl ?_
        obtain ⟨rfl, rfl⟩ := xsome2 h
        exact xr_iret rfl mR_224
      · refine xr_if_ne_t (t := 26) rfl hc ?_
        refine xr_iload_n (pc' := 27) rfl rfl rfl ?_
        refine xr_iconst (v := 2) (pc' := 28) rfl (by decide) rfl ?_
        rcases xite h with ⟨hc, h⟩ | ⟨hc, h⟩
        · refine xr_icmp_ge_t (t := 44) rfl hc ?_
          refine xr_aload_n (pc' := 45) rfl rfl rfl ?_
          obtain ⟨v5, hv5, h⟩ := xbind h
          refine xr_getR (pc' := 48) rfl (by decide) hv5 rfl ?_
          refine xr_iconst (v := 4) (pc' := 49) rfl (by decide) rfl ?_
          refine xr_iload_n (pc' := 50) rfl rfl rfl ?_
          refine xr_imul (pc' := 51) rfl rfl ?_
          refine xr_iload_n (pc' := 52) rfl rfl rfl ?_
          refine xr_iadd (pc' := 53) rfl rfl ?_
          obtain ⟨v6, hv6, h⟩ := xbind h
          refine xr_aI (pc' := 54) rfl hv6 rfl ?_
          exact TfM_magazine_54   q4.2 _ _ _ _ _ _ h
        · refine xr_icmp_ge_f (pc' := 31) rfl hc rfl ?_
          refine xr_aload_n (pc' := 32) rfl rfl rfl ?_
          obtain ⟨v7, hv7, h⟩ := xbind h
          refine xr_getR (pc' := 35) rfl (by decide) hv7 rfl ?_
          refine xr_iconst (v := 4) (pc' := 36) rfl (by decide) rfl ?_
          refine xr_iload_n (pc' := 37) rfl rfl rfl ?_
          refine xr_imul (pc' := 38) rfl rfl ?_
          refine xr_iload_n (pc' := 39) rfl rfl rfl ?_
          refine xr_iadd (pc' := 40) rfl rfl ?_
          obtain ⟨v8, hv8, h⟩ := xbind h
          refine xr_aI (pc' := 41) rfl hv8 rfl ?_
          refine xr_goto (t := 54) rfl ?_
          exact TfM_magazine_54   q4.2 _ _ _ _ _ _ h
-- 226: MagazineDepotModel.liveOnLine(II)I
def fM_liveOnLine_56 (k5 : xMem → Option xId → Int32 → Int32 → Int32 → Int32 → Option (Int32 × xMem)) (M : xMem) (l0 : Option xId) (l1 : Int32) (l2 : Int32) (l4 : Int32) (s0 : Int32) (s1 : Int32) : Option (Int32 × xMem) :=
  k5 M l0 l1 l2 (s0 + s1) (l4 + 1)
set_option maxRecDepth 20000 in
theorem TfM_liveOnLine_56 {M' : xMem} {r : Int32} (k5 : xMem → Option xId → Int32 → Int32 → Int32 → Int32 → Option (Int32 × xMem)) (hk5 : ∀ (M : xMem) (l0 : Option xId) (l1 : Int32) (l2 : Int32) (l3 : Int32) (l4 : Int32) , k5 M l0 l1 l2 l3 l4 = some (r, M') → xrun none 1 226 5 ([some (.inr (.inr l0)), some (.inl l1), some (.inl l2), some (.inl l3), some (.inl l4)]) ([]) M (some (.inl r), M')) (M : xMem) (l0 : Option xId) (l1 : Int32) (l2 : Int32) (l4 : Int32) (s0 : Int32) (s1 : Int32) (o3 : Int32) (h : fM_liveOnLine_56 k5 M l0 l1 l2 l4 s0 s1 = some (r, M')) : xrun none 1 226 56 ([some (.inr (.inr l0)), some (.inl l1), some (.inl l2), some (.inl o3), some (.inl l4)]) ([.inl s1, .inl s0]) M (some (.inl r), M') := by
  unfold fM_liveOnLine_56 at h
  refine xr_iadd (pc' := 57) rfl rfl ?_
  refine xr_istore_n (pc' := 58) rfl rfl rfl ?_
  refine xr_iinc (c := 1) (pc' := 61) rfl (by decide) rfl rfl rfl ?_
  refine xr_goto (t := 5) rfl ?_
  exact hk5 M _ _ _ _ _  h
def fM_liveOnLine_55 (k5 : xMem → Option xId → Int32 → Int32 → Int32 → Int32 → Option (Int32 × xMem)) (M : xMem) (l0 : Option xId) (l1 : Int32) (l2 : Int32) (l4 : Int32) (s0 : Int32) : Option (Int32 × xMem) :=
  fM_liveOnLine_56 k5 M l0 l1 l2 l4 s0 (0 : Int32)
set_option maxRecDepth 20000 in
theorem TfM_liveOnLine_55 {M' : xMem} {r : Int32} (k5 : xMem → Option xId → Int32 → Int32 → Int32 → Int32 → Option (Int32 × xMem)) (hk5 : ∀ (M : xMem) (l0 : Option xId) (l1 : Int32) (l2 : Int32) (l3 : Int32) (l4 : Int32) , k5 M l0 l1 l2 l3 l4 = some (r, M') → xrun none 1 226 5 ([some (.inr (.inr l0)), some (.inl l1), some (.inl l2), some (.inl l3), some (.inl l4)]) ([]) M (some (.inl r), M')) (M : xMem) (l0 : Option xId) (l1 : Int32) (l2 : Int32) (l4 : Int32) (s0 : Int32) (o3 : Int32) (h : fM_liveOnLine_55 k5 M l0 l1 l2 l4 s0 = some (r, M')) : xrun none 1 226 55 ([some (.inr (.inr l0)), some (.inl l1), some (.inl l2), some (.inl o3), some (.inl l4)]) ([.inl s0]) M (some (.inl r), M') := by
  unfold fM_liveOnLine_55 at h
  refine xr_iconst (v := 0) (pc' := 56) rfl (by decide) rfl ?_
  exact TfM_liveOnLine_56 _ hk5 M _ _ _ _ _ _ _ h
def fM_liveOnLine_5  : Nat → xMem → Option xId → Int32 → Int32 → Int32 → Int32 → Option (Int32 × xMem)
  | 0, _, _, _, _, _, _ => none
  | n + 1, M, l0, l1, l2, l3, l4 =>
    if (1984 : Int32) ≤ l4 then (
      some (l3, M))
    else
    (xgR M l0 8 18).bind fun v1 =>
    (xaI M v1 l4).bind fun v2 =>
    if v2 = (1 : Int32) then (
      (xob M l0 8).bind fun u3 =>
      (fM_cacheOf M u3 l4).bind fun q4 =>
      if q4.1 = l1 then (
        (xob q4.2 l0 8).bind fun u5 =>
        (fM_addressOf q4.2 u5 l4).bind fun q6 =>
        if ((q6.1 / (32 : Int32)) - (q6.1 / (32 : Int32)) / (16 : Int32) * (16 : Int32)) = l2 then (
          fM_liveOnLine_56 (fun M l0 l1 l2 l3 l4 => fM_liveOnLine_5  n M l0 l1 l2 l3 l4) q6.2 l0 l1 l2 l4 l3 (1 : Int32))
        else
        fM_liveOnLine_55 (fun M l0 l1 l2 l3 l4 => fM_liveOnLine_5  n M l0 l1 l2 l3 l4) q6.2 l0 l1 l2 l4 l3)
      else
      fM_liveOnLine_55 (fun M l0 l1 l2 l3 l4 => fM_liveOnLine_5  n M l0 l1 l2 l3 l4) q4.2 l0 l1 l2 l4 l3)
    else
    fM_liveOnLine_55 (fun M l0 l1 l2 l3 l4 => fM_liveOnLine_5  n M l0 l1 l2 l3 l4) M l0 l1 l2 l4 l3
set_option maxRecDepth 20000 in
theorem TfM_liveOnLine_5 {M' : xMem} {r : Int32}  : ∀ (n : Nat) (M : xMem) (l0 : Option xId) (l1 : Int32) (l2 : Int32) (l3 : Int32) (l4 : Int32) , fM_liveOnLine_5  n M l0 l1 l2 l3 l4 = some (r, M') → xrun none 1 226 5 ([some (.inr (.inr l0)), some (.inl l1), some (.inl l2), some (.inl l3), some (.inl l4)]) ([]) M (some (.inl r), M') := by
  intro n
  induction n with
  | zero => intro M l0 l1 l2 l3 l4  h; unfold fM_liveOnLine_5 at h; cases h
  | succ n ih =>
    intro M l0 l1 l2 l3 l4  h
    unfold fM_liveOnLine_5 at h
    refine xr_iload (pc' := 7) rfl rfl rfl ?_
    refine xr_sipush (v := 1984) (pc' := 10) rfl (by decide) rfl ?_
    rcases xite h with ⟨hc, h⟩ | ⟨hc, h⟩
    · refine xr_icmp_ge_t (t := 64) rfl hc ?_
      refine xr_iload_n (pc' := 65) rfl rfl rfl ?_
      obtain ⟨rfl, rfl⟩ := xsome2 h
      exact xr_iret rfl mR_226
    · refine xr_icmp_ge_f (pc' := 13) rfl hc rfl ?_
      refine xr_iload_n (pc' := 14) rfl rfl rfl ?_
      refine xr_aload_n (pc' := 15) rfl rfl rfl ?_
      obtain ⟨v1, hv1, h⟩ := xbind h
      refine xr_getR (pc' := 18) rfl (by decide) hv1 rfl ?_
      refine xr_iload (pc' := 20) rfl rfl rfl ?_
      obtain ⟨v2, hv2, h⟩ := xbind h
      refine xr_aI (pc' := 21) rfl hv2 rfl ?_
      refine xr_iconst (v := 1) (pc' := 22) rfl (by decide) rfl ?_
      rcases xite h with ⟨hc, h⟩ | ⟨hc, h⟩
      · refine xr_icmp_ne_f (pc' := 25) rfl hc rfl ?_
        refine xr_aload_n (pc' := 26) rfl rfl rfl ?_
        refine xr_iload (pc' := 28) rfl rfl rfl ?_
        obtain ⟨u3, hu3, h⟩ := xbind h
        obtain ⟨q4, hq4, h⟩ := xbind h
        refine xr_callV (pc' := 31) (C := 8) (As := [_]) (rest := _) rfl hu3 mC_190 mL_190 rfl (Nat.le_of_ble_eq_true rfl) rfl (Nat.le_of_ble_eq_true rfl) (TfM_cacheOf _ _ hq4) rfl ?_
        refine xr_iload_n (pc' := 32) rfl rfl rfl ?_
        rcases xite h with ⟨hc, h⟩ | ⟨hc, h⟩
        · refine xr_icmp_ne_f (pc' := 35) rfl hc rfl ?_
          refine xr_aload_n (pc' := 36) rfl rfl rfl ?_
          refine xr_iload (pc' := 38) rfl rfl rfl ?_
          obtain ⟨u5, hu5, h⟩ := xbind h
          obtain ⟨q6, hq6, h⟩ := xbind h
          refine xr_callV (pc' := 41) (C := 8) (As := [_]) (rest := _) rfl hu5 mC_181 mL_181 rfl (Nat.le_of_ble_eq_true rfl) rfl (Nat.le_of_ble_eq_true rfl) (TfM_addressOf _ _ hq6) rfl ?_
          refine xr_bipush (v := 32) (pc' := 43) rfl (by decide) rfl ?_
          refine xr_idiv (pc' := 44) rfl (by decide) rfl ?_
          refine xr_bipush (v := 16) (pc' := 46) rfl (by decide) rfl ?_
          refine xr_irem (pc' := 47) rfl (by decide) rfl ?_
          refine xr_iload_n (pc' := 48) rfl rfl rfl ?_
          rcases xite h with ⟨hc, h⟩ | ⟨hc, h⟩
          · refine xr_icmp_ne_f (pc' := 51) rfl hc rfl ?_
            refine xr_iconst (v := 1) (pc' := 52) rfl (by decide) rfl ?_
            refine xr_goto (t := 56) rfl ?_
            exact TfM_liveOnLine_56 _ (fun M l0 l1 l2 l3 l4  h => ih M l0 l1 l2 l3 l4  h) q6.2 _ _ _ _ _ _ _ h
          · refine xr_icmp_ne_t (t := 55) rfl hc ?_
            exact TfM_liveOnLine_55 _ (fun M l0 l1 l2 l3 l4  h => ih M l0 l1 l2 l3 l4  h) q6.2 _ _ _ _ _ _ h
        · refine xr_icmp_ne_t (t := 55) rfl hc ?_
          exact TfM_liveOnLine_55 _ (fun M l0 l1 l2 l3 l4  h => ih M l0 l1 l2 l3 l4  h) q4.2 _ _ _ _ _ _ h
      · refine xr_icmp_ne_t (t := 55) rfl hc ?_
        exact TfM_liveOnLine_55 _ (fun M l0 l1 l2 l3 l4  h => ih M l0 l1 l2 l3 l4  h) M _ _ _ _ _ _ h
def fM_liveOnLine (M : xMem) (this : xId) (a0 : Int32) (a1 : Int32) : Option (Int32 × xMem) :=
  fM_liveOnLine_5  xF M (some this) a0 a1 (0 : Int32) (0 : Int32)
set_option maxRecDepth 20000 in
theorem TfM_liveOnLine {M M' : xMem} {r : Int32} (this : xId) (a0 : Int32) (a1 : Int32) (h : fM_liveOnLine M this a0 a1 = some (r, M')) : xrun none 1 226 0 ([some (.inr (.inr (some this))), some (.inl a0), some (.inl a1), none, none]) ([]) M (some (.inl r), M') := by
  unfold fM_liveOnLine at h
  refine xr_iconst (v := 0) (pc' := 1) rfl (by decide) rfl ?_
  refine xr_istore_n (pc' := 2) rfl rfl rfl ?_
  refine xr_iconst (v := 0) (pc' := 3) rfl (by decide) rfl ?_
  refine xr_istore (pc' := 5) rfl rfl rfl ?_
  exact TfM_liveOnLine_5   xF M _ _ _ _ _  h
-- 225: MagazineDepotModel.lines(II)I
def fM_lines_54 (k27 : xMem → Option xId → Int32 → Int32 → Int32 → Int32 → Int32 → Option (Int32 × xMem)) (M : xMem) (l0 : Option xId) (l1 : Int32) (l2 : Int32) (l4 : Int32) (l5 : Int32) (l6 : Int32) (s0 : Int32) (s1 : Int32) : Option (Int32 × xMem) :=
  k27 M l0 l1 l2 (s0 + s1) (l4 + ((l6 * (l6 - (1 : Int32))) / (2 : Int32))) (l5 + 1)
set_option maxRecDepth 20000 in
theorem TfM_lines_54 {M' : xMem} {r : Int32} (k27 : xMem → Option xId → Int32 → Int32 → Int32 → Int32 → Int32 → Option (Int32 × xMem)) (hk27 : ∀ (M : xMem) (l0 : Option xId) (l1 : Int32) (l2 : Int32) (l3 : Int32) (l4 : Int32) (l5 : Int32) (o6 : Option xVal), k27 M l0 l1 l2 l3 l4 l5 = some (r, M') → xrun none 2 225 27 ([some (.inr (.inr l0)), some (.inl l1), some (.inl l2), some (.inl l3), some (.inl l4), some (.inl l5), o6]) ([]) M (some (.inl r), M')) (M : xMem) (l0 : Option xId) (l1 : Int32) (l2 : Int32) (l4 : Int32) (l5 : Int32) (l6 : Int32) (s0 : Int32) (s1 : Int32) (o3 : Int32) (h : fM_lines_54 k27 M l0 l1 l2 l4 l5 l6 s0 s1 = some (r, M')) : xrun none 2 225 54 ([some (.inr (.inr l0)), some (.inl l1), some (.inl l2), some (.inl o3), some (.inl l4), some (.inl l5), some (.inl l6)]) ([.inl s1, .inl s0]) M (some (.inl r), M') := by
  unfold fM_lines_54 at h
  refine xr_iadd (pc' := 55) rfl rfl ?_
  refine xr_istore_n (pc' := 56) rfl rfl rfl ?_
  refine xr_iload (pc' := 58) rfl rfl rfl ?_
  refine xr_iload (pc' := 60) rfl rfl rfl ?_
  refine xr_iload (pc' := 62) rfl rfl rfl ?_
  refine xr_iconst (v := 1) (pc' := 63) rfl (by decide) rfl ?_
  refine xr_isub (pc' := 64) rfl rfl ?_
  refine xr_imul (pc' := 65) rfl rfl ?_
  refine xr_iconst (v := 2) (pc' := 66) rfl (by decide) rfl ?_
  refine xr_idiv (pc' := 67) rfl (by decide) rfl ?_
  refine xr_iadd (pc' := 68) rfl rfl ?_
  refine xr_istore (pc' := 70) rfl rfl rfl ?_
  refine xr_iinc (c := 1) (pc' := 73) rfl (by decide) rfl rfl rfl ?_
  refine xr_goto (t := 27) rfl ?_
  exact hk27 M _ _ _ _ _ _ _ h
def fM_lines_27  : Nat → xMem → Option xId → Int32 → Int32 → Int32 → Int32 → Int32 → Option (Int32 × xMem)
  | 0, _, _, _, _, _, _, _ => none
  | n + 1, M, l0, l1, l2, l3, l4, l5 =>
    if (16 : Int32) ≤ l5 then (
      if l2 = 0 then (
        some (l3, M))
      else
      some (l4, M))
    else
    (xob M l0 8).bind fun u4 =>
    (fM_liveOnLine M u4 l1 l5).bind fun q5 =>
    if q5.1 ≤ 0 then (
      fM_lines_54 (fun M l0 l1 l2 l3 l4 l5 => fM_lines_27  n M l0 l1 l2 l3 l4 l5) q5.2 l0 l1 l2 l4 l5 q5.1 l3 (0 : Int32))
    else
    fM_lines_54 (fun M l0 l1 l2 l3 l4 l5 => fM_lines_27  n M l0 l1 l2 l3 l4 l5) q5.2 l0 l1 l2 l4 l5 q5.1 l3 (1 : Int32)
set_option maxRecDepth 20000 in
theorem TfM_lines_27 {M' : xMem} {r : Int32}  : ∀ (n : Nat) (M : xMem) (l0 : Option xId) (l1 : Int32) (l2 : Int32) (l3 : Int32) (l4 : Int32) (l5 : Int32) (o6 : Option xVal), fM_lines_27  n M l0 l1 l2 l3 l4 l5 = some (r, M') → xrun none 2 225 27 ([some (.inr (.inr l0)), some (.inl l1), some (.inl l2), some (.inl l3), some (.inl l4), some (.inl l5), o6]) ([]) M (some (.inl r), M') := by
  intro n
  induction n with
  | zero => intro M l0 l1 l2 l3 l4 l5 o6 h; unfold fM_lines_27 at h; cases h
  | succ n ih =>
    intro M l0 l1 l2 l3 l4 l5 o6 h
    unfold fM_lines_27 at h
    refine xr_iload (pc' := 29) rfl rfl rfl ?_
    refine xr_bipush (v := 16) (pc' := 31) rfl (by decide) rfl ?_
    rcases xite h with ⟨hc, h⟩ | ⟨hc, h⟩
    · refine xr_icmp_ge_t (t := 76) rfl hc ?_
      refine xr_iload_n (pc' := 77) rfl rfl rfl ?_
      rcases xite h with ⟨hc, h⟩ | ⟨hc, h⟩
      · refine xr_if_ne_f (pc' := 80) rfl hc rfl ?_
        refine xr_iload_n (pc' := 81) rfl rfl rfl ?_
        refine xr_goto (t := 86) rfl ?_
        obtain ⟨rfl, rfl⟩ := xsome2 h
        exact xr_iret rfl mR_225
      · refine xr_if_ne_t (t := 84) rfl hc ?_
        refine xr_iload (pc' := 86) rfl rfl rfl ?_
        obtain ⟨rfl, rfl⟩ := xsome2 h
        exact xr_iret rfl mR_225
    · refine xr_icmp_ge_f (pc' := 34) rfl hc rfl ?_
      refine xr_aload_n (pc' := 35) rfl rfl rfl ?_
      refine xr_iload_n (pc' := 36) rfl rfl rfl ?_
      refine xr_iload (pc' := 38) rfl rfl rfl ?_
      obtain ⟨u4, hu4, h⟩ := xbind h
      obtain ⟨q5, hq5, h⟩ := xbind h
      refine xr_callV (pc' := 41) (C := 8) (As := [_, _]) (rest := _) rfl hu4 mC_226 mL_226 rfl (Nat.le_of_ble_eq_true rfl) rfl (Nat.le_of_ble_eq_true rfl) (TfM_liveOnLine _ _ _ hq5) rfl ?_
      refine xr_istore (pc' := 43) rfl rfl rfl ?_
      refine xr_iload_n (pc' := 44) rfl rfl rfl ?_
      refine xr_iload (pc' := 46) rfl rfl rfl ?_
      rcases xite h with ⟨hc, h⟩ | ⟨hc, h⟩
      · refine xr_if_le_t (t := 53) rfl hc ?_
        refine xr_iconst (v := 0) (pc' := 54) rfl (by decide) rfl ?_
        exact TfM_lines_54 _ (fun M l0 l1 l2 l3 l4 l5 o6 h => ih M l0 l1 l2 l3 l4 l5 o6 h) q5.2 _ _ _ _ _ _ _ _ _ h
      · refine xr_if_le_f (pc' := 49) rfl hc rfl ?_
        refine xr_iconst (v := 1) (pc' := 50) rfl (by decide) rfl ?_
        refine xr_goto (t := 54) rfl ?_
        exact TfM_lines_54 _ (fun M l0 l1 l2 l3 l4 l5 o6 h => ih M l0 l1 l2 l3 l4 l5 o6 h) q5.2 _ _ _ _ _ _ _ _ _ h
def fM_lines (M : xMem) (this : xId) (a0 : Int32) (a1 : Int32) : Option (Int32 × xMem) :=
  (xob M (some this) 8).bind fun u1 =>
  (fM_isCache M u1 a0).bind fun q2 =>
  if q2.1 = 0 then (
    some ((-1 : Int32), q2.2))
  else
  (fM_isIn q2.2 a1 (0 : Int32) (1 : Int32)).bind fun q3 =>
  if q3.1 = 0 then (
    some ((-1 : Int32), q3.2))
  else
  fM_lines_27  xF q3.2 (some this) a0 a1 (0 : Int32) (0 : Int32) (0 : Int32)
set_option maxRecDepth 20000 in
theorem TfM_lines {M M' : xMem} {r : Int32} (this : xId) (a0 : Int32) (a1 : Int32) (h : fM_lines M this a0 a1 = some (r, M')) : xrun none 2 225 0 ([some (.inr (.inr (some this))), some (.inl a0), some (.inl a1), none, none, none, none]) ([]) M (some (.inl r), M') := by
  unfold fM_lines at h
  refine xr_aload_n (pc' := 1) rfl rfl rfl ?_
  refine xr_iload_n (pc' := 2) rfl rfl rfl ?_
  obtain ⟨u1, hu1, h⟩ := xbind h
  obtain ⟨q2, hq2, h⟩ := xbind h
  refine xr_callV (pc' := 5) (C := 8) (As := [_]) (rest := _) rfl hu1 mC_166 mL_166 rfl (Nat.le_of_ble_eq_true rfl) rfl (Nat.le_of_ble_eq_true rfl) (TfM_isCache _ _ hq2) rfl ?_
  rcases xite h with ⟨hc, h⟩ | ⟨hc, h⟩
  · refine xr_if_eq_t (t := 17) rfl hc ?_
    refine xr_iconst (v := -1) (pc' := 18) rfl (by decide) rfl ?_
    obtain ⟨rfl, rfl⟩ := xsome2 h
    exact xr_iret rfl mR_225
  · refine xr_if_eq_f (pc' := 8) rfl hc rfl ?_
    refine xr_iload_n (pc' := 9) rfl rfl rfl ?_
    refine xr_iconst (v := 0) (pc' := 10) rfl (by decide) rfl ?_
    refine xr_iconst (v := 1) (pc' := 11) rfl (by decide) rfl ?_
    obtain ⟨q3, hq3, h⟩ := xbind h
    refine xr_callS (pc' := 14) (As := [_, _, _]) (rest := _) rfl (by decide) mL_163 rfl (Nat.le_of_ble_eq_true rfl) rfl (Nat.le_of_ble_eq_true rfl) (TfM_isIn _ _ _ hq3) rfl ?_
    rcases xite h with ⟨hc, h⟩ | ⟨hc, h⟩
    · refine xr_if_ne_f (pc' := 17) rfl hc rfl ?_
      refine xr_iconst (v := -1) (pc' := 18) rfl (by decide) rfl ?_
      obtain ⟨rfl, rfl⟩ := xsome2 h
      exact xr_iret rfl mR_225
    · refine xr_if_ne_t (t := 19) rfl hc ?_
      refine xr_iconst (v := 0) (pc' := 20) rfl (by decide) rfl ?_
      refine xr_istore_n (pc' := 21) rfl rfl rfl ?_
      refine xr_iconst (v := 0) (pc' := 22) rfl (by decide) rfl ?_
      refine xr_istore (pc' := 24) rfl rfl rfl ?_
      refine xr_iconst (v := 0) (pc' := 25) rfl (by decide) rfl ?_
      refine xr_istore (pc' := 27) rfl rfl rfl ?_
      exact TfM_lines_27   xF q3.2 _ _ _ _ _ _ _ h
-- 228: MagazineDepotModel.thinks()V
def fM_thinks (M : xMem) (this : xId) : Option xMem :=
  (xob M (some this) 8).bind fun u1 =>
  (fM_passesAll M u1 (1 : Int32) (1 : Int32)).bind fun q2 =>
  some q2
set_option maxRecDepth 20000 in
theorem TfM_thinks {M M' : xMem} (this : xId) (h : fM_thinks M this = some M') : xrun none 3 228 0 ([some (.inr (.inr (some this)))]) ([]) M (none, M') := by
  unfold fM_thinks at h
  refine xr_aload_n (pc' := 1) rfl rfl rfl ?_
  refine xr_iconst (v := 1) (pc' := 2) rfl (by decide) rfl ?_
  refine xr_iconst (v := 1) (pc' := 3) rfl (by decide) rfl ?_
  obtain ⟨u1, hu1, h⟩ := xbind h
  obtain ⟨q2, hq2, h⟩ := xbind h
  refine xr_callV (pc' := 6) (C := 8) (As := [_, _]) (rest := _) rfl hu1 mC_156 mL_156 rfl (Nat.le_of_ble_eq_true rfl) rfl (Nat.le_of_ble_eq_true rfl) (TfM_passesAll _ _ _ hq2) rfl ?_
  obtain rfl := xsome1 h
  exact xr_ret rfl mR_228
-- 229: MagazineDepotModel.forgets()V
def fM_forgets (M : xMem) (this : xId) : Option xMem :=
  (xob M (some this) 8).bind fun u1 =>
  (fM_passesAll M u1 (1 : Int32) (0 : Int32)).bind fun q2 =>
  some q2
set_option maxRecDepth 20000 in
theorem TfM_forgets {M M' : xMem} (this : xId) (h : fM_forgets M this = some M') : xrun none 3 229 0 ([some (.inr (.inr (some this)))]) ([]) M (none, M') := by
  unfold fM_forgets at h
  refine xr_aload_n (pc' := 1) rfl rfl rfl ?_
  refine xr_iconst (v := 1) (pc' := 2) rfl (by decide) rfl ?_
  refine xr_iconst (v := 0) (pc' := 3) rfl (by decide) rfl ?_
  obtain ⟨u1, hu1, h⟩ := xbind h
  obtain ⟨q2, hq2, h⟩ := xbind h
  refine xr_callV (pc' := 6) (C := 8) (As := [_, _]) (rest := _) rfl hu1 mC_156 mL_156 rfl (Nat.le_of_ble_eq_true rfl) rfl (Nat.le_of_ble_eq_true rfl) (TfM_passesAll _ _ _ hq2) rfl ?_
  obtain rfl := xsome1 h
  exact xr_ret rfl mR_229
-- 227: MagazineDepotModel.ahead(IIII)I
def fM_ahead_87  (M : xMem) (l0 : Option xId) (s0 : Int32) : Option (Int32 × xMem) :=
  (xob M l0 8).bind fun u12 =>
  (fM_forgets M u12 ).bind fun q13 =>
  some (s0, q13)
set_option maxRecDepth 20000 in
theorem TfM_ahead_87 {M' : xMem} {r : Int32}  (M : xMem) (l0 : Option xId) (s0 : Int32) (o1 : Int32) (o2 : Int32) (o3 : Int32) (o4 : Int32) (o5 : Int32) (o6 : Int32) (h : fM_ahead_87  M l0 s0 = some (r, M')) : xrun none 5 227 87 ([some (.inr (.inr l0)), some (.inl o1), some (.inl o2), some (.inl o3), some (.inl o4), some (.inl o5), some (.inl o6)]) ([.inl s0]) M (some (.inl r), M') := by
  unfold fM_ahead_87 at h
  refine xr_istore (pc' := 89) rfl rfl rfl ?_
  refine xr_aload_n (pc' := 90) rfl rfl rfl ?_
  obtain ⟨u12, hu12, h⟩ := xbind h
  obtain ⟨q13, hq13, h⟩ := xbind h
  refine xr_callV (pc' := 93) (C := 8) (As := []) (rest := _) rfl hu12 mC_229 mL_229 rfl (Nat.le_of_ble_eq_true rfl) rfl (Nat.le_of_ble_eq_true rfl) (TfM_forgets _  hq13) rfl ?_
  refine xr_iload (pc' := 95) rfl rfl rfl ?_
  obtain ⟨rfl, rfl⟩ := xsome2 h
  exact xr_iret rfl mR_227
def fM_ahead_50  : Nat → xMem → Option xId → Int32 → Int32 → Int32 → Int32 → Int32 → Option (Int32 × xMem)
  | 0, _, _, _, _, _, _, _ => none
  | n + 1, M, l0, l1, l2, l4, l5, l6 =>
    if l4 < l6 then (
      if 0 ≤ l5 then (
        (xob M l0 8).bind fun u8 =>
        (fM_addressOf M u8 l5).bind fun q9 =>
        fM_ahead_87  q9.2 l0 q9.1)
      else
      fM_ahead_87  M l0 (-2 : Int32))
    else
    (xob M l0 8).bind fun u10 =>
    (fM_takes M u10 l1 l2).bind fun q11 =>
    fM_ahead_50  n q11.2 l0 l1 l2 l4 q11.1 (l6 + 1)
set_option maxRecDepth 20000 in
theorem TfM_ahead_50 {M' : xMem} {r : Int32}  : ∀ (n : Nat) (M : xMem) (l0 : Option xId) (l1 : Int32) (l2 : Int32) (l4 : Int32) (l5 : Int32) (l6 : Int32) (o3 : Int32), fM_ahead_50  n M l0 l1 l2 l4 l5 l6 = some (r, M') → xrun none 5 227 50 ([some (.inr (.inr l0)), some (.inl l1), some (.inl l2), some (.inl o3), some (.inl l4), some (.inl l5), some (.inl l6)]) ([]) M (some (.inl r), M') := by
  intro n
  induction n with
  | zero => intro M l0 l1 l2 l4 l5 l6 o3 h; unfold fM_ahead_50 at h; cases h
  | succ n ih =>
    intro M l0 l1 l2 l4 l5 l6 o3 h
    unfold fM_ahead_50 at h
    refine xr_iload (pc' := 52) rfl rfl rfl ?_
    refine xr_iload (pc' := 54) rfl rfl rfl ?_
    rcases xite h with ⟨hc, h⟩ | ⟨hc, h⟩
    · refine xr_icmp_gt_t (t := 71) rfl hc ?_
      refine xr_iload (pc' := 73) rfl rfl rfl ?_
      rcases xite h with ⟨hc, h⟩ | ⟨hc, h⟩
      · refine xr_if_ge_t (t := 81) rfl hc ?_
        refine xr_aload_n (pc' := 82) rfl rfl rfl ?_
        refine xr_iload (pc' := 84) rfl rfl rfl ?_
        obtain ⟨u8, hu8, h⟩ := xbind h
        obtain ⟨q9, hq9, h⟩ := xbind h
        refine xr_callV (pc' := 87) (C := 8) (As := [_]) (rest := _) rfl hu8 mC_181 mL_181 rfl (Nat.le_of_ble_eq_true rfl) rfl (Nat.le_of_ble_eq_true rfl) (TfM_addressOf _ _ hq9) rfl ?_
        exact TfM_ahead_87   q9.2 _ _ _ _ _ _ _ _ h
      · refine xr_if_ge_f (pc' := 76) rfl hc rfl ?_
        refine xr_bipush (v := -2) (pc' := 78) rfl (by decide) rfl ?_
        refine xr_goto (t := 87) rfl ?_
        exact TfM_ahead_87   M _ _ _ _ _ _ _ _ h
    · refine xr_icmp_gt_f (pc' := 57) rfl hc rfl ?_
      refine xr_aload_n (pc' := 58) rfl rfl rfl ?_
      refine xr_iload_n (pc' := 59) rfl rfl rfl ?_
      refine xr_iload_n (pc' := 60) rfl rfl rfl ?_
      obtain ⟨u10, hu10, h⟩ := xbind h
      obtain ⟨q11, hq11, h⟩ := xbind h
      refine xr_callV (pc' := 63) (C := 8) (As := [_, _]) (rest := _) rfl hu10 mC_169 mL_169 rfl (Nat.le_of_ble_eq_true rfl) rfl (Nat.le_of_ble_eq_true rfl) (TfM_takes _ _ _ hq11) rfl ?_
      refine xr_istore (pc' := 65) rfl rfl rfl ?_
      refine xr_iinc (c := 1) (pc' := 68) rfl (by decide) rfl rfl rfl ?_
      refine xr_goto (t := 50) rfl ?_
      exact ih q11.2 _ _ _ _ _ _ _ h
def fM_ahead (M : xMem) (this : xId) (a0 : Int32) (a1 : Int32) (a2 : Int32) (a3 : Int32) : Option (Int32 × xMem) :=
  (xob M (some this) 8).bind fun u1 =>
  (fM_isCache M u1 a0).bind fun q2 =>
  if q2.1 = 0 then (
    some ((-1 : Int32), q2.2))
  else
  (fM_isProcessor q2.2 a1).bind fun q3 =>
  if q3.1 = 0 then (
    some ((-1 : Int32), q3.2))
  else
  (fM_isIn q3.2 a2 (1 : Int32) (40 : Int32)).bind fun q4 =>
  if q4.1 = 0 then (
    some ((-1 : Int32), q4.2))
  else
  (fM_isIn q4.2 a3 (0 : Int32) (a2 - (1 : Int32))).bind fun q5 =>
  if q5.1 = 0 then (
    some ((-1 : Int32), q5.2))
  else
  (xob q5.2 (some this) 8).bind fun u6 =>
  (fM_thinks q5.2 u6 ).bind fun q7 =>
  fM_ahead_50  xF q7 (some this) a0 a1 a3 (-9 : Int32) (0 : Int32)
set_option maxRecDepth 20000 in
theorem TfM_ahead {M M' : xMem} {r : Int32} (this : xId) (a0 : Int32) (a1 : Int32) (a2 : Int32) (a3 : Int32) (h : fM_ahead M this a0 a1 a2 a3 = some (r, M')) : xrun none 5 227 0 ([some (.inr (.inr (some this))), some (.inl a0), some (.inl a1), some (.inl a2), some (.inl a3), none, none]) ([]) M (some (.inl r), M') := by
  unfold fM_ahead at h
  refine xr_aload_n (pc' := 1) rfl rfl rfl ?_
  refine xr_iload_n (pc' := 2) rfl rfl rfl ?_
  obtain ⟨u1, hu1, h⟩ := xbind h
  obtain ⟨q2, hq2, h⟩ := xbind h
  refine xr_callV (pc' := 5) (C := 8) (As := [_]) (rest := _) rfl hu1 mC_166 mL_166 rfl (Nat.le_of_ble_eq_true rfl) rfl (Nat.le_of_ble_eq_true rfl) (TfM_isCache _ _ hq2) rfl ?_
  rcases xite h with ⟨hc, h⟩ | ⟨hc, h⟩
  · refine xr_if_eq_t (t := 37) rfl hc ?_
    refine xr_iconst (v := -1) (pc' := 38) rfl (by decide) rfl ?_
    obtain ⟨rfl, rfl⟩ := xsome2 h
    exact xr_iret rfl mR_227
  · refine xr_if_eq_f (pc' := 8) rfl hc rfl ?_
    refine xr_iload_n (pc' := 9) rfl rfl rfl ?_
    obtain ⟨q3, hq3, h⟩ := xbind h
    refine xr_callS (pc' := 12) (As := [_]) (rest := _) rfl (by decide) mL_168 rfl (Nat.le_of_ble_eq_true rfl) rfl (Nat.le_of_ble_eq_true rfl) (TfM_isProcessor _ hq3) rfl ?_
    rcases xite h with ⟨hc, h⟩ | ⟨hc, h⟩
    · refine xr_if_eq_t (t := 37) rfl hc ?_
      refine xr_iconst (v := -1) (pc' := 38) rfl (by decide) rfl ?_
      obtain ⟨rfl, rfl⟩ := xsome2 h
      exact xr_iret rfl mR_227
    · refine xr_if_eq_f (pc' := 15) rfl hc rfl ?_
      refine xr_iload_n (pc' := 16) rfl rfl rfl ?_
      refine xr_iconst (v := 1) (pc' := 17) rfl (by decide) rfl ?_
      refine xr_bipush (v := 40) (pc' := 19) rfl (by decide) rfl ?_
      obtain ⟨q4, hq4, h⟩ := xbind h
      refine xr_callS (pc' := 22) (As := [_, _, _]) (rest := _) rfl (by decide) mL_163 rfl (Nat.le_of_ble_eq_true rfl) rfl (Nat.le_of_ble_eq_true rfl) (TfM_isIn _ _ _ hq4) rfl ?_
      rcases xite h with ⟨hc, h⟩ | ⟨hc, h⟩
      · refine xr_if_eq_t (t := 37) rfl hc ?_
        refine xr_iconst (v := -1) (pc' := 38) rfl (by decide) rfl ?_
        obtain ⟨rfl, rfl⟩ := xsome2 h
        exact xr_iret rfl mR_227
      · refine xr_if_eq_f (pc' := 25) rfl hc rfl ?_
        refine xr_iload (pc' := 27) rfl rfl rfl ?_
        refine xr_iconst (v := 0) (pc' := 28) rfl (by decide) rfl ?_
        refine xr_iload_n (pc' := 29) rfl rfl rfl ?_
        refine xr_iconst (v := 1) (pc' := 30) rfl (by decide) rfl ?_
        refine xr_isub (pc' := 31) rfl rfl ?_
        obtain ⟨q5, hq5, h⟩ := xbind h
        refine xr_callS (pc' := 34) (As := [_, _, _]) (rest := _) rfl (by decide) mL_163 rfl (Nat.le_of_ble_eq_true rfl) rfl (Nat.le_of_ble_eq_true rfl) (TfM_isIn _ _ _ hq5) rfl ?_
        rcases xite h with ⟨hc, h⟩ | ⟨hc, h⟩
        · refine xr_if_ne_f (pc' := 37) rfl hc rfl ?_
          refine xr_iconst (v := -1) (pc' := 38) rfl (by decide) rfl ?_
          obtain ⟨rfl, rfl⟩ := xsome2 h
          exact xr_iret rfl mR_227
        · refine xr_if_ne_t (t := 39) rfl hc ?_
          refine xr_aload_n (pc' := 40) rfl rfl rfl ?_
          obtain ⟨u6, hu6, h⟩ := xbind h
          obtain ⟨q7, hq7, h⟩ := xbind h
          refine xr_callV (pc' := 43) (C := 8) (As := []) (rest := _) rfl hu6 mC_228 mL_228 rfl (Nat.le_of_ble_eq_true rfl) rfl (Nat.le_of_ble_eq_true rfl) (TfM_thinks _  hq7) rfl ?_
          refine xr_bipush (v := -9) (pc' := 45) rfl (by decide) rfl ?_
          refine xr_istore (pc' := 47) rfl rfl rfl ?_
          refine xr_iconst (v := 0) (pc' := 48) rfl (by decide) rfl ?_
          refine xr_istore (pc' := 50) rfl rfl rfl ?_
          exact TfM_ahead_50   xF q7 _ _ _ _ _ _ _ h
-- 230: MagazineDepotModel.trip(IIII)I
def fM_trip_107  : Nat → xMem → Option xId → Int32 → Int32 → Int32 → Int32 → Int32 → Int32 → Option (Int32 × xMem)
  | 0, _, _, _, _, _, _, _, _ => none
  | n + 1, M, l0, l2, l4, l5, l6, l7, l8 =>
    if l8 < 0 then (
      (xob M l0 8).bind fun u15 =>
      (fM_manyMade M u15 ).bind fun q16 =>
      (xob q16.2 l0 8).bind fun u17 =>
      (fM_forgets q16.2 u17 ).bind fun q18 =>
      if l4 = 0 then (
        (xgI q18 l0 8 15).bind fun v19 =>
        some ((v19 - l6), q18))
      else
      if l4 = (1 : Int32) then (
        some (l7, q18))
      else
      some ((q16.1 - l5), q18))
    else
    (xgR M l0 8 35).bind fun v20 =>
    (xaI M v20 l8).bind fun v21 =>
    (xob M l0 8).bind fun u22 =>
    (fM_gives M u22 v21 l2).bind fun q23 =>
    fM_trip_107  n q23 l0 l2 l4 l5 l6 l7 (l8 + -1)
set_option maxRecDepth 20000 in
theorem TfM_trip_107 {M' : xMem} {r : Int32}  : ∀ (n : Nat) (M : xMem) (l0 : Option xId) (l2 : Int32) (l4 : Int32) (l5 : Int32) (l6 : Int32) (l7 : Int32) (l8 : Int32) (o1 : Int32) (o3 : Int32) (o9 : Option xVal), fM_trip_107  n M l0 l2 l4 l5 l6 l7 l8 = some (r, M') → xrun none 5 230 107 ([some (.inr (.inr l0)), some (.inl o1), some (.inl l2), some (.inl o3), some (.inl l4), some (.inl l5), some (.inl l6), some (.inl l7), some (.inl l8), o9]) ([]) M (some (.inl r), M') := by
  intro n
  induction n with
  | zero => intro M l0 l2 l4 l5 l6 l7 l8 o1 o3 o9 h; unfold fM_trip_107 at h; cases h
  | succ n ih =>
    intro M l0 l2 l4 l5 l6 l7 l8 o1 o3 o9 h
    unfold fM_trip_107 at h
    refine xr_iload (pc' := 109) rfl rfl rfl ?_
    rcases xite h with ⟨hc, h⟩ | ⟨hc, h⟩
    · refine xr_if_lt_t (t := 130) rfl hc ?_
      refine xr_aload_n (pc' := 131) rfl rfl rfl ?_
      obtain ⟨u15, hu15, h⟩ := xbind h
      obtain ⟨q16, hq16, h⟩ := xbind h
      refine xr_callV (pc' := 134) (C := 8) (As := []) (rest := _) rfl hu15 mC_205 mL_205 rfl (Nat.le_of_ble_eq_true rfl) rfl (Nat.le_of_ble_eq_true rfl) (TfM_manyMade _  hq16) rfl ?_
      refine xr_iload (pc' := 136) rfl rfl rfl ?_
      refine xr_isub (pc' := 137) rfl rfl ?_
      refine xr_istore (pc' := 139) rfl rfl rfl ?_
      refine xr_aload_n (pc' := 140) rfl rfl rfl ?_
      obtain ⟨u17, hu17, h⟩ := xbind h
      obtain ⟨q18, hq18, h⟩ := xbind h
      refine xr_callV (pc' := 143) (C := 8) (As := []) (rest := _) rfl hu17 mC_229 mL_229 rfl (Nat.le_of_ble_eq_true rfl) rfl (Nat.le_of_ble_eq_true rfl) (TfM_forgets _  hq18) rfl ?_
      refine xr_iload (pc' := 145) rfl rfl rfl ?_
      rcases xite h with ⟨hc, h⟩ | ⟨hc, h⟩
      · refine xr_if_ne_f (pc' := 148) rfl hc rfl ?_
        refine xr_aload_n (pc' := 149) rfl rfl rfl ?_
        obtain ⟨v19, hv19, h⟩ := xbind h
        refine xr_getI (pc' := 152) rfl (by decide) hv19 rfl ?_
        refine xr_iload (pc' := 154) rfl rfl rfl ?_
        refine xr_isub (pc' := 155) rfl rfl ?_
        refine xr_goto (t := 171) rfl ?_
        obtain ⟨rfl, rfl⟩ := xsome2 h
        exact xr_iret rfl mR_230
      · refine xr_if_ne_t (t := 158) rfl hc ?_
        refine xr_iload (pc' := 160) rfl rfl rfl ?_
        refine xr_iconst (v := 1) (pc' := 161) rfl (by decide) rfl ?_
        rcases xite h with ⟨hc, h⟩ | ⟨hc, h⟩
        · refine xr_icmp_ne_f (pc' := 164) rfl hc rfl ?_
          refine xr_iload (pc' := 166) rfl rfl rfl ?_
          refine xr_goto (t := 171) rfl ?_
          obtain ⟨rfl, rfl⟩ := xsome2 h
          exact xr_iret rfl mR_230
        · refine xr_icmp_ne_t (t := 169) rfl hc ?_
          refine xr_iload (pc' := 171) rfl rfl rfl ?_
          obtain ⟨rfl, rfl⟩ := xsome2 h
          exact xr_iret rfl mR_230
    · refine xr_if_lt_f (pc' := 112) rfl hc rfl ?_
      refine xr_aload_n (pc' := 113) rfl rfl rfl ?_
      refine xr_aload_n (pc' := 114) rfl rfl rfl ?_
      obtain ⟨v20, hv20, h⟩ := xbind h
      refine xr_getR (pc' := 117) rfl (by decide) hv20 rfl ?_
      refine xr_iload (pc' := 119) rfl rfl rfl ?_
      obtain ⟨v21, hv21, h⟩ := xbind h
      refine xr_aI (pc' := 120) rfl hv21 rfl ?_
      refine xr_iload_n (pc' := 121) rfl rfl rfl ?_
      obtain ⟨u22, hu22, h⟩ := xbind h
      obtain ⟨q23, hq23, h⟩ := xbind h
      refine xr_callV (pc' := 124) (C := 8) (As := [_, _]) (rest := _) rfl hu22 mC_191 mL_191 rfl (Nat.le_of_ble_eq_true rfl) rfl (Nat.le_of_ble_eq_true rfl) (TfM_gives _ _ _ hq23) rfl ?_
      refine xr_iinc (c := -1) (pc' := 127) rfl (by decide) rfl rfl rfl ?_
      refine xr_goto (t := 107) rfl ?_
      exact ih q23 _ _ _ _ _ _ _ _ _ _ h
def fM_trip_95 (k61 : xMem → Option xId → Int32 → Int32 → Int32 → Int32 → Int32 → Int32 → Int32 → Int32 → Option (Int32 × xMem)) (M : xMem) (l0 : Option xId) (l1 : Int32) (l2 : Int32) (l3 : Int32) (l4 : Int32) (l5 : Int32) (l6 : Int32) (l7 : Int32) (l8 : Int32)  : Option (Int32 × xMem) :=
  k61 M l0 l1 l2 l3 l4 l5 l6 l7 (l8 + 1)
set_option maxRecDepth 20000 in
theorem TfM_trip_95 {M' : xMem} {r : Int32} (k61 : xMem → Option xId → Int32 → Int32 → Int32 → Int32 → Int32 → Int32 → Int32 → Int32 → Option (Int32 × xMem)) (hk61 : ∀ (M : xMem) (l0 : Option xId) (l1 : Int32) (l2 : Int32) (l3 : Int32) (l4 : Int32) (l5 : Int32) (l6 : Int32) (l7 : Int32) (l8 : Int32) (o9 : Option xVal), k61 M l0 l1 l2 l3 l4 l5 l6 l7 l8 = some (r, M') → xrun none 5 230 61 ([some (.inr (.inr l0)), some (.inl l1), some (.inl l2), some (.inl l3), some (.inl l4), some (.inl l5), some (.inl l6), some (.inl l7), some (.inl l8), o9]) ([]) M (some (.inl r), M')) (M : xMem) (l0 : Option xId) (l1 : Int32) (l2 : Int32) (l3 : Int32) (l4 : Int32) (l5 : Int32) (l6 : Int32) (l7 : Int32) (l8 : Int32)  (o9 : Int32) (h : fM_trip_95 k61 M l0 l1 l2 l3 l4 l5 l6 l7 l8  = some (r, M')) : xrun none 5 230 95 ([some (.inr (.inr l0)), some (.inl l1), some (.inl l2), some (.inl l3), some (.inl l4), some (.inl l5), some (.inl l6), some (.inl l7), some (.inl l8), some (.inl o9)]) ([]) M (some (.inl r), M') := by
  unfold fM_trip_95 at h
  refine xr_iinc (c := 1) (pc' := 98) rfl (by decide) rfl rfl rfl ?_
  refine xr_goto (t := 61) rfl ?_
  exact hk61 M _ _ _ _ _ _ _ _ _ _ h
def fM_trip_61  : Nat → xMem → Option xId → Int32 → Int32 → Int32 → Int32 → Int32 → Int32 → Int32 → Int32 → Option (Int32 × xMem)
  | 0, _, _, _, _, _, _, _, _, _, _ => none
  | n + 1, M, l0, l1, l2, l3, l4, l5, l6, l7, l8 =>
    if l3 ≤ l8 then (
      fM_trip_107  xF M l0 l2 l4 l5 l6 l7 (l7 - (1 : Int32)))
    else
    (xob M l0 8).bind fun u11 =>
    (fM_takes M u11 l1 l2).bind fun q12 =>
    if 0 ≤ q12.1 then (
      (xgR q12.2 l0 8 35).bind fun v13 =>
      (xuI q12.2 v13 l7 q12.1).bind fun M14 =>
      fM_trip_95 (fun M l0 l1 l2 l3 l4 l5 l6 l7 l8 => fM_trip_61  n M l0 l1 l2 l3 l4 l5 l6 l7 l8) M14 l0 l1 l2 l3 l4 l5 l6 (l7 + 1) l8 )
    else
    fM_trip_95 (fun M l0 l1 l2 l3 l4 l5 l6 l7 l8 => fM_trip_61  n M l0 l1 l2 l3 l4 l5 l6 l7 l8) q12.2 l0 l1 l2 l3 l4 l5 l6 l7 l8 
set_option maxRecDepth 20000 in
theorem TfM_trip_61 {M' : xMem} {r : Int32}  : ∀ (n : Nat) (M : xMem) (l0 : Option xId) (l1 : Int32) (l2 : Int32) (l3 : Int32) (l4 : Int32) (l5 : Int32) (l6 : Int32) (l7 : Int32) (l8 : Int32) (o9 : Option xVal), fM_trip_61  n M l0 l1 l2 l3 l4 l5 l6 l7 l8 = some (r, M') → xrun none 5 230 61 ([some (.inr (.inr l0)), some (.inl l1), some (.inl l2), some (.inl l3), some (.inl l4), some (.inl l5), some (.inl l6), some (.inl l7), some (.inl l8), o9]) ([]) M (some (.inl r), M') := by
  intro n
  induction n with
  | zero => intro M l0 l1 l2 l3 l4 l5 l6 l7 l8 o9 h; unfold fM_trip_61 at h; cases h
  | succ n ih =>
    intro M l0 l1 l2 l3 l4 l5 l6 l7 l8 o9 h
    unfold fM_trip_61 at h
    refine xr_iload (pc' := 63) rfl rfl rfl ?_
    refine xr_iload_n (pc' := 64) rfl rfl rfl ?_
    rcases xite h with ⟨hc, h⟩ | ⟨hc, h⟩
    · refine xr_icmp_ge_t (t := 101) rfl hc ?_
      refine xr_iload (pc' := 103) rfl rfl rfl ?_
      refine xr_iconst (v := 1) (pc' := 104) rfl (by decide) rfl ?_
      refine xr_isub (pc' := 105) rfl rfl ?_
      refine xr_istore (pc' := 107) rfl rfl rfl ?_
      exact TfM_trip_107   xF M _ _ _ _ _ _ _ _ _ _ h
    · refine xr_icmp_ge_f (pc' := 67) rfl hc rfl ?_
      refine xr_aload_n (pc' := 68) rfl rfl rfl ?_
      refine xr_iload_n (pc' := 69) rfl rfl rfl ?_
      refine xr_iload_n (pc' := 70) rfl rfl rfl ?_
      obtain ⟨u11, hu11, h⟩ := xbind h
      obtain ⟨q12, hq12, h⟩ := xbind h
      refine xr_callV (pc' := 73) (C := 8) (As := [_, _]) (rest := _) rfl hu11 mC_169 mL_169 rfl (Nat.le_of_ble_eq_true rfl) rfl (Nat.le_of_ble_eq_true rfl) (TfM_takes _ _ _ hq12) rfl ?_
      refine xr_istore (pc' := 75) rfl rfl rfl ?_
      refine xr_iload (pc' := 77) rfl rfl rfl ?_
      rcases xite h with ⟨hc, h⟩ | ⟨hc, h⟩
      · refine xr_if_ge_t (t := 83) rfl hc ?_
        refine xr_aload_n (pc' := 84) rfl rfl rfl ?_
        obtain ⟨v13, hv13, h⟩ := xbind h
        refine xr_getR (pc' := 87) rfl (by decide) hv13 rfl ?_
        refine xr_iload (pc' := 89) rfl rfl rfl ?_
        refine xr_iload (pc' := 91) rfl rfl rfl ?_
        obtain ⟨M14, hM14, h⟩ := xbind h
        refine xr_uI (pc' := 92) rfl hM14 rfl ?_
        refine xr_iinc (c := 1) (pc' := 95) rfl (by decide) rfl rfl rfl ?_
        exact TfM_trip_95 _ (fun M l0 l1 l2 l3 l4 l5 l6 l7 l8 o9 h => ih M l0 l1 l2 l3 l4 l5 l6 l7 l8 o9 h) M14 _ _ _ _ _ _ _ _ _  _ h
      · refine xr_if_ge_f (pc' := 80) rfl hc rfl ?_
        refine xr_goto (t := 95) rfl ?_
        exact TfM_trip_95 _ (fun M l0 l1 l2 l3 l4 l5 l6 l7 l8 o9 h => ih M l0 l1 l2 l3 l4 l5 l6 l7 l8 o9 h) q12.2 _ _ _ _ _ _ _ _ _  _ h
def fM_trip (M : xMem) (this : xId) (a0 : Int32) (a1 : Int32) (a2 : Int32) (a3 : Int32) : Option (Int32 × xMem) :=
  (xob M (some this) 8).bind fun u1 =>
  (fM_isCache M u1 a0).bind fun q2 =>
  if q2.1 = 0 then (
    some ((-2000000000 : Int32), q2.2))
  else
  (fM_isProcessor q2.2 a1).bind fun q3 =>
  if q3.1 = 0 then (
    some ((-2000000000 : Int32), q3.2))
  else
  (fM_isIn q3.2 a2 (1 : Int32) (40 : Int32)).bind fun q4 =>
  if q4.1 = 0 then (
    some ((-2000000000 : Int32), q4.2))
  else
  (fM_isIn q4.2 a3 (0 : Int32) (2 : Int32)).bind fun q5 =>
  if q5.1 = 0 then (
    some ((-2000000000 : Int32), q5.2))
  else
  (xob q5.2 (some this) 8).bind fun u6 =>
  (fM_manyMade q5.2 u6 ).bind fun q7 =>
  (xgI q7.2 (some this) 8 15).bind fun v8 =>
  (xob q7.2 (some this) 8).bind fun u9 =>
  (fM_thinks q7.2 u9 ).bind fun q10 =>
  fM_trip_61  xF q10 (some this) a0 a1 a2 a3 q7.1 v8 (0 : Int32) (0 : Int32)
set_option maxRecDepth 20000 in
theorem TfM_trip {M M' : xMem} {r : Int32} (this : xId) (a0 : Int32) (a1 : Int32) (a2 : Int32) (a3 : Int32) (h : fM_trip M this a0 a1 a2 a3 = some (r, M')) : xrun none 5 230 0 ([some (.inr (.inr (some this))), some (.inl a0), some (.inl a1), some (.inl a2), some (.inl a3), none, none, none, none, none]) ([]) M (some (.inl r), M') := by
  unfold fM_trip at h
  refine xr_aload_n (pc' := 1) rfl rfl rfl ?_
  refine xr_iload_n (pc' := 2) rfl rfl rfl ?_
  obtain ⟨u1, hu1, h⟩ := xbind h
  obtain ⟨q2, hq2, h⟩ := xbind h
  refine xr_callV (pc' := 5) (C := 8) (As := [_]) (rest := _) rfl hu1 mC_166 mL_166 rfl (Nat.le_of_ble_eq_true rfl) rfl (Nat.le_of_ble_eq_true rfl) (TfM_isCache _ _ hq2) rfl ?_
  rcases xite h with ⟨hc, h⟩ | ⟨hc, h⟩
  · refine xr_if_eq_t (t := 35) rfl hc ?_
    refine xr_ldc_w (v := -2000000000) (pc' := 38) rfl (by decide) rfl ?_
    obtain ⟨rfl, rfl⟩ := xsome2 h
    exact xr_iret rfl mR_230
  · refine xr_if_eq_f (pc' := 8) rfl hc rfl ?_
    refine xr_iload_n (pc' := 9) rfl rfl rfl ?_
    obtain ⟨q3, hq3, h⟩ := xbind h
    refine xr_callS (pc' := 12) (As := [_]) (rest := _) rfl (by decide) mL_168 rfl (Nat.le_of_ble_eq_true rfl) rfl (Nat.le_of_ble_eq_true rfl) (TfM_isProcessor _ hq3) rfl ?_
    rcases xite h with ⟨hc, h⟩ | ⟨hc, h⟩
    · refine xr_if_eq_t (t := 35) rfl hc ?_
      refine xr_ldc_w (v := -2000000000) (pc' := 38) rfl (by decide) rfl ?_
      obtain ⟨rfl, rfl⟩ := xsome2 h
      exact xr_iret rfl mR_230
    · refine xr_if_eq_f (pc' := 15) rfl hc rfl ?_
      refine xr_iload_n (pc' := 16) rfl rfl rfl ?_
      refine xr_iconst (v := 1) (pc' := 17) rfl (by decide) rfl ?_
      refine xr_bipush (v := 40) (pc' := 19) rfl (by decide) rfl ?_
      obtain ⟨q4, hq4, h⟩ := xbind h
      refine xr_callS (pc' := 22) (As := [_, _, _]) (rest := _) rfl (by decide) mL_163 rfl (Nat.le_of_ble_eq_true rfl) rfl (Nat.le_of_ble_eq_true rfl) (TfM_isIn _ _ _ hq4) rfl ?_
      rcases xite h with ⟨hc, h⟩ | ⟨hc, h⟩
      · refine xr_if_eq_t (t := 35) rfl hc ?_
        refine xr_ldc_w (v := -2000000000) (pc' := 38) rfl (by decide) rfl ?_
        obtain ⟨rfl, rfl⟩ := xsome2 h
        exact xr_iret rfl mR_230
      · refine xr_if_eq_f (pc' := 25) rfl hc rfl ?_
        refine xr_iload (pc' := 27) rfl rfl rfl ?_
        refine xr_iconst (v := 0) (pc' := 28) rfl (by decide) rfl ?_
        refine xr_iconst (v := 2) (pc' := 29) rfl (by decide) rfl ?_
        obtain ⟨q5, hq5, h⟩ := xbind h
        refine xr_callS (pc' := 32) (As := [_, _, _]) (rest := _) rfl (by decide) mL_163 rfl (Nat.le_of_ble_eq_true rfl) rfl (Nat.le_of_ble_eq_true rfl) (TfM_isIn _ _ _ hq5) rfl ?_
        rcases xite h with ⟨hc, h⟩ | ⟨hc, h⟩
        · refine xr_if_ne_f (pc' := 35) rfl hc rfl ?_
          refine xr_ldc_w (v := -2000000000) (pc' := 38) rfl (by decide) rfl ?_
          obtain ⟨rfl, rfl⟩ := xsome2 h
          exact xr_iret rfl mR_230
        · refine xr_if_ne_t (t := 39) rfl hc ?_
          refine xr_aload_n (pc' := 40) rfl rfl rfl ?_
          obtain ⟨u6, hu6, h⟩ := xbind h
          obtain ⟨q7, hq7, h⟩ := xbind h
          refine xr_callV (pc' := 43) (C := 8) (As := []) (rest := _) rfl hu6 mC_205 mL_205 rfl (Nat.le_of_ble_eq_true rfl) rfl (Nat.le_of_ble_eq_true rfl) (TfM_manyMade _  hq7) rfl ?_
          refine xr_istore (pc' := 45) rfl rfl rfl ?_
          refine xr_aload_n (pc' := 46) rfl rfl rfl ?_
          obtain ⟨v8, hv8, h⟩ := xbind h
          refine xr_getI (pc' := 49) rfl (by decide) hv8 rfl ?_
          refine xr_istore (pc' := 51) rfl rfl rfl ?_
          refine xr_aload_n (pc' := 52) rfl rfl rfl ?_
          obtain ⟨u9, hu9, h⟩ := xbind h
          obtain ⟨q10, hq10, h⟩ := xbind h
          refine xr_callV (pc' := 55) (C := 8) (As := []) (rest := _) rfl hu9 mC_228 mL_228 rfl (Nat.le_of_ble_eq_true rfl) rfl (Nat.le_of_ble_eq_true rfl) (TfM_thinks _  hq10) rfl ?_
          refine xr_iconst (v := 0) (pc' := 56) rfl (by decide) rfl ?_
          refine xr_istore (pc' := 58) rfl rfl rfl ?_
          refine xr_iconst (v := 0) (pc' := 59) rfl (by decide) rfl ?_
          refine xr_istore (pc' := 61) rfl rfl rfl ?_
          exact TfM_trip_61   xF q10 _ _ _ _ _ _ _ _ _ _ h
