/-! shallow functions of the methods (by program, out of the bytecode), and that a run is what they say -/
-- 86: MagazineDepot.map(II)J
def fX_map (M : xMem) (this : xId) (a0 : Int32) (a1 : Int32) : Option (Int64 × xMem) :=
  if a0 < 0 then (
    some ((-1 : Int64), M))
  else
  if (32 : Int32) ≤ a0 then (
    some ((-1 : Int64), M))
  else
  if a1 < 0 then (
    some ((-1 : Int64), M))
  else
  if a1 ≤ (1 : Int32) then (
    (xgR M (some this) 7 0).bind fun v1 =>
    (xgR M v1 3 0).bind fun v2 =>
    (xgR M v2 0 0).bind fun v3 =>
    (xaI M v3 a0).bind fun v4 =>
    if v4 = (-1 : Int32) then (
      some ((-2 : Int64), M))
    else
    if a1 = 0 then (
      (xgR M (some this) 7 0).bind fun v5 =>
      (xgR M v5 3 0).bind fun v6 =>
      (xgR M v6 0 4).bind fun v7 =>
      (xaL M v7 a0).bind fun v8 =>
      some (v8, M))
    else
    (xgR M (some this) 7 0).bind fun v9 =>
    (xgR M v9 3 0).bind fun v10 =>
    (xgR M v10 0 5).bind fun v11 =>
    (xaL M v11 a0).bind fun v12 =>
    some (v12, M))
  else
  some ((-1 : Int64), M)
set_option maxRecDepth 20000 in
theorem TfX_map {M M' : xMem} {r : Int64} (this : xId) (a0 : Int32) (a1 : Int32) (h : fX_map M this a0 a1 = some (r, M')) : xrun none 0 86 0 ([some (.inr (.inr (some this))), some (.inl a0), some (.inl a1)]) ([]) M (some (.inr (.inl r)), M') := by
  unfold fX_map at h
  refine xr_iload_n (pc' := 1) rfl rfl rfl ?_
  rcases xite h with ⟨hc, h⟩ | ⟨hc, h⟩
  · refine xr_if_lt_t (t := 19) rfl hc ?_
    refine xr_ldc2_w (v := -1) (pc' := 22) rfl (by decide) rfl ?_
    obtain ⟨rfl, rfl⟩ := xsome2 h
    exact xr_lret rfl mR_86
  · refine xr_if_lt_f (pc' := 4) rfl hc rfl ?_
    refine xr_iload_n (pc' := 5) rfl rfl rfl ?_
    refine xr_bipush (v := 32) (pc' := 7) rfl (by decide) rfl ?_
    rcases xite h with ⟨hc, h⟩ | ⟨hc, h⟩
    · refine xr_icmp_ge_t (t := 19) rfl hc ?_
      refine xr_ldc2_w (v := -1) (pc' := 22) rfl (by decide) rfl ?_
      obtain ⟨rfl, rfl⟩ := xsome2 h
      exact xr_lret rfl mR_86
    · refine xr_icmp_ge_f (pc' := 10) rfl hc rfl ?_
      refine xr_iload_n (pc' := 11) rfl rfl rfl ?_
      rcases xite h with ⟨hc, h⟩ | ⟨hc, h⟩
      · refine xr_if_lt_t (t := 19) rfl hc ?_
        refine xr_ldc2_w (v := -1) (pc' := 22) rfl (by decide) rfl ?_
        obtain ⟨rfl, rfl⟩ := xsome2 h
        exact xr_lret rfl mR_86
      · refine xr_if_lt_f (pc' := 14) rfl hc rfl ?_
        refine xr_iload_n (pc' := 15) rfl rfl rfl ?_
        refine xr_iconst (v := 1) (pc' := 16) rfl (by decide) rfl ?_
        rcases xite h with ⟨hc, h⟩ | ⟨hc, h⟩
        · refine xr_icmp_le_t (t := 23) rfl hc ?_
          refine xr_aload_n (pc' := 24) rfl rfl rfl ?_
          obtain ⟨v1, hv1, h⟩ := xbind h
          refine xr_getR (pc' := 27) rfl (by decide) hv1 rfl ?_
          obtain ⟨v2, hv2, h⟩ := xbind h
          refine xr_getR (pc' := 30) rfl (by decide) hv2 rfl ?_
          obtain ⟨v3, hv3, h⟩ := xbind h
          refine xr_getR (pc' := 33) rfl (by decide) hv3 rfl ?_
          refine xr_iload_n (pc' := 34) rfl rfl rfl ?_
          obtain ⟨v4, hv4, h⟩ := xbind h
          refine xr_aI (pc' := 35) rfl hv4 rfl ?_
          refine xr_iconst (v := -1) (pc' := 36) rfl (by decide) rfl ?_
          rcases xite h with ⟨hc, h⟩ | ⟨hc, h⟩
          · refine xr_icmp_ne_f (pc' := 39) rfl hc rfl ?_
            refine xr_ldc2_w (v := -2) (pc' := 42) rfl (by decide) rfl ?_
            obtain ⟨rfl, rfl⟩ := xsome2 h
            exact xr_lret rfl mR_86
          · refine xr_icmp_ne_t (t := 43) rfl hc ?_
            refine xr_iload_n (pc' := 44) rfl rfl rfl ?_
            rcases xite h with ⟨hc, h⟩ | ⟨hc, h⟩
            · refine xr_if_ne_f (pc' := 47) rfl hc rfl ?_
              refine xr_aload_n (pc' := 48) rfl rfl rfl ?_
              obtain ⟨v5, hv5, h⟩ := xbind h
              refine xr_getR (pc' := 51) rfl (by decide) hv5 rfl ?_
              obtain ⟨v6, hv6, h⟩ := xbind h
              refine xr_getR (pc' := 54) rfl (by decide) hv6 rfl ?_
              obtain ⟨v7, hv7, h⟩ := xbind h
              refine xr_getR (pc' := 57) rfl (by decide) hv7 rfl ?_
              refine xr_iload_n (pc' := 58) rfl rfl rfl ?_
              obtain ⟨v8, hv8, h⟩ := xbind h
              refine xr_aL (pc' := 59) rfl hv8 rfl ?_
              refine xr_goto (t := 74) rfl ?_
              obtain ⟨rfl, rfl⟩ := xsome2 h
              exact xr_lret rfl mR_86
            · refine xr_if_ne_t (t := 62) rfl hc ?_
              refine xr_aload_n (pc' := 63) rfl rfl rfl ?_
              obtain ⟨v9, hv9, h⟩ := xbind h
              refine xr_getR (pc' := 66) rfl (by decide) hv9 rfl ?_
              obtain ⟨v10, hv10, h⟩ := xbind h
              refine xr_getR (pc' := 69) rfl (by decide) hv10 rfl ?_
              obtain ⟨v11, hv11, h⟩ := xbind h
              refine xr_getR (pc' := 72) rfl (by decide) hv11 rfl ?_
              refine xr_iload_n (pc' := 73) rfl rfl rfl ?_
              obtain ⟨v12, hv12, h⟩ := xbind h
              refine xr_aL (pc' := 74) rfl hv12 rfl ?_
              obtain ⟨rfl, rfl⟩ := xsome2 h
              exact xr_lret rfl mR_86
        · refine xr_icmp_le_f (pc' := 19) rfl hc rfl ?_
          refine xr_ldc2_w (v := -1) (pc' := 22) rfl (by decide) rfl ?_
          obtain ⟨rfl, rfl⟩ := xsome2 h
          exact xr_lret rfl mR_86
-- 88: MagazineDepot$Arena.slabsOf(I)I
def fA_slabsOf_39 (k14 : xMem → Int32 → Int32 → Option xId → Int32 → Int32 → Option (Int32 × xMem)) (M : xMem) (l1 : Int32) (l3 : Option xId) (l4 : Int32) (l5 : Int32) (s0 : Int32) (s1 : Int32) : Option (Int32 × xMem) :=
  k14 M l1 (s0 + s1) l3 l4 (l5 + 1)
set_option maxRecDepth 20000 in
theorem TfA_slabsOf_39 {M' : xMem} {r : Int32} (k14 : xMem → Int32 → Int32 → Option xId → Int32 → Int32 → Option (Int32 × xMem)) (hk14 : ∀ (M : xMem) (l1 : Int32) (l2 : Int32) (l3 : Option xId) (l4 : Int32) (l5 : Int32) (o0 : Option xId) (o6 : Option xVal), k14 M l1 l2 l3 l4 l5 = some (r, M') → xrun none 0 88 14 ([some (.inr (.inr o0)), some (.inl l1), some (.inl l2), some (.inr (.inr l3)), some (.inl l4), some (.inl l5), o6]) ([]) M (some (.inl r), M')) (M : xMem) (l1 : Int32) (l3 : Option xId) (l4 : Int32) (l5 : Int32) (s0 : Int32) (s1 : Int32) (o0 : Option xId) (o2 : Int32) (o6 : Int32) (h : fA_slabsOf_39 k14 M l1 l3 l4 l5 s0 s1 = some (r, M')) : xrun none 0 88 39 ([some (.inr (.inr o0)), some (.inl l1), some (.inl o2), some (.inr (.inr l3)), some (.inl l4), some (.inl l5), some (.inl o6)]) ([.inl s1, .inl s0]) M (some (.inl r), M') := by
  unfold fA_slabsOf_39 at h
  refine xr_iadd (pc' := 40) rfl rfl ?_
  refine xr_istore_n (pc' := 41) rfl rfl rfl ?_
  refine xr_iinc (c := 1) (pc' := 44) rfl (by decide) rfl rfl rfl ?_
  refine xr_goto (t := 14) rfl ?_
  exact hk14 M _ _ _ _ _ _ _ h
def fA_slabsOf_14  : Nat → xMem → Int32 → Int32 → Option xId → Int32 → Int32 → Option (Int32 × xMem)
  | 0, _, _, _, _, _, _ => none
  | n + 1, M, l1, l2, l3, l4, l5 =>
    if l4 ≤ l5 then (
      some (l2, M))
    else
    (xaI M l3 l5).bind fun v3 =>
    if v3 = l1 then (
      fA_slabsOf_39 (fun M l1 l2 l3 l4 l5 => fA_slabsOf_14  n M l1 l2 l3 l4 l5) M l1 l3 l4 l5 l2 (1 : Int32))
    else
    fA_slabsOf_39 (fun M l1 l2 l3 l4 l5 => fA_slabsOf_14  n M l1 l2 l3 l4 l5) M l1 l3 l4 l5 l2 (0 : Int32)
set_option maxRecDepth 20000 in
theorem TfA_slabsOf_14 {M' : xMem} {r : Int32}  : ∀ (n : Nat) (M : xMem) (l1 : Int32) (l2 : Int32) (l3 : Option xId) (l4 : Int32) (l5 : Int32) (o0 : Option xId) (o6 : Option xVal), fA_slabsOf_14  n M l1 l2 l3 l4 l5 = some (r, M') → xrun none 0 88 14 ([some (.inr (.inr o0)), some (.inl l1), some (.inl l2), some (.inr (.inr l3)), some (.inl l4), some (.inl l5), o6]) ([]) M (some (.inl r), M') := by
  intro n
  induction n with
  | zero => intro M l1 l2 l3 l4 l5 o0 o6 h; unfold fA_slabsOf_14 at h; cases h
  | succ n ih =>
    intro M l1 l2 l3 l4 l5 o0 o6 h
    unfold fA_slabsOf_14 at h
    refine xr_iload (pc' := 16) rfl rfl rfl ?_
    refine xr_iload (pc' := 18) rfl rfl rfl ?_
    rcases xite h with ⟨hc, h⟩ | ⟨hc, h⟩
    · refine xr_icmp_ge_t (t := 47) rfl hc ?_
      refine xr_iload_n (pc' := 48) rfl rfl rfl ?_
      obtain ⟨rfl, rfl⟩ := xsome2 h
      exact xr_iret rfl mR_88
    · refine xr_icmp_ge_f (pc' := 21) rfl hc rfl ?_
      refine xr_aload_n (pc' := 22) rfl rfl rfl ?_
      refine xr_iload (pc' := 24) rfl rfl rfl ?_
      obtain ⟨v3, hv3, h⟩ := xbind h
      refine xr_aI (pc' := 25) rfl hv3 rfl ?_
      refine xr_istore (pc' := 27) rfl rfl rfl ?_
      refine xr_iload_n (pc' := 28) rfl rfl rfl ?_
      refine xr_iload (pc' := 30) rfl rfl rfl ?_
      refine xr_iload_n (pc' := 31) rfl rfl rfl ?_
      rcases xite h with ⟨hc, h⟩ | ⟨hc, h⟩
      · refine xr_icmp_ne_f (pc' := 34) rfl hc rfl ?_
        refine xr_iconst (v := 1) (pc' := 35) rfl (by decide) rfl ?_
        refine xr_goto (t := 39) rfl ?_
        exact TfA_slabsOf_39 _ (fun M l1 l2 l3 l4 l5 o0 o6 h => ih M l1 l2 l3 l4 l5 o0 o6 h) M _ _ _ _ _ _ _ _ _ h
      · refine xr_icmp_ne_t (t := 38) rfl hc ?_
        refine xr_iconst (v := 0) (pc' := 39) rfl (by decide) rfl ?_
        exact TfA_slabsOf_39 _ (fun M l1 l2 l3 l4 l5 o0 o6 h => ih M l1 l2 l3 l4 l5 o0 o6 h) M _ _ _ _ _ _ _ _ _ h
def fA_slabsOf (M : xMem) (this : xId) (a0 : Int32) : Option (Int32 × xMem) :=
  (xgR M (some this) 0 0).bind fun v1 =>
  (xal M v1).bind fun v2 =>
  fA_slabsOf_14  xF M a0 (0 : Int32) v1 v2 (0 : Int32)
set_option maxRecDepth 20000 in
theorem TfA_slabsOf {M M' : xMem} {r : Int32} (this : xId) (a0 : Int32) (h : fA_slabsOf M this a0 = some (r, M')) : xrun none 0 88 0 ([some (.inr (.inr (some this))), some (.inl a0), none, none, none, none, none]) ([]) M (some (.inl r), M') := by
  unfold fA_slabsOf at h
  refine xr_iconst (v := 0) (pc' := 1) rfl (by decide) rfl ?_
  refine xr_istore_n (pc' := 2) rfl rfl rfl ?_
  refine xr_aload_n (pc' := 3) rfl rfl rfl ?_
  obtain ⟨v1, hv1, h⟩ := xbind h
  refine xr_getR (pc' := 6) rfl (by decide) hv1 rfl ?_
  refine xr_astore_n (pc' := 7) rfl rfl rfl ?_
  refine xr_aload_n (pc' := 8) rfl rfl rfl ?_
  obtain ⟨v2, hv2, h⟩ := xbind h
  refine xr_alen (pc' := 9) rfl hv2 rfl ?_
  refine xr_istore (pc' := 11) rfl rfl rfl ?_
  refine xr_iconst (v := 0) (pc' := 12) rfl (by decide) rfl ?_
  refine xr_istore (pc' := 14) rfl rfl rfl ?_
  exact TfA_slabsOf_14   xF M _ _ _ _ _ _ _ h
-- 89: MagazineDepot$Cache.tells(I)I
def fC_tells (M : xMem) (this : xId) (a0 : Int32) : Option (Int32 × xMem) :=
  if a0 = 0 then (
    (xgI M (some this) 2 0).bind fun v1 =>
    some (v1, M))
  else
  if a0 = 1 then (
    (xgI M (some this) 2 1).bind fun v2 =>
    some (v2, M))
  else
  if a0 = 2 then (
    (xgI M (some this) 2 2).bind fun v3 =>
    some (v3, M))
  else
  if a0 = 3 then (
    (xgI M (some this) 2 3).bind fun v4 =>
    some (v4, M))
  else
  if a0 = 4 then (
    (xgI M (some this) 2 4).bind fun v5 =>
    some (v5, M))
  else
  if a0 = 5 then (
    (xgI M (some this) 2 5).bind fun v6 =>
    some (v6, M))
  else
  if a0 = 6 then (
    (xgI M (some this) 2 6).bind fun v7 =>
    some (v7, M))
  else
  if a0 = 7 then (
    (xgI M (some this) 2 7).bind fun v8 =>
    some (v8, M))
  else
  if a0 = 8 then (
    (xgR M (some this) 2 16).bind fun v9 =>
    (xgI M v9 4 1).bind fun v10 =>
    some (v10, M))
  else
  if a0 = 9 then (
    (xgR M (some this) 2 17).bind fun v11 =>
    (xgI M v11 4 1).bind fun v12 =>
    some (v12, M))
  else
  if a0 = 10 then (
    (xgI M (some this) 2 8).bind fun v13 =>
    some (v13, M))
  else
  if a0 = 11 then (
    (xgI M (some this) 2 9).bind fun v14 =>
    some (v14, M))
  else
  if a0 = 13 then (
    (xgI M (some this) 2 10).bind fun v15 =>
    some (v15, M))
  else
  if a0 = 14 then (
    (xgI M (some this) 2 11).bind fun v16 =>
    some (v16, M))
  else
  if a0 = 15 then (
    (xgI M (some this) 2 12).bind fun v17 =>
    some (v17, M))
  else
  some ((-1 : Int32), M)
set_option maxRecDepth 20000 in
theorem TfC_tells {M M' : xMem} {r : Int32} (this : xId) (a0 : Int32) (h : fC_tells M this a0 = some (r, M')) : xrun none 0 89 0 ([some (.inr (.inr (some this))), some (.inl a0)]) ([]) M (some (.inl r), M') := by
  unfold fC_tells at h
  refine xr_iload_n (pc' := 1) rfl rfl rfl ?_
  rcases xite h with ⟨hc1_0, h⟩ | ⟨hc1_0, h⟩
  · refine xr_tsw_in (t := 80) rfl (by rw [hc1_0]; decide) (by rw [hc1_0]; rfl) (by decide) ?_
    refine xr_aload_n (pc' := 81) rfl rfl rfl ?_
    obtain ⟨v1, hv1, h⟩ := xbind h
    refine xr_getI (pc' := 84) rfl (by decide) hv1 rfl ?_
    obtain ⟨rfl, rfl⟩ := xsome2 h
    exact xr_iret rfl mR_89
  rcases xite h with ⟨hc1_1, h⟩ | ⟨hc1_1, h⟩
  · refine xr_tsw_in (t := 85) rfl (by rw [hc1_1]; decide) (by rw [hc1_1]; rfl) (by decide) ?_
    refine xr_aload_n (pc' := 86) rfl rfl rfl ?_
    obtain ⟨v2, hv2, h⟩ := xbind h
    refine xr_getI (pc' := 89) rfl (by decide) hv2 rfl ?_
    obtain ⟨rfl, rfl⟩ := xsome2 h
    exact xr_iret rfl mR_89
  rcases xite h with ⟨hc1_2, h⟩ | ⟨hc1_2, h⟩
  · refine xr_tsw_in (t := 90) rfl (by rw [hc1_2]; decide) (by rw [hc1_2]; rfl) (by decide) ?_
    refine xr_aload_n (pc' := 91) rfl rfl rfl ?_
    obtain ⟨v3, hv3, h⟩ := xbind h
    refine xr_getI (pc' := 94) rfl (by decide) hv3 rfl ?_
    obtain ⟨rfl, rfl⟩ := xsome2 h
    exact xr_iret rfl mR_89
  rcases xite h with ⟨hc1_3, h⟩ | ⟨hc1_3, h⟩
  · refine xr_tsw_in (t := 95) rfl (by rw [hc1_3]; decide) (by rw [hc1_3]; rfl) (by decide) ?_
    refine xr_aload_n (pc' := 96) rfl rfl rfl ?_
    obtain ⟨v4, hv4, h⟩ := xbind h
    refine xr_getI (pc' := 99) rfl (by decide) hv4 rfl ?_
    obtain ⟨rfl, rfl⟩ := xsome2 h
    exact xr_iret rfl mR_89
  rcases xite h with ⟨hc1_4, h⟩ | ⟨hc1_4, h⟩
  · refine xr_tsw_in (t := 100) rfl (by rw [hc1_4]; decide) (by rw [hc1_4]; rfl) (by decide) ?_
    refine xr_aload_n (pc' := 101) rfl rfl rfl ?_
    obtain ⟨v5, hv5, h⟩ := xbind h
    refine xr_getI (pc' := 104) rfl (by decide) hv5 rfl ?_
    obtain ⟨rfl, rfl⟩ := xsome2 h
    exact xr_iret rfl mR_89
  rcases xite h with ⟨hc1_5, h⟩ | ⟨hc1_5, h⟩
  · refine xr_tsw_in (t := 105) rfl (by rw [hc1_5]; decide) (by rw [hc1_5]; rfl) (by decide) ?_
    refine xr_aload_n (pc' := 106) rfl rfl rfl ?_
    obtain ⟨v6, hv6, h⟩ := xbind h
    refine xr_getI (pc' := 109) rfl (by decide) hv6 rfl ?_
    obtain ⟨rfl, rfl⟩ := xsome2 h
    exact xr_iret rfl mR_89
  rcases xite h with ⟨hc1_6, h⟩ | ⟨hc1_6, h⟩
  · refine xr_tsw_in (t := 110) rfl (by rw [hc1_6]; decide) (by rw [hc1_6]; rfl) (by decide) ?_
    refine xr_aload_n (pc' := 111) rfl rfl rfl ?_
    obtain ⟨v7, hv7, h⟩ := xbind h
    refine xr_getI (pc' := 114) rfl (by decide) hv7 rfl ?_
    obtain ⟨rfl, rfl⟩ := xsome2 h
    exact xr_iret rfl mR_89
  rcases xite h with ⟨hc1_7, h⟩ | ⟨hc1_7, h⟩
  · refine xr_tsw_in (t := 115) rfl (by rw [hc1_7]; decide) (by rw [hc1_7]; rfl) (by decide) ?_
    refine xr_aload_n (pc' := 116) rfl rfl rfl ?_
    obtain ⟨v8, hv8, h⟩ := xbind h
    refine xr_getI (pc' := 119) rfl (by decide) hv8 rfl ?_
    obtain ⟨rfl, rfl⟩ := xsome2 h
    exact xr_iret rfl mR_89
  rcases xite h with ⟨hc1_8, h⟩ | ⟨hc1_8, h⟩
  · refine xr_tsw_in (t := 120) rfl (by rw [hc1_8]; decide) (by rw [hc1_8]; rfl) (by decide) ?_
    refine xr_aload_n (pc' := 121) rfl rfl rfl ?_
    obtain ⟨v9, hv9, h⟩ := xbind h
    refine xr_getR (pc' := 124) rfl (by decide) hv9 rfl ?_
    obtain ⟨v10, hv10, h⟩ := xbind h
    refine xr_getI (pc' := 127) rfl (by decide) hv10 rfl ?_
    obtain ⟨rfl, rfl⟩ := xsome2 h
    exact xr_iret rfl mR_89
  rcases xite h with ⟨hc1_9, h⟩ | ⟨hc1_9, h⟩
  · refine xr_tsw_in (t := 128) rfl (by rw [hc1_9]; decide) (by rw [hc1_9]; rfl) (by decide) ?_
    refine xr_aload_n (pc' := 129) rfl rfl rfl ?_
    obtain ⟨v11, hv11, h⟩ := xbind h
    refine xr_getR (pc' := 132) rfl (by decide) hv11 rfl ?_
    obtain ⟨v12, hv12, h⟩ := xbind h
    refine xr_getI (pc' := 135) rfl (by decide) hv12 rfl ?_
    obtain ⟨rfl, rfl⟩ := xsome2 h
    exact xr_iret rfl mR_89
  rcases xite h with ⟨hc1_10, h⟩ | ⟨hc1_10, h⟩
  · refine xr_tsw_in (t := 136) rfl (by rw [hc1_10]; decide) (by rw [hc1_10]; rfl) (by decide) ?_
    refine xr_aload_n (pc' := 137) rfl rfl rfl ?_
    obtain ⟨v13, hv13, h⟩ := xbind h
    refine xr_getI (pc' := 140) rfl (by decide) hv13 rfl ?_
    obtain ⟨rfl, rfl⟩ := xsome2 h
    exact xr_iret rfl mR_89
  rcases xite h with ⟨hc1_11, h⟩ | ⟨hc1_11, h⟩
  · refine xr_tsw_in (t := 141) rfl (by rw [hc1_11]; decide) (by rw [hc1_11]; rfl) (by decide) ?_
    refine xr_aload_n (pc' := 142) rfl rfl rfl ?_
    obtain ⟨v14, hv14, h⟩ := xbind h
    refine xr_getI (pc' := 145) rfl (by decide) hv14 rfl ?_
    obtain ⟨rfl, rfl⟩ := xsome2 h
    exact xr_iret rfl mR_89
  rcases xite h with ⟨hc1_13, h⟩ | ⟨hc1_13, h⟩
  · refine xr_tsw_in (t := 146) rfl (by rw [hc1_13]; decide) (by rw [hc1_13]; rfl) (by decide) ?_
    refine xr_aload_n (pc' := 147) rfl rfl rfl ?_
    obtain ⟨v15, hv15, h⟩ := xbind h
    refine xr_getI (pc' := 150) rfl (by decide) hv15 rfl ?_
    obtain ⟨rfl, rfl⟩ := xsome2 h
    exact xr_iret rfl mR_89
  rcases xite h with ⟨hc1_14, h⟩ | ⟨hc1_14, h⟩
  · refine xr_tsw_in (t := 151) rfl (by rw [hc1_14]; decide) (by rw [hc1_14]; rfl) (by decide) ?_
    refine xr_aload_n (pc' := 152) rfl rfl rfl ?_
    obtain ⟨v16, hv16, h⟩ := xbind h
    refine xr_getI (pc' := 155) rfl (by decide) hv16 rfl ?_
    obtain ⟨rfl, rfl⟩ := xsome2 h
    exact xr_iret rfl mR_89
  rcases xite h with ⟨hc1_15, h⟩ | ⟨hc1_15, h⟩
  · refine xr_tsw_in (t := 156) rfl (by rw [hc1_15]; decide) (by rw [hc1_15]; rfl) (by decide) ?_
    refine xr_aload_n (pc' := 157) rfl rfl rfl ?_
    obtain ⟨v17, hv17, h⟩ := xbind h
    refine xr_getI (pc' := 160) rfl (by decide) hv17 rfl ?_
    obtain ⟨rfl, rfl⟩ := xsome2 h
    exact xr_iret rfl mR_89
  by_cases hd1_12 : a0 = 12
  · refine xr_tsw_in (t := 161) rfl (by rw [hd1_12]; decide) (by rw [hd1_12]; rfl) (by decide) ?_
    refine xr_iconst (v := -1) (pc' := 162) rfl (by decide) rfl ?_
    obtain ⟨rfl, rfl⟩ := xsome2 h
    exact xr_iret rfl mR_89
  have hc1_0 := lv_neT hc1_0 (by decide : (0 : Int32).toInt = 0)
  have hc1_1 := lv_neT hc1_1 (by decide : (1 : Int32).toInt = 1)
  have hc1_2 := lv_neT hc1_2 (by decide : (2 : Int32).toInt = 2)
  have hc1_3 := lv_neT hc1_3 (by decide : (3 : Int32).toInt = 3)
  have hc1_4 := lv_neT hc1_4 (by decide : (4 : Int32).toInt = 4)
  have hc1_5 := lv_neT hc1_5 (by decide : (5 : Int32).toInt = 5)
  have hc1_6 := lv_neT hc1_6 (by decide : (6 : Int32).toInt = 6)
  have hc1_7 := lv_neT hc1_7 (by decide : (7 : Int32).toInt = 7)
  have hc1_8 := lv_neT hc1_8 (by decide : (8 : Int32).toInt = 8)
  have hc1_9 := lv_neT hc1_9 (by decide : (9 : Int32).toInt = 9)
  have hc1_10 := lv_neT hc1_10 (by decide : (10 : Int32).toInt = 10)
  have hc1_11 := lv_neT hc1_11 (by decide : (11 : Int32).toInt = 11)
  have hc1_13 := lv_neT hc1_13 (by decide : (13 : Int32).toInt = 13)
  have hc1_14 := lv_neT hc1_14 (by decide : (14 : Int32).toInt = 14)
  have hc1_15 := lv_neT hc1_15 (by decide : (15 : Int32).toInt = 15)
  have hd1_12 := lv_neT hd1_12 (by decide : (12 : Int32).toInt = 12)
  refine xr_tsw_out (t := 161) rfl (by omega) (by decide) ?_
  refine xr_iconst (v := -1) (pc' := 162) rfl (by decide) rfl ?_
  obtain ⟨rfl, rfl⟩ := xsome2 h
  exact xr_iret rfl mR_89
-- 87: MagazineDepot.of(II)I
def fX_of (M : xMem) (this : xId) (a0 : Int32) (a1 : Int32) : Option (Int32 × xMem) :=
  (xgR M (some this) 7 0).bind fun v1 =>
  (xob M v1 3).bind fun u2 =>
  (fD_cacheAt M u2 a0).bind fun q3 =>
  if q3.1 = none then (
    some ((-1 : Int32), q3.2))
  else
  if a1 < 0 then (
    some ((-1 : Int32), q3.2))
  else
  if a1 ≤ (15 : Int32) then (
    if a1 = (12 : Int32) then (
      (xgR q3.2 (some this) 7 0).bind fun v4 =>
      (xgR q3.2 v4 3 0).bind fun v5 =>
      (xob q3.2 v5 0).bind fun u6 =>
      (fA_slabsOf q3.2 u6 a0).bind fun q7 =>
      some (q7.1, q7.2))
    else
    (xob q3.2 q3.1 2).bind fun u8 =>
    (fC_tells q3.2 u8 a1).bind fun q9 =>
    some (q9.1, q9.2))
  else
  some ((-1 : Int32), q3.2)
set_option maxRecDepth 20000 in
theorem TfX_of {M M' : xMem} {r : Int32} (this : xId) (a0 : Int32) (a1 : Int32) (h : fX_of M this a0 a1 = some (r, M')) : xrun none 1 87 0 ([some (.inr (.inr (some this))), some (.inl a0), some (.inl a1), none]) ([]) M (some (.inl r), M') := by
  unfold fX_of at h
  refine xr_aload_n (pc' := 1) rfl rfl rfl ?_
  obtain ⟨v1, hv1, h⟩ := xbind h
  refine xr_getR (pc' := 4) rfl (by decide) hv1 rfl ?_
  refine xr_iload_n (pc' := 5) rfl rfl rfl ?_
  obtain ⟨u2, hu2, h⟩ := xbind h
  obtain ⟨q3, hq3, h⟩ := xbind h
  refine xr_callV (pc' := 8) (C := 3) (As := [_]) (rest := _) rfl hu2 mC_18 mL_18 rfl (Nat.le_of_ble_eq_true rfl) rfl (Nat.le_of_ble_eq_true rfl) (TfD_cacheAt _ _ hq3) rfl ?_
  refine xr_astore_n (pc' := 9) rfl rfl rfl ?_
  refine xr_aload_n (pc' := 10) rfl rfl rfl ?_
  rcases xite h with ⟨hc, h⟩ | ⟨hc, h⟩
  · refine xr_ifnull_n (t := 23) rfl hc ?_
    refine xr_iconst (v := -1) (pc' := 24) rfl (by decide) rfl ?_
    obtain ⟨rfl, rfl⟩ := xsome2 h
    exact xr_iret rfl mR_87
  · refine xr_ifnull_s (pc' := 13) rfl hc rfl ?_
    refine xr_iload_n (pc' := 14) rfl rfl rfl ?_
    rcases xite h with ⟨hc, h⟩ | ⟨hc, h⟩
    · refine xr_if_lt_t (t := 23) rfl hc ?_
      refine xr_iconst (v := -1) (pc' := 24) rfl (by decide) rfl ?_
      obtain ⟨rfl, rfl⟩ := xsome2 h
      exact xr_iret rfl mR_87
    · refine xr_if_lt_f (pc' := 17) rfl hc rfl ?_
      refine xr_iload_n (pc' := 18) rfl rfl rfl ?_
      refine xr_bipush (v := 15) (pc' := 20) rfl (by decide) rfl ?_
      rcases xite h with ⟨hc, h⟩ | ⟨hc, h⟩
      · refine xr_icmp_le_t (t := 25) rfl hc ?_
        refine xr_iload_n (pc' := 26) rfl rfl rfl ?_
        refine xr_bipush (v := 12) (pc' := 28) rfl (by decide) rfl ?_
        rcases xite h with ⟨hc, h⟩ | ⟨hc, h⟩
        · refine xr_icmp_ne_f (pc' := 31) rfl hc rfl ?_
          refine xr_aload_n (pc' := 32) rfl rfl rfl ?_
          obtain ⟨v4, hv4, h⟩ := xbind h
          refine xr_getR (pc' := 35) rfl (by decide) hv4 rfl ?_
          obtain ⟨v5, hv5, h⟩ := xbind h
          refine xr_getR (pc' := 38) rfl (by decide) hv5 rfl ?_
          refine xr_iload_n (pc' := 39) rfl rfl rfl ?_
          obtain ⟨u6, hu6, h⟩ := xbind h
          obtain ⟨q7, hq7, h⟩ := xbind h
          refine xr_callV (pc' := 42) (C := 0) (As := [_]) (rest := _) rfl hu6 mC_88 mL_88 rfl (Nat.le_of_ble_eq_true rfl) rfl (Nat.le_of_ble_eq_true rfl) (TfA_slabsOf _ _ hq7) rfl ?_
          refine xr_goto (t := 50) rfl ?_
          obtain ⟨rfl, rfl⟩ := xsome2 h
          exact xr_iret rfl mR_87
        · refine xr_icmp_ne_t (t := 45) rfl hc ?_
          refine xr_aload_n (pc' := 46) rfl rfl rfl ?_
          refine xr_iload_n (pc' := 47) rfl rfl rfl ?_
          obtain ⟨u8, hu8, h⟩ := xbind h
          obtain ⟨q9, hq9, h⟩ := xbind h
          refine xr_callV (pc' := 50) (C := 2) (As := [_]) (rest := _) rfl hu8 mC_89 mL_89 rfl (Nat.le_of_ble_eq_true rfl) rfl (Nat.le_of_ble_eq_true rfl) (TfC_tells _ _ hq9) rfl ?_
          obtain ⟨rfl, rfl⟩ := xsome2 h
          exact xr_iret rfl mR_87
      · refine xr_icmp_le_f (pc' := 23) rfl hc rfl ?_
        refine xr_iconst (v := -1) (pc' := 24) rfl (by decide) rfl ?_
        obtain ⟨rfl, rfl⟩ := xsome2 h
        exact xr_iret rfl mR_87
-- 90: MagazineDepot.tally(I)J
def fX_tally (M : xMem) (this : xId) (a0 : Int32) : Option (Int64 × xMem) :=
  (xgR M (some this) 7 0).bind fun v1 =>
  (xob M v1 3).bind fun u2 =>
  (fD_cacheAt M u2 a0).bind fun q3 =>
  if q3.1 = none then (
    some ((-9223372036854775808 : Int64), q3.2))
  else
  (xgL q3.2 q3.1 2 13).bind fun v4 =>
  some (v4, q3.2)
set_option maxRecDepth 20000 in
theorem TfX_tally {M M' : xMem} {r : Int64} (this : xId) (a0 : Int32) (h : fX_tally M this a0 = some (r, M')) : xrun none 1 90 0 ([some (.inr (.inr (some this))), some (.inl a0), none]) ([]) M (some (.inr (.inl r)), M') := by
  unfold fX_tally at h
  refine xr_aload_n (pc' := 1) rfl rfl rfl ?_
  obtain ⟨v1, hv1, h⟩ := xbind h
  refine xr_getR (pc' := 4) rfl (by decide) hv1 rfl ?_
  refine xr_iload_n (pc' := 5) rfl rfl rfl ?_
  obtain ⟨u2, hu2, h⟩ := xbind h
  obtain ⟨q3, hq3, h⟩ := xbind h
  refine xr_callV (pc' := 8) (C := 3) (As := [_]) (rest := _) rfl hu2 mC_18 mL_18 rfl (Nat.le_of_ble_eq_true rfl) rfl (Nat.le_of_ble_eq_true rfl) (TfD_cacheAt _ _ hq3) rfl ?_
  refine xr_astore_n (pc' := 9) rfl rfl rfl ?_
  refine xr_aload_n (pc' := 10) rfl rfl rfl ?_
  rcases xite h with ⟨hc, h⟩ | ⟨hc, h⟩
  · refine xr_ifnonnull_n (pc' := 13) rfl hc rfl ?_
    refine xr_ldc2_w (v := -9223372036854775808) (pc' := 16) rfl (by decide) rfl ?_
    refine xr_goto (t := 23) rfl ?_
    obtain ⟨rfl, rfl⟩ := xsome2 h
    exact xr_lret rfl mR_90
  · refine xr_ifnonnull_s (t := 19) rfl hc ?_
    refine xr_aload_n (pc' := 20) rfl rfl rfl ?_
    obtain ⟨v4, hv4, h⟩ := xbind h
    refine xr_getL (pc' := 23) rfl (by decide) hv4 rfl ?_
    obtain ⟨rfl, rfl⟩ := xsome2 h
    exact xr_lret rfl mR_90
-- 92: MagazineDepot$Pile.latest()I
def fP_latest (M : xMem) (this : xId) : Option (Int32 × xMem) :=
  (xgI M (some this) 4 1).bind fun v1 =>
  if v1 ≤ 0 then (
    some ((-1 : Int32), M))
  else
  (xgR M (some this) 4 0).bind fun v2 =>
  (xgI M (some this) 4 1).bind fun v3 =>
  (xaI M v2 (v3 - (1 : Int32))).bind fun v4 =>
  some (v4, M)
set_option maxRecDepth 20000 in
theorem TfP_latest {M M' : xMem} {r : Int32} (this : xId) (h : fP_latest M this = some (r, M')) : xrun none 0 92 0 ([some (.inr (.inr (some this)))]) ([]) M (some (.inl r), M') := by
  unfold fP_latest at h
  refine xr_aload_n (pc' := 1) rfl rfl rfl ?_
  obtain ⟨v1, hv1, h⟩ := xbind h
  refine xr_getI (pc' := 4) rfl (by decide) hv1 rfl ?_
  rcases xite h with ⟨hc, h⟩ | ⟨hc, h⟩
  · refine xr_if_le_t (t := 21) rfl hc ?_
    refine xr_iconst (v := -1) (pc' := 22) rfl (by decide) rfl ?_
    obtain ⟨rfl, rfl⟩ := xsome2 h
    exact xr_iret rfl mR_92
  · refine xr_if_le_f (pc' := 7) rfl hc rfl ?_
    refine xr_aload_n (pc' := 8) rfl rfl rfl ?_
    obtain ⟨v2, hv2, h⟩ := xbind h
    refine xr_getR (pc' := 11) rfl (by decide) hv2 rfl ?_
    refine xr_aload_n (pc' := 12) rfl rfl rfl ?_
    obtain ⟨v3, hv3, h⟩ := xbind h
    refine xr_getI (pc' := 15) rfl (by decide) hv3 rfl ?_
    refine xr_iconst (v := 1) (pc' := 16) rfl (by decide) rfl ?_
    refine xr_isub (pc' := 17) rfl rfl ?_
    obtain ⟨v4, hv4, h⟩ := xbind h
    refine xr_aI (pc' := 18) rfl hv4 rfl ?_
    refine xr_goto (t := 22) rfl ?_
    obtain ⟨rfl, rfl⟩ := xsome2 h
    exact xr_iret rfl mR_92
-- 91: MagazineDepot.magazine(III)I
def fX_magazine_59  (M : xMem) (l0 : Option xId) (l3 : Int32) (s0 : Option xId) (s1 : Int32) : Option (Int32 × xMem) :=
  (xob M s0 3).bind fun u10 =>
  (fD_magazineAt M u10 s1).bind fun q11 =>
  if q11.1 = none then (
    some ((-2 : Int32), q11.2))
  else
  if (l3 - l3 / (2 : Int32) * (2 : Int32)) = 0 then (
    (xgI q11.2 q11.1 4 1).bind fun v12 =>
    some (v12, q11.2))
  else
  (xgI q11.2 q11.1 4 1).bind fun v13 =>
  if v13 = 0 then (
    some ((-2 : Int32), q11.2))
  else
  (xgR q11.2 l0 7 0).bind fun v14 =>
  (xgR q11.2 v14 3 0).bind fun v15 =>
  (xob q11.2 q11.1 4).bind fun u16 =>
  (fP_latest q11.2 u16 ).bind fun q17 =>
  (xob q17.2 v15 0).bind fun u18 =>
  (fA_addressOf q17.2 u18 q17.1).bind fun q19 =>
  some (q19.1, q19.2)
set_option maxRecDepth 20000 in
theorem TfX_magazine_59 {M' : xMem} {r : Int32}  (M : xMem) (l0 : Option xId) (l3 : Int32) (s0 : Option xId) (s1 : Int32) (o1 : Int32) (o2 : Int32) (o4 : Option xId) (o5 : Option xVal) (h : fX_magazine_59  M l0 l3 s0 s1 = some (r, M')) : xrun none 1 91 59 ([some (.inr (.inr l0)), some (.inl o1), some (.inl o2), some (.inl l3), some (.inr (.inr o4)), o5]) ([.inl s1, .inr (.inr s0)]) M (some (.inl r), M') := by
  unfold fX_magazine_59 at h
  obtain ⟨u10, hu10, h⟩ := xbind h
  obtain ⟨q11, hq11, h⟩ := xbind h
  refine xr_callV (pc' := 62) (C := 3) (As := [_]) (rest := _) rfl hu10 mC_23 mL_23 rfl (Nat.le_of_ble_eq_true rfl) rfl (Nat.le_of_ble_eq_true rfl) (TfD_magazineAt _ _ hq11) rfl ?_
  refine xr_astore (pc' := 64) rfl rfl rfl ?_
  refine xr_aload (pc' := 66) rfl rfl rfl ?_
  rcases xite h with ⟨hc, h⟩ | ⟨hc, h⟩
  · refine xr_ifnonnull_n (pc' := 69) rfl hc rfl ?_
    refine xr_bipush (v := -2) (pc' := 71) rfl (by decide) rfl ?_
    obtain ⟨rfl, rfl⟩ := xsome2 h
    exact xr_iret rfl mR_91
  · refine xr_ifnonnull_s (t := 72) rfl hc ?_
    refine xr_iload_n (pc' := 73) rfl rfl rfl ?_
    refine xr_iconst (v := 2) (pc' := 74) rfl (by decide) rfl ?_
    refine xr_irem (pc' := 75) rfl (by decide) rfl ?_
    rcases xite h with ⟨hc, h⟩ | ⟨hc, h⟩
    · refine xr_if_ne_f (pc' := 78) rfl hc rfl ?_
      refine xr_aload (pc' := 80) rfl rfl rfl ?_
      obtain ⟨v12, hv12, h⟩ := xbind h
      refine xr_getI (pc' := 83) rfl (by decide) hv12 rfl ?_
      obtain ⟨rfl, rfl⟩ := xsome2 h
      exact xr_iret rfl mR_91
    · refine xr_if_ne_t (t := 84) rfl hc ?_
      refine xr_aload (pc' := 86) rfl rfl rfl ?_
      obtain ⟨v13, hv13, h⟩ := xbind h
      refine xr_getI (pc' := 89) rfl (by decide) hv13 rfl ?_
      rcases xite h with ⟨hc, h⟩ | ⟨hc, h⟩
      · refine xr_if_ne_f (pc' := 92) rfl hc rfl ?_
        refine xr_bipush (v := -2) (pc' := 94) rfl (by decide) rfl ?_
        refine xr_goto (t := 112) rfl ?_
        obtain ⟨rfl, rfl⟩ := xsome2 h
        exact xr_iret rfl mR_91
      · refine xr_if_ne_t (t := 97) rfl hc ?_
        refine xr_aload_n (pc' := 98) rfl rfl rfl ?_
        obtain ⟨v14, hv14, h⟩ := xbind h
        refine xr_getR (pc' := 101) rfl (by decide) hv14 rfl ?_
        obtain ⟨v15, hv15, h⟩ := xbind h
        refine xr_getR (pc' := 104) rfl (by decide) hv15 rfl ?_
        refine xr_aload (pc' := 106) rfl rfl rfl ?_
        obtain ⟨u16, hu16, h⟩ := xbind h
        obtain ⟨q17, hq17, h⟩ := xbind h
        refine xr_callV (pc' := 109) (C := 4) (As := []) (rest := _) rfl hu16 mC_92 mL_92 rfl (Nat.le_of_ble_eq_true rfl) rfl (Nat.le_of_ble_eq_true rfl) (TfP_latest _  hq17) rfl ?_
        obtain ⟨u18, hu18, h⟩ := xbind h
        obtain ⟨q19, hq19, h⟩ := xbind h
        refine xr_callV (pc' := 112) (C := 0) (As := [_]) (rest := _) rfl hu18 mC_38 mL_38 rfl (Nat.le_of_ble_eq_true rfl) rfl (Nat.le_of_ble_eq_true rfl) (TfA_addressOf _ _ hq19) rfl ?_
        obtain ⟨rfl, rfl⟩ := xsome2 h
        exact xr_iret rfl mR_91
def fX_magazine (M : xMem) (this : xId) (a0 : Int32) (a1 : Int32) (a2 : Int32) : Option (Int32 × xMem) :=
  (xgR M (some this) 7 0).bind fun v1 =>
  (xob M v1 3).bind fun u2 =>
  (fD_cacheAt M u2 a0).bind fun q3 =>
  if q3.1 = none then (
    some ((-1 : Int32), q3.2))
  else
  (fX_isProcessor q3.2 a1).bind fun q4 =>
  if q4.1 = 0 then (
    some ((-1 : Int32), q4.2))
  else
  if a2 < 0 then (
    some ((-1 : Int32), q4.2))
  else
  if a2 ≤ (3 : Int32) then (
    (xgR q4.2 (some this) 7 0).bind fun v5 =>
    if (2 : Int32) ≤ a2 then (
      (xgR q4.2 q3.1 2 15).bind fun v6 =>
      (xaI q4.2 v6 a1).bind fun v7 =>
      fX_magazine_59  q4.2 (some this) a2 v5 v7)
    else
    (xgR q4.2 q3.1 2 14).bind fun v8 =>
    (xaI q4.2 v8 a1).bind fun v9 =>
    fX_magazine_59  q4.2 (some this) a2 v5 v9)
  else
  some ((-1 : Int32), q4.2)
set_option maxRecDepth 20000 in
theorem TfX_magazine {M M' : xMem} {r : Int32} (this : xId) (a0 : Int32) (a1 : Int32) (a2 : Int32) (h : fX_magazine M this a0 a1 a2 = some (r, M')) : xrun none 1 91 0 ([some (.inr (.inr (some this))), some (.inl a0), some (.inl a1), some (.inl a2), none, none]) ([]) M (some (.inl r), M') := by
  unfold fX_magazine at h
  refine xr_aload_n (pc' := 1) rfl rfl rfl ?_
  obtain ⟨v1, hv1, h⟩ := xbind h
  refine xr_getR (pc' := 4) rfl (by decide) hv1 rfl ?_
  refine xr_iload_n (pc' := 5) rfl rfl rfl ?_
  obtain ⟨u2, hu2, h⟩ := xbind h
  obtain ⟨q3, hq3, h⟩ := xbind h
  refine xr_callV (pc' := 8) (C := 3) (As := [_]) (rest := _) rfl hu2 mC_18 mL_18 rfl (Nat.le_of_ble_eq_true rfl) rfl (Nat.le_of_ble_eq_true rfl) (TfD_cacheAt _ _ hq3) rfl ?_
  refine xr_astore (pc' := 10) rfl rfl rfl ?_
  refine xr_aload (pc' := 12) rfl rfl rfl ?_
  rcases xite h with ⟨hc, h⟩ | ⟨hc, h⟩
  · refine xr_ifnull_n (t := 31) rfl hc ?_
    refine xr_iconst (v := -1) (pc' := 32) rfl (by decide) rfl ?_
    obtain ⟨rfl, rfl⟩ := xsome2 h
    exact xr_iret rfl mR_91
  · refine xr_ifnull_s (pc' := 15) rfl hc rfl ?_
    refine xr_iload_n (pc' := 16) rfl rfl rfl ?_
    obtain ⟨q4, hq4, h⟩ := xbind h
    refine xr_callS (pc' := 19) (As := [_]) (rest := _) rfl (by decide) mL_20 rfl (Nat.le_of_ble_eq_true rfl) rfl (Nat.le_of_ble_eq_true rfl) (TfX_isProcessor _ hq4) rfl ?_
    rcases xite h with ⟨hc, h⟩ | ⟨hc, h⟩
    · refine xr_if_eq_t (t := 31) rfl hc ?_
      refine xr_iconst (v := -1) (pc' := 32) rfl (by decide) rfl ?_
      obtain ⟨rfl, rfl⟩ := xsome2 h
      exact xr_iret rfl mR_91
    · refine xr_if_eq_f (pc' := 22) rfl hc rfl ?_
      refine xr_iload_n (pc' := 23) rfl rfl rfl ?_
      rcases xite h with ⟨hc, h⟩ | ⟨hc, h⟩
      · refine xr_if_lt_t (t := 31) rfl hc ?_
        refine xr_iconst (v := -1) (pc' := 32) rfl (by decide) rfl ?_
        obtain ⟨rfl, rfl⟩ := xsome2 h
        exact xr_iret rfl mR_91
      · refine xr_if_lt_f (pc' := 26) rfl hc rfl ?_
        refine xr_iload_n (pc' := 27) rfl rfl rfl ?_
        refine xr_iconst (v := 3) (pc' := 28) rfl (by decide) rfl ?_
        rcases xite h with ⟨hc, h⟩ | ⟨hc, h⟩
        · refine xr_icmp_le_t (t := 33) rfl hc ?_
          refine xr_aload_n (pc' := 34) rfl rfl rfl ?_
          obtain ⟨v5, hv5, h⟩ := xbind h
          refine xr_getR (pc' := 37) rfl (by decide) hv5 rfl ?_
          refine xr_iload_n (pc' := 38) rfl rfl rfl ?_
          refine xr_iconst (v := 2) (pc' := 39) rfl (by decide) rfl ?_
          rcases xite h with ⟨hc, h⟩ | ⟨hc, h⟩
          · refine xr_icmp_ge_t (t := 52) rfl hc ?_
            refine xr_aload (pc' := 54) rfl rfl rfl ?_
            obtain ⟨v6, hv6, h⟩ := xbind h
            refine xr_getR (pc' := 57) rfl (by decide) hv6 rfl ?_
            refine xr_iload_n (pc' := 58) rfl rfl rfl ?_
            obtain ⟨v7, hv7, h⟩ := xbind h
            refine xr_aI (pc' := 59) rfl hv7 rfl ?_
            exact TfX_magazine_59   q4.2 _ _ _ _ _ _ _ _ h
          · refine xr_icmp_ge_f (pc' := 42) rfl hc rfl ?_
            refine xr_aload (pc' := 44) rfl rfl rfl ?_
            obtain ⟨v8, hv8, h⟩ := xbind h
            refine xr_getR (pc' := 47) rfl (by decide) hv8 rfl ?_
            refine xr_iload_n (pc' := 48) rfl rfl rfl ?_
            obtain ⟨v9, hv9, h⟩ := xbind h
            refine xr_aI (pc' := 49) rfl hv9 rfl ?_
            refine xr_goto (t := 59) rfl ?_
            exact TfX_magazine_59   q4.2 _ _ _ _ _ _ _ _ h
        · refine xr_icmp_le_f (pc' := 31) rfl hc rfl ?_
          refine xr_iconst (v := -1) (pc' := 32) rfl (by decide) rfl ?_
          obtain ⟨rfl, rfl⟩ := xsome2 h
          exact xr_iret rfl mR_91
-- 94: MagazineDepot$Arena.startsOnLines(I)[I
def fA_startsOnLines_80 (k10 : xMem → Option xId → Int32 → Int32 → Option (Option xId × xMem)) (M : xMem) (l0 : Option xId) (l1 : Int32) (l2 : Int32)  : Option (Option xId × xMem) :=
  k10 M l0 l1 (l2 + 1)
set_option maxRecDepth 20000 in
theorem TfA_startsOnLines_80 {M' : xMem} {r : Option xId} (k10 : xMem → Option xId → Int32 → Int32 → Option (Option xId × xMem)) (hk10 : ∀ (M : xMem) (l0 : Option xId) (l1 : Int32) (l2 : Int32) (o3 : Option xVal), k10 M l0 l1 l2 = some (r, M') → xrun none 1 94 10 ([some (.inr (.inr l0)), some (.inl l1), some (.inl l2), o3]) ([]) M (some (.inr (.inr r)), M')) (M : xMem) (l0 : Option xId) (l1 : Int32) (l2 : Int32)  (o3 : Int32) (h : fA_startsOnLines_80 k10 M l0 l1 l2  = some (r, M')) : xrun none 1 94 80 ([some (.inr (.inr l0)), some (.inl l1), some (.inl l2), some (.inl o3)]) ([]) M (some (.inr (.inr r)), M') := by
  unfold fA_startsOnLines_80 at h
  refine xr_iinc (c := 1) (pc' := 83) rfl (by decide) rfl rfl rfl ?_
  refine xr_goto (t := 10) rfl ?_
  exact hk10 M _ _ _ _ h
def fA_startsOnLines_74 (k10 : xMem → Option xId → Int32 → Int32 → Option (Option xId × xMem)) (k18 : xMem → Option xId → Int32 → Int32 → Int32 → Option (Option xId × xMem)) (M : xMem) (l0 : Option xId) (l1 : Int32) (l2 : Int32) (l3 : Int32)  : Option (Option xId × xMem) :=
  k18 M l0 l1 l2 (l3 + 1)
set_option maxRecDepth 20000 in
theorem TfA_startsOnLines_74 {M' : xMem} {r : Option xId} (k10 : xMem → Option xId → Int32 → Int32 → Option (Option xId × xMem)) (k18 : xMem → Option xId → Int32 → Int32 → Int32 → Option (Option xId × xMem)) (hk10 : ∀ (M : xMem) (l0 : Option xId) (l1 : Int32) (l2 : Int32) (o3 : Option xVal), k10 M l0 l1 l2 = some (r, M') → xrun none 1 94 10 ([some (.inr (.inr l0)), some (.inl l1), some (.inl l2), o3]) ([]) M (some (.inr (.inr r)), M')) (hk18 : ∀ (M : xMem) (l0 : Option xId) (l1 : Int32) (l2 : Int32) (l3 : Int32) , k18 M l0 l1 l2 l3 = some (r, M') → xrun none 1 94 18 ([some (.inr (.inr l0)), some (.inl l1), some (.inl l2), some (.inl l3)]) ([]) M (some (.inr (.inr r)), M')) (M : xMem) (l0 : Option xId) (l1 : Int32) (l2 : Int32) (l3 : Int32)   (h : fA_startsOnLines_74 k10 k18 M l0 l1 l2 l3  = some (r, M')) : xrun none 1 94 74 ([some (.inr (.inr l0)), some (.inl l1), some (.inl l2), some (.inl l3)]) ([]) M (some (.inr (.inr r)), M') := by
  unfold fA_startsOnLines_74 at h
  refine xr_iinc (c := 1) (pc' := 77) rfl (by decide) rfl rfl rfl ?_
  refine xr_goto (t := 18) rfl ?_
  exact hk18 M _ _ _ _  h
def fA_startsOnLines_18 (k10 : xMem → Option xId → Int32 → Int32 → Option (Option xId × xMem)) : Nat → xMem → Option xId → Int32 → Int32 → Int32 → Option (Option xId × xMem)
  | 0, _, _, _, _, _ => none
  | n + 1, M, l0, l1, l2, l3 =>
    if (62 : Int32) ≤ l3 then (
      fA_startsOnLines_80 k10 M l0 l1 l2 )
    else
    (xgR M l0 0 0).bind fun v4 =>
    (xaI M v4 l2).bind fun v5 =>
    if v5 = l1 then (
      (xgR M l0 0 5).bind fun v6 =>
      (xaL M v6 l2).bind fun v7 =>
      if (lg_cmp (v7 &&& ((1 : Int64) <<< (Int32.toInt64 l3 &&& 63))) (0 : Int64)) = 0 then (
        fA_startsOnLines_74 k10 (fun M l0 l1 l2 l3 => fA_startsOnLines_18 k10 n M l0 l1 l2 l3) M l0 l1 l2 l3 )
      else
      (xgR M l0 0 7).bind fun v8 =>
      (xob M l0 0).bind fun u9 =>
      (fA_addressOf M u9 ((l2 * (62 : Int32)) + l3)).bind fun q10 =>
      (xaI q10.2 v8 ((q10.1 / (32 : Int32)) - (q10.1 / (32 : Int32)) / (16 : Int32) * (16 : Int32))).bind fun v11 =>
      (xuI q10.2 v8 ((q10.1 / (32 : Int32)) - (q10.1 / (32 : Int32)) / (16 : Int32) * (16 : Int32)) (v11 + (1 : Int32))).bind fun M12 =>
      fA_startsOnLines_74 k10 (fun M l0 l1 l2 l3 => fA_startsOnLines_18 k10 n M l0 l1 l2 l3) M12 l0 l1 l2 l3 )
    else
    fA_startsOnLines_80 k10 M l0 l1 l2 
set_option maxRecDepth 20000 in
theorem TfA_startsOnLines_18 {M' : xMem} {r : Option xId} (k10 : xMem → Option xId → Int32 → Int32 → Option (Option xId × xMem)) (hk10 : ∀ (M : xMem) (l0 : Option xId) (l1 : Int32) (l2 : Int32) (o3 : Option xVal), k10 M l0 l1 l2 = some (r, M') → xrun none 1 94 10 ([some (.inr (.inr l0)), some (.inl l1), some (.inl l2), o3]) ([]) M (some (.inr (.inr r)), M')) : ∀ (n : Nat) (M : xMem) (l0 : Option xId) (l1 : Int32) (l2 : Int32) (l3 : Int32) , fA_startsOnLines_18 k10 n M l0 l1 l2 l3 = some (r, M') → xrun none 1 94 18 ([some (.inr (.inr l0)), some (.inl l1), some (.inl l2), some (.inl l3)]) ([]) M (some (.inr (.inr r)), M') := by
  intro n
  induction n with
  | zero => intro M l0 l1 l2 l3  h; unfold fA_startsOnLines_18 at h; cases h
  | succ n ih =>
    intro M l0 l1 l2 l3  h
    unfold fA_startsOnLines_18 at h
    refine xr_iload_n (pc' := 19) rfl rfl rfl ?_
    refine xr_bipush (v := 62) (pc' := 21) rfl (by decide) rfl ?_
    rcases xite h with ⟨hc, h⟩ | ⟨hc, h⟩
    · refine xr_icmp_ge_t (t := 80) rfl hc ?_
      exact TfA_startsOnLines_80 _ hk10 M _ _ _  _ h
    · refine xr_icmp_ge_f (pc' := 24) rfl hc rfl ?_
      refine xr_aload_n (pc' := 25) rfl rfl rfl ?_
      obtain ⟨v4, hv4, h⟩ := xbind h
      refine xr_getR (pc' := 28) rfl (by decide) hv4 rfl ?_
      refine xr_iload_n (pc' := 29) rfl rfl rfl ?_
      obtain ⟨v5, hv5, h⟩ := xbind h
      refine xr_aI (pc' := 30) rfl hv5 rfl ?_
      refine xr_iload_n (pc' := 31) rfl rfl rfl ?_
      rcases xite h with ⟨hc, h⟩ | ⟨hc, h⟩
      · refine xr_icmp_ne_f (pc' := 34) rfl hc rfl ?_
        refine xr_aload_n (pc' := 35) rfl rfl rfl ?_
        obtain ⟨v6, hv6, h⟩ := xbind h
        refine xr_getR (pc' := 38) rfl (by decide) hv6 rfl ?_
        refine xr_iload_n (pc' := 39) rfl rfl rfl ?_
        obtain ⟨v7, hv7, h⟩ := xbind h
        refine xr_aL (pc' := 40) rfl hv7 rfl ?_
        refine xr_lconst (v := 1) (pc' := 41) rfl (by decide) rfl ?_
        refine xr_iload_n (pc' := 42) rfl rfl rfl ?_
        refine xr_lshl (pc' := 43) rfl rfl ?_
        refine xr_land (pc' := 44) rfl rfl ?_
        refine xr_lconst (v := 0) (pc' := 45) rfl (by decide) rfl ?_
        refine xr_lcmp (pc' := 46) rfl rfl ?_
        rcases xite h with ⟨hc, h⟩ | ⟨hc, h⟩
        · refine xr_if_eq_t (t := 74) rfl hc ?_
          exact TfA_startsOnLines_74 _ _ hk10 (fun M l0 l1 l2 l3  h => ih M l0 l1 l2 l3  h) M _ _ _ _   h
        · refine xr_if_eq_f (pc' := 49) rfl hc rfl ?_
          refine xr_aload_n (pc' := 50) rfl rfl rfl ?_
          obtain ⟨v8, hv8, h⟩ := xbind h
          refine xr_getR (pc' := 53) rfl (by decide) hv8 rfl ?_
          refine xr_aload_n (pc' := 54) rfl rfl rfl ?_
          refine xr_iload_n (pc' := 55) rfl rfl rfl ?_
          refine xr_bipush (v := 62) (pc' := 57) rfl (by decide) rfl ?_
          refine xr_imul (pc' := 58) rfl rfl ?_
          refine xr_iload_n (pc' := 59) rfl rfl rfl ?_
          refine xr_iadd (pc' := 60) rfl rfl ?_
          obtain ⟨u9, hu9, h⟩ := xbind h
          obtain ⟨q10, hq10, h⟩ := xbind h
          refine xr_callV (pc' := 63) (C := 0) (As := [_]) (rest := _) rfl hu9 mC_38 mL_38 rfl (Nat.le_of_ble_eq_true rfl) rfl (Nat.le_of_ble_eq_true rfl) (TfA_addressOf _ _ hq10) rfl ?_
          refine xr_bipush (v := 32) (pc' := 65) rfl (by decide) rfl ?_
          refine xr_idiv (pc' := 66) rfl (by decide) rfl ?_
          refine xr_bipush (v := 16) (pc' := 68) rfl (by decide) rfl ?_
          refine xr_irem (pc' := 69) rfl (by decide) rfl ?_
          refine xr_dup2_ia (pc' := 70) rfl rfl ?_
          obtain ⟨v11, hv11, h⟩ := xbind h
          refine xr_aI (pc' := 71) rfl hv11 rfl ?_
          refine xr_iconst (v := 1) (pc' := 72) rfl (by decide) rfl ?_
          refine xr_iadd (pc' := 73) rfl rfl ?_
          obtain ⟨M12, hM12, h⟩ := xbind h
          refine xr_uI (pc' := 74) rfl hM12 rfl ?_
          exact TfA_startsOnLines_74 _ _ hk10 (fun M l0 l1 l2 l3  h => ih M l0 l1 l2 l3  h) M12 _ _ _ _   h
      · refine xr_icmp_ne_t (t := 80) rfl hc ?_
        exact TfA_startsOnLines_80 _ hk10 M _ _ _  _ h
def fA_startsOnLines_10  : Nat → xMem → Option xId → Int32 → Int32 → Option (Option xId × xMem)
  | 0, _, _, _, _ => none
  | n + 1, M, l0, l1, l2 =>
    if (32 : Int32) ≤ l2 then (
      (xgR M l0 0 7).bind fun v3 =>
      some (v3, M))
    else
    fA_startsOnLines_18 (fun M l0 l1 l2 => fA_startsOnLines_10  n M l0 l1 l2) xF M l0 l1 l2 (0 : Int32)
set_option maxRecDepth 20000 in
theorem TfA_startsOnLines_10 {M' : xMem} {r : Option xId}  : ∀ (n : Nat) (M : xMem) (l0 : Option xId) (l1 : Int32) (l2 : Int32) (o3 : Option xVal), fA_startsOnLines_10  n M l0 l1 l2 = some (r, M') → xrun none 1 94 10 ([some (.inr (.inr l0)), some (.inl l1), some (.inl l2), o3]) ([]) M (some (.inr (.inr r)), M') := by
  intro n
  induction n with
  | zero => intro M l0 l1 l2 o3 h; unfold fA_startsOnLines_10 at h; cases h
  | succ n ih =>
    intro M l0 l1 l2 o3 h
    unfold fA_startsOnLines_10 at h
    refine xr_iload_n (pc' := 11) rfl rfl rfl ?_
    refine xr_bipush (v := 32) (pc' := 13) rfl (by decide) rfl ?_
    rcases xite h with ⟨hc, h⟩ | ⟨hc, h⟩
    · refine xr_icmp_ge_t (t := 86) rfl hc ?_
      refine xr_aload_n (pc' := 87) rfl rfl rfl ?_
      obtain ⟨v3, hv3, h⟩ := xbind h
      refine xr_getR (pc' := 90) rfl (by decide) hv3 rfl ?_
      obtain ⟨rfl, rfl⟩ := xsome2 h
      exact xr_aretA rfl mR_94
    · refine xr_icmp_ge_f (pc' := 16) rfl hc rfl ?_
      refine xr_iconst (v := 0) (pc' := 17) rfl (by decide) rfl ?_
      refine xr_istore_n (pc' := 18) rfl rfl rfl ?_
      exact TfA_startsOnLines_18 _ (fun M l0 l1 l2 o3 h => ih M l0 l1 l2 o3 h) xF M _ _ _ _  h
def fA_startsOnLines (M : xMem) (this : xId) (a0 : Int32) : Option (Option xId × xMem) :=
  (xgR M (some this) 0 7).bind fun v1 =>
  (fJ_fill M v1 (0 : Int32)).bind fun q2 =>
  fA_startsOnLines_10  xF q2 (some this) a0 (0 : Int32)
set_option maxRecDepth 20000 in
theorem TfA_startsOnLines {M M' : xMem} {r : Option xId} (this : xId) (a0 : Int32) (h : fA_startsOnLines M this a0 = some (r, M')) : xrun none 1 94 0 ([some (.inr (.inr (some this))), some (.inl a0), none, none]) ([]) M (some (.inr (.inr r)), M') := by
  unfold fA_startsOnLines at h
  refine xr_aload_n (pc' := 1) rfl rfl rfl ?_
  obtain ⟨v1, hv1, h⟩ := xbind h
  refine xr_getR (pc' := 4) rfl (by decide) hv1 rfl ?_
  refine xr_iconst (v := 0) (pc' := 5) rfl (by decide) rfl ?_
  obtain ⟨q2, hq2, h⟩ := xbind h
  refine xr_callS (pc' := 8) (As := [_, _]) (rest := _) rfl (by decide) mL_4 rfl (Nat.le_of_ble_eq_true rfl) rfl (Nat.le_of_ble_eq_true rfl) (TfJ_fill _ _ hq2) rfl ?_
  refine xr_iconst (v := 0) (pc' := 9) rfl (by decide) rfl ?_
  refine xr_istore_n (pc' := 10) rfl rfl rfl ?_
  exact TfA_startsOnLines_10   xF q2 _ _ _ _ h
-- 93: MagazineDepot.lines(II)I
def fX_lines_77 (k51 : xMem → Int32 → Int32 → Int32 → Option xId → Int32 → Int32 → Option (Int32 × xMem)) (M : xMem) (l2 : Int32) (l5 : Int32) (l6 : Option xId) (l7 : Int32) (l8 : Int32) (l9 : Int32) (s0 : Int32) (s1 : Int32) : Option (Int32 × xMem) :=
  k51 M l2 (s0 + s1) (l5 + ((l9 * (l9 - (1 : Int32))) / (2 : Int32))) l6 l7 (l8 + 1)
set_option maxRecDepth 20000 in
theorem TfX_lines_77 {M' : xMem} {r : Int32} (k51 : xMem → Int32 → Int32 → Int32 → Option xId → Int32 → Int32 → Option (Int32 × xMem)) (hk51 : ∀ (M : xMem) (l2 : Int32) (l4 : Int32) (l5 : Int32) (l6 : Option xId) (l7 : Int32) (l8 : Int32) (o0 : Option xId) (o1 : Int32) (o3 : Option xId) (o9 : Option xVal), k51 M l2 l4 l5 l6 l7 l8 = some (r, M') → xrun none 2 93 51 ([some (.inr (.inr o0)), some (.inl o1), some (.inl l2), some (.inr (.inr o3)), some (.inl l4), some (.inl l5), some (.inr (.inr l6)), some (.inl l7), some (.inl l8), o9]) ([]) M (some (.inl r), M')) (M : xMem) (l2 : Int32) (l5 : Int32) (l6 : Option xId) (l7 : Int32) (l8 : Int32) (l9 : Int32) (s0 : Int32) (s1 : Int32) (o0 : Option xId) (o1 : Int32) (o3 : Option xId) (o4 : Int32) (h : fX_lines_77 k51 M l2 l5 l6 l7 l8 l9 s0 s1 = some (r, M')) : xrun none 2 93 77 ([some (.inr (.inr o0)), some (.inl o1), some (.inl l2), some (.inr (.inr o3)), some (.inl o4), some (.inl l5), some (.inr (.inr l6)), some (.inl l7), some (.inl l8), some (.inl l9)]) ([.inl s1, .inl s0]) M (some (.inl r), M') := by
  unfold fX_lines_77 at h
  refine xr_iadd (pc' := 78) rfl rfl ?_
  refine xr_istore (pc' := 80) rfl rfl rfl ?_
  refine xr_iload (pc' := 82) rfl rfl rfl ?_
  refine xr_iload (pc' := 84) rfl rfl rfl ?_
  refine xr_iload (pc' := 86) rfl rfl rfl ?_
  refine xr_iconst (v := 1) (pc' := 87) rfl (by decide) rfl ?_
  refine xr_isub (pc' := 88) rfl rfl ?_
  refine xr_imul (pc' := 89) rfl rfl ?_
  refine xr_iconst (v := 2) (pc' := 90) rfl (by decide) rfl ?_
  refine xr_idiv (pc' := 91) rfl (by decide) rfl ?_
  refine xr_iadd (pc' := 92) rfl rfl ?_
  refine xr_istore (pc' := 94) rfl rfl rfl ?_
  refine xr_iinc (c := 1) (pc' := 97) rfl (by decide) rfl rfl rfl ?_
  refine xr_goto (t := 51) rfl ?_
  exact hk51 M _ _ _ _ _ _ _ _ _ _ h
def fX_lines_51  : Nat → xMem → Int32 → Int32 → Int32 → Option xId → Int32 → Int32 → Option (Int32 × xMem)
  | 0, _, _, _, _, _, _, _ => none
  | n + 1, M, l2, l4, l5, l6, l7, l8 =>
    if l7 ≤ l8 then (
      if l2 = 0 then (
        some (l4, M))
      else
      some (l5, M))
    else
    (xaI M l6 l8).bind fun v9 =>
    if v9 ≤ 0 then (
      fX_lines_77 (fun M l2 l4 l5 l6 l7 l8 => fX_lines_51  n M l2 l4 l5 l6 l7 l8) M l2 l5 l6 l7 l8 v9 l4 (0 : Int32))
    else
    fX_lines_77 (fun M l2 l4 l5 l6 l7 l8 => fX_lines_51  n M l2 l4 l5 l6 l7 l8) M l2 l5 l6 l7 l8 v9 l4 (1 : Int32)
set_option maxRecDepth 20000 in
theorem TfX_lines_51 {M' : xMem} {r : Int32}  : ∀ (n : Nat) (M : xMem) (l2 : Int32) (l4 : Int32) (l5 : Int32) (l6 : Option xId) (l7 : Int32) (l8 : Int32) (o0 : Option xId) (o1 : Int32) (o3 : Option xId) (o9 : Option xVal), fX_lines_51  n M l2 l4 l5 l6 l7 l8 = some (r, M') → xrun none 2 93 51 ([some (.inr (.inr o0)), some (.inl o1), some (.inl l2), some (.inr (.inr o3)), some (.inl l4), some (.inl l5), some (.inr (.inr l6)), some (.inl l7), some (.inl l8), o9]) ([]) M (some (.inl r), M') := by
  intro n
  induction n with
  | zero => intro M l2 l4 l5 l6 l7 l8 o0 o1 o3 o9 h; unfold fX_lines_51 at h; cases h
  | succ n ih =>
    intro M l2 l4 l5 l6 l7 l8 o0 o1 o3 o9 h
    unfold fX_lines_51 at h
    refine xr_iload (pc' := 53) rfl rfl rfl ?_
    refine xr_iload (pc' := 55) rfl rfl rfl ?_
    rcases xite h with ⟨hc, h⟩ | ⟨hc, h⟩
    · refine xr_icmp_ge_t (t := 100) rfl hc ?_
      refine xr_iload_n (pc' := 101) rfl rfl rfl ?_
      rcases xite h with ⟨hc, h⟩ | ⟨hc, h⟩
      · refine xr_if_ne_f (pc' := 104) rfl hc rfl ?_
        refine xr_iload (pc' := 106) rfl rfl rfl ?_
        refine xr_goto (t := 111) rfl ?_
        obtain ⟨rfl, rfl⟩ := xsome2 h
        exact xr_iret rfl mR_93
      · refine xr_if_ne_t (t := 109) rfl hc ?_
        refine xr_iload (pc' := 111) rfl rfl rfl ?_
        obtain ⟨rfl, rfl⟩ := xsome2 h
        exact xr_iret rfl mR_93
    · refine xr_icmp_ge_f (pc' := 58) rfl hc rfl ?_
      refine xr_aload (pc' := 60) rfl rfl rfl ?_
      refine xr_iload (pc' := 62) rfl rfl rfl ?_
      obtain ⟨v9, hv9, h⟩ := xbind h
      refine xr_aI (pc' := 63) rfl hv9 rfl ?_
      refine xr_istore (pc' := 65) rfl rfl rfl ?_
      refine xr_iload (pc' := 67) rfl rfl rfl ?_
      refine xr_iload (pc' := 69) rfl rfl rfl ?_
      rcases xite h with ⟨hc, h⟩ | ⟨hc, h⟩
      · refine xr_if_le_t (t := 76) rfl hc ?_
        refine xr_iconst (v := 0) (pc' := 77) rfl (by decide) rfl ?_
        exact TfX_lines_77 _ (fun M l2 l4 l5 l6 l7 l8 o0 o1 o3 o9 h => ih M l2 l4 l5 l6 l7 l8 o0 o1 o3 o9 h) M _ _ _ _ _ _ _ _ _ _ _ _ h
      · refine xr_if_le_f (pc' := 72) rfl hc rfl ?_
        refine xr_iconst (v := 1) (pc' := 73) rfl (by decide) rfl ?_
        refine xr_goto (t := 77) rfl ?_
        exact TfX_lines_77 _ (fun M l2 l4 l5 l6 l7 l8 o0 o1 o3 o9 h => ih M l2 l4 l5 l6 l7 l8 o0 o1 o3 o9 h) M _ _ _ _ _ _ _ _ _ _ _ _ h
def fX_lines (M : xMem) (this : xId) (a0 : Int32) (a1 : Int32) : Option (Int32 × xMem) :=
  (xgR M (some this) 7 0).bind fun v1 =>
  (xob M v1 3).bind fun u2 =>
  (fD_cacheAt M u2 a0).bind fun q3 =>
  if q3.1 = none then (
    some ((-1 : Int32), q3.2))
  else
  if a1 < 0 then (
    some ((-1 : Int32), q3.2))
  else
  if a1 ≤ (1 : Int32) then (
    (xgR q3.2 (some this) 7 0).bind fun v4 =>
    (xgR q3.2 v4 3 0).bind fun v5 =>
    (xob q3.2 v5 0).bind fun u6 =>
    (fA_startsOnLines q3.2 u6 a0).bind fun q7 =>
    (xal q7.2 q7.1).bind fun v8 =>
    fX_lines_51  xF q7.2 a1 (0 : Int32) (0 : Int32) q7.1 v8 (0 : Int32))
  else
  some ((-1 : Int32), q3.2)
set_option maxRecDepth 20000 in
theorem TfX_lines {M M' : xMem} {r : Int32} (this : xId) (a0 : Int32) (a1 : Int32) (h : fX_lines M this a0 a1 = some (r, M')) : xrun none 2 93 0 ([some (.inr (.inr (some this))), some (.inl a0), some (.inl a1), none, none, none, none, none, none, none]) ([]) M (some (.inl r), M') := by
  unfold fX_lines at h
  refine xr_aload_n (pc' := 1) rfl rfl rfl ?_
  obtain ⟨v1, hv1, h⟩ := xbind h
  refine xr_getR (pc' := 4) rfl (by decide) hv1 rfl ?_
  refine xr_iload_n (pc' := 5) rfl rfl rfl ?_
  obtain ⟨u2, hu2, h⟩ := xbind h
  obtain ⟨q3, hq3, h⟩ := xbind h
  refine xr_callV (pc' := 8) (C := 3) (As := [_]) (rest := _) rfl hu2 mC_18 mL_18 rfl (Nat.le_of_ble_eq_true rfl) rfl (Nat.le_of_ble_eq_true rfl) (TfD_cacheAt _ _ hq3) rfl ?_
  rcases xite h with ⟨hc, h⟩ | ⟨hc, h⟩
  · refine xr_ifnull_n (t := 20) rfl hc ?_
    refine xr_iconst (v := -1) (pc' := 21) rfl (by decide) rfl ?_
    obtain ⟨rfl, rfl⟩ := xsome2 h
    exact xr_iret rfl mR_93
  · refine xr_ifnull_s (pc' := 11) rfl hc rfl ?_
    refine xr_iload_n (pc' := 12) rfl rfl rfl ?_
    rcases xite h with ⟨hc, h⟩ | ⟨hc, h⟩
    · refine xr_if_lt_t (t := 20) rfl hc ?_
      refine xr_iconst (v := -1) (pc' := 21) rfl (by decide) rfl ?_
      obtain ⟨rfl, rfl⟩ := xsome2 h
      exact xr_iret rfl mR_93
    · refine xr_if_lt_f (pc' := 15) rfl hc rfl ?_
      refine xr_iload_n (pc' := 16) rfl rfl rfl ?_
      refine xr_iconst (v := 1) (pc' := 17) rfl (by decide) rfl ?_
      rcases xite h with ⟨hc, h⟩ | ⟨hc, h⟩
      · refine xr_icmp_le_t (t := 22) rfl hc ?_
        refine xr_aload_n (pc' := 23) rfl rfl rfl ?_
        obtain ⟨v4, hv4, h⟩ := xbind h
        refine xr_getR (pc' := 26) rfl (by decide) hv4 rfl ?_
        obtain ⟨v5, hv5, h⟩ := xbind h
        refine xr_getR (pc' := 29) rfl (by decide) hv5 rfl ?_
        refine xr_iload_n (pc' := 30) rfl rfl rfl ?_
        obtain ⟨u6, hu6, h⟩ := xbind h
        obtain ⟨q7, hq7, h⟩ := xbind h
        refine xr_callV (pc' := 33) (C := 0) (As := [_]) (rest := _) rfl hu6 mC_94 mL_94 rfl (Nat.le_of_ble_eq_true rfl) rfl (Nat.le_of_ble_eq_true rfl) (TfA_startsOnLines _ _ hq7) rfl ?_
        refine xr_astore_n (pc' := 34) rfl rfl rfl ?_
        refine xr_iconst (v := 0) (pc' := 35) rfl (by decide) rfl ?_
        refine xr_istore (pc' := 37) rfl rfl rfl ?_
        refine xr_iconst (v := 0) (pc' := 38) rfl (by decide) rfl ?_
        refine xr_istore (pc' := 40) rfl rfl rfl ?_
        refine xr_aload_n (pc' := 41) rfl rfl rfl ?_
        refine xr_astore (pc' := 43) rfl rfl rfl ?_
        refine xr_aload (pc' := 45) rfl rfl rfl ?_
        obtain ⟨v8, hv8, h⟩ := xbind h
        refine xr_alen (pc' := 46) rfl hv8 rfl ?_
        refine xr_istore (pc' := 48) rfl rfl rfl ?_
        refine xr_iconst (v := 0) (pc' := 49) rfl (by decide) rfl ?_
        refine xr_istore (pc' := 51) rfl rfl rfl ?_
        exact TfX_lines_51   xF q7.2 _ _ _ _ _ _ _ _ _ _ h
      · refine xr_icmp_le_f (pc' := 20) rfl hc rfl ?_
        refine xr_iconst (v := -1) (pc' := 21) rfl (by decide) rfl ?_
        obtain ⟨rfl, rfl⟩ := xsome2 h
        exact xr_iret rfl mR_93
-- 96: MagazineDepot.isForTakes(III)Z
def fX_isForTakes (M : xMem) (this : xId) (a0 : Int32) (a1 : Int32) (a2 : Int32) : Option (Int32 × xMem) :=
  (xgR M (some this) 7 0).bind fun v1 =>
  (xob M v1 3).bind fun u2 =>
  (fD_cacheAt M u2 a0).bind fun q3 =>
  if q3.1 = none then (
    some ((0 : Int32), q3.2))
  else
  (fX_isProcessor q3.2 a1).bind fun q4 =>
  if q4.1 = 0 then (
    some ((0 : Int32), q4.2))
  else
  if a2 < (1 : Int32) then (
    some ((0 : Int32), q4.2))
  else
  if (40 : Int32) < a2 then (
    some ((0 : Int32), q4.2))
  else
  some ((1 : Int32), q4.2)
set_option maxRecDepth 20000 in
theorem TfX_isForTakes {M M' : xMem} {r : Int32} (this : xId) (a0 : Int32) (a1 : Int32) (a2 : Int32) (h : fX_isForTakes M this a0 a1 a2 = some (r, M')) : xrun none 1 96 0 ([some (.inr (.inr (some this))), some (.inl a0), some (.inl a1), some (.inl a2)]) ([]) M (some (.inl r), M') := by
  unfold fX_isForTakes at h
  refine xr_aload_n (pc' := 1) rfl rfl rfl ?_
  obtain ⟨v1, hv1, h⟩ := xbind h
  refine xr_getR (pc' := 4) rfl (by decide) hv1 rfl ?_
  refine xr_iload_n (pc' := 5) rfl rfl rfl ?_
  obtain ⟨u2, hu2, h⟩ := xbind h
  obtain ⟨q3, hq3, h⟩ := xbind h
  refine xr_callV (pc' := 8) (C := 3) (As := [_]) (rest := _) rfl hu2 mC_18 mL_18 rfl (Nat.le_of_ble_eq_true rfl) rfl (Nat.le_of_ble_eq_true rfl) (TfD_cacheAt _ _ hq3) rfl ?_
  rcases xite h with ⟨hc, h⟩ | ⟨hc, h⟩
  · refine xr_ifnull_n (t := 33) rfl hc ?_
    refine xr_iconst (v := 0) (pc' := 34) rfl (by decide) rfl ?_
    obtain ⟨rfl, rfl⟩ := xsome2 h
    exact xr_zret rfl mR_96 (by decide)
  · refine xr_ifnull_s (pc' := 11) rfl hc rfl ?_
    refine xr_iload_n (pc' := 12) rfl rfl rfl ?_
    obtain ⟨q4, hq4, h⟩ := xbind h
    refine xr_callS (pc' := 15) (As := [_]) (rest := _) rfl (by decide) mL_20 rfl (Nat.le_of_ble_eq_true rfl) rfl (Nat.le_of_ble_eq_true rfl) (TfX_isProcessor _ hq4) rfl ?_
    rcases xite h with ⟨hc, h⟩ | ⟨hc, h⟩
    · refine xr_if_eq_t (t := 33) rfl hc ?_
      refine xr_iconst (v := 0) (pc' := 34) rfl (by decide) rfl ?_
      obtain ⟨rfl, rfl⟩ := xsome2 h
      exact xr_zret rfl mR_96 (by decide)
    · refine xr_if_eq_f (pc' := 18) rfl hc rfl ?_
      refine xr_iload_n (pc' := 19) rfl rfl rfl ?_
      refine xr_iconst (v := 1) (pc' := 20) rfl (by decide) rfl ?_
      rcases xite h with ⟨hc, h⟩ | ⟨hc, h⟩
      · refine xr_icmp_lt_t (t := 33) rfl hc ?_
        refine xr_iconst (v := 0) (pc' := 34) rfl (by decide) rfl ?_
        obtain ⟨rfl, rfl⟩ := xsome2 h
        exact xr_zret rfl mR_96 (by decide)
      · refine xr_icmp_lt_f (pc' := 23) rfl hc rfl ?_
        refine xr_iload_n (pc' := 24) rfl rfl rfl ?_
        refine xr_bipush (v := 40) (pc' := 26) rfl (by decide) rfl ?_
        rcases xite h with ⟨hc, h⟩ | ⟨hc, h⟩
        · refine xr_icmp_gt_t (t := 33) rfl hc ?_
          refine xr_iconst (v := 0) (pc' := 34) rfl (by decide) rfl ?_
          obtain ⟨rfl, rfl⟩ := xsome2 h
          exact xr_zret rfl mR_96 (by decide)
        · refine xr_icmp_gt_f (pc' := 29) rfl hc rfl ?_
          refine xr_iconst (v := 1) (pc' := 30) rfl (by decide) rfl ?_
          refine xr_goto (t := 34) rfl ?_
          obtain ⟨rfl, rfl⟩ := xsome2 h
          exact xr_zret rfl mR_96 (by decide)
-- 98: MagazineDepot$Arena.copyFrom(LMagazineDepot$Arena;)V
def fA_copyFrom (M : xMem) (this : xId) (a0 : Option xId) : Option xMem :=
  (xgR M a0 0 0).bind fun v1 =>
  (xgR M (some this) 0 0).bind fun v2 =>
  (xcpy M (32 : Int32) (0 : Int32) (0 : Int32) v2 v1).bind fun M3 =>
  (xgR M3 a0 0 1).bind fun v4 =>
  (xgR M3 (some this) 0 1).bind fun v5 =>
  (xcpy M3 (32 : Int32) (0 : Int32) (0 : Int32) v5 v4).bind fun M6 =>
  (xgR M6 a0 0 2).bind fun v7 =>
  (xgR M6 (some this) 0 2).bind fun v8 =>
  (xcpy M6 (32 : Int32) (0 : Int32) (0 : Int32) v8 v7).bind fun M9 =>
  (xgR M9 a0 0 3).bind fun v10 =>
  (xgR M9 (some this) 0 3).bind fun v11 =>
  (xcpy M9 (32 : Int32) (0 : Int32) (0 : Int32) v11 v10).bind fun M12 =>
  (xgR M12 a0 0 4).bind fun v13 =>
  (xgR M12 (some this) 0 4).bind fun v14 =>
  (xcpy M12 (32 : Int32) (0 : Int32) (0 : Int32) v14 v13).bind fun M15 =>
  (xgR M15 a0 0 5).bind fun v16 =>
  (xgR M15 (some this) 0 5).bind fun v17 =>
  (xcpy M15 (32 : Int32) (0 : Int32) (0 : Int32) v17 v16).bind fun M18 =>
  (xgR M18 a0 0 6).bind fun v19 =>
  (xgR M18 (some this) 0 6).bind fun v20 =>
  (xcpy M18 (1984 : Int32) (0 : Int32) (0 : Int32) v20 v19).bind fun M21 =>
  some M21
set_option maxRecDepth 20000 in
theorem TfA_copyFrom {M M' : xMem} (this : xId) (a0 : Option xId) (h : fA_copyFrom M this a0 = some M') : xrun none 1 98 0 ([some (.inr (.inr (some this))), some (.inr (.inr a0))]) ([]) M (none, M') := by
  unfold fA_copyFrom at h
  refine xr_aload_n (pc' := 1) rfl rfl rfl ?_
  obtain ⟨v1, hv1, h⟩ := xbind h
  refine xr_getR (pc' := 4) rfl (by decide) hv1 rfl ?_
  refine xr_iconst (v := 0) (pc' := 5) rfl (by decide) rfl ?_
  refine xr_aload_n (pc' := 6) rfl rfl rfl ?_
  obtain ⟨v2, hv2, h⟩ := xbind h
  refine xr_getR (pc' := 9) rfl (by decide) hv2 rfl ?_
  refine xr_iconst (v := 0) (pc' := 10) rfl (by decide) rfl ?_
  refine xr_bipush (v := 32) (pc' := 12) rfl (by decide) rfl ?_
  obtain ⟨M3, hM3, h⟩ := xbind h
  refine xr_copy (pc' := 15) rfl hM3 (Nat.le_of_ble_eq_true rfl) (Nat.le_of_ble_eq_true rfl) rfl ?_
  refine xr_aload_n (pc' := 16) rfl rfl rfl ?_
  obtain ⟨v4, hv4, h⟩ := xbind h
  refine xr_getR (pc' := 19) rfl (by decide) hv4 rfl ?_
  refine xr_iconst (v := 0) (pc' := 20) rfl (by decide) rfl ?_
  refine xr_aload_n (pc' := 21) rfl rfl rfl ?_
  obtain ⟨v5, hv5, h⟩ := xbind h
  refine xr_getR (pc' := 24) rfl (by decide) hv5 rfl ?_
  refine xr_iconst (v := 0) (pc' := 25) rfl (by decide) rfl ?_
  refine xr_bipush (v := 32) (pc' := 27) rfl (by decide) rfl ?_
  obtain ⟨M6, hM6, h⟩ := xbind h
  refine xr_copy (pc' := 30) rfl hM6 (Nat.le_of_ble_eq_true rfl) (Nat.le_of_ble_eq_true rfl) rfl ?_
  refine xr_aload_n (pc' := 31) rfl rfl rfl ?_
  obtain ⟨v7, hv7, h⟩ := xbind h
  refine xr_getR (pc' := 34) rfl (by decide) hv7 rfl ?_
  refine xr_iconst (v := 0) (pc' := 35) rfl (by decide) rfl ?_
  refine xr_aload_n (pc' := 36) rfl rfl rfl ?_
  obtain ⟨v8, hv8, h⟩ := xbind h
  refine xr_getR (pc' := 39) rfl (by decide) hv8 rfl ?_
  refine xr_iconst (v := 0) (pc' := 40) rfl (by decide) rfl ?_
  refine xr_bipush (v := 32) (pc' := 42) rfl (by decide) rfl ?_
  obtain ⟨M9, hM9, h⟩ := xbind h
  refine xr_copy (pc' := 45) rfl hM9 (Nat.le_of_ble_eq_true rfl) (Nat.le_of_ble_eq_true rfl) rfl ?_
  refine xr_aload_n (pc' := 46) rfl rfl rfl ?_
  obtain ⟨v10, hv10, h⟩ := xbind h
  refine xr_getR (pc' := 49) rfl (by decide) hv10 rfl ?_
  refine xr_iconst (v := 0) (pc' := 50) rfl (by decide) rfl ?_
  refine xr_aload_n (pc' := 51) rfl rfl rfl ?_
  obtain ⟨v11, hv11, h⟩ := xbind h
  refine xr_getR (pc' := 54) rfl (by decide) hv11 rfl ?_
  refine xr_iconst (v := 0) (pc' := 55) rfl (by decide) rfl ?_
  refine xr_bipush (v := 32) (pc' := 57) rfl (by decide) rfl ?_
  obtain ⟨M12, hM12, h⟩ := xbind h
  refine xr_copy (pc' := 60) rfl hM12 (Nat.le_of_ble_eq_true rfl) (Nat.le_of_ble_eq_true rfl) rfl ?_
  refine xr_aload_n (pc' := 61) rfl rfl rfl ?_
  obtain ⟨v13, hv13, h⟩ := xbind h
  refine xr_getR (pc' := 64) rfl (by decide) hv13 rfl ?_
  refine xr_iconst (v := 0) (pc' := 65) rfl (by decide) rfl ?_
  refine xr_aload_n (pc' := 66) rfl rfl rfl ?_
  obtain ⟨v14, hv14, h⟩ := xbind h
  refine xr_getR (pc' := 69) rfl (by decide) hv14 rfl ?_
  refine xr_iconst (v := 0) (pc' := 70) rfl (by decide) rfl ?_
  refine xr_bipush (v := 32) (pc' := 72) rfl (by decide) rfl ?_
  obtain ⟨M15, hM15, h⟩ := xbind h
  refine xr_copy (pc' := 75) rfl hM15 (Nat.le_of_ble_eq_true rfl) (Nat.le_of_ble_eq_true rfl) rfl ?_
  refine xr_aload_n (pc' := 76) rfl rfl rfl ?_
  obtain ⟨v16, hv16, h⟩ := xbind h
  refine xr_getR (pc' := 79) rfl (by decide) hv16 rfl ?_
  refine xr_iconst (v := 0) (pc' := 80) rfl (by decide) rfl ?_
  refine xr_aload_n (pc' := 81) rfl rfl rfl ?_
  obtain ⟨v17, hv17, h⟩ := xbind h
  refine xr_getR (pc' := 84) rfl (by decide) hv17 rfl ?_
  refine xr_iconst (v := 0) (pc' := 85) rfl (by decide) rfl ?_
  refine xr_bipush (v := 32) (pc' := 87) rfl (by decide) rfl ?_
  obtain ⟨M18, hM18, h⟩ := xbind h
  refine xr_copy (pc' := 90) rfl hM18 (Nat.le_of_ble_eq_true rfl) (Nat.le_of_ble_eq_true rfl) rfl ?_
  refine xr_aload_n (pc' := 91) rfl rfl rfl ?_
  obtain ⟨v19, hv19, h⟩ := xbind h
  refine xr_getR (pc' := 94) rfl (by decide) hv19 rfl ?_
  refine xr_iconst (v := 0) (pc' := 95) rfl (by decide) rfl ?_
  refine xr_aload_n (pc' := 96) rfl rfl rfl ?_
  obtain ⟨v20, hv20, h⟩ := xbind h
  refine xr_getR (pc' := 99) rfl (by decide) hv20 rfl ?_
  refine xr_iconst (v := 0) (pc' := 100) rfl (by decide) rfl ?_
  refine xr_sipush (v := 1984) (pc' := 103) rfl (by decide) rfl ?_
  obtain ⟨M21, hM21, h⟩ := xbind h
  refine xr_copy (pc' := 106) rfl hM21 (Nat.le_of_ble_eq_true rfl) (Nat.le_of_ble_eq_true rfl) rfl ?_
  obtain rfl := xsome1 h
  exact xr_ret rfl mR_98
-- 100: MagazineDepot$Pile.copyFrom(LMagazineDepot$Pile;)V
def fP_copyFrom (M : xMem) (this : xId) (a0 : Option xId) : Option xMem :=
  (xgI M a0 4 1).bind fun v1 =>
  (xgR M (some this) 4 0).bind fun v2 =>
  (xal M v2).bind fun v3 =>
  (xgR M a0 4 0).bind fun v4 =>
  (xgR M (some this) 4 0).bind fun v5 =>
  (xcpy M (if v3 < v1 then v3 else v1) (0 : Int32) (0 : Int32) v5 v4).bind fun M6 =>
  (xpI M6 (some this) 4 1 (if v3 < v1 then v3 else v1)).bind fun M7 =>
  some M7
set_option maxRecDepth 20000 in
theorem TfP_copyFrom {M M' : xMem} (this : xId) (a0 : Option xId) (h : fP_copyFrom M this a0 = some M') : xrun none 1 100 0 ([some (.inr (.inr (some this))), some (.inr (.inr a0)), none]) ([]) M (none, M') := by
  unfold fP_copyFrom at h
  refine xr_aload_n (pc' := 1) rfl rfl rfl ?_
  obtain ⟨v1, hv1, h⟩ := xbind h
  refine xr_getI (pc' := 4) rfl (by decide) hv1 rfl ?_
  refine xr_aload_n (pc' := 5) rfl rfl rfl ?_
  obtain ⟨v2, hv2, h⟩ := xbind h
  refine xr_getR (pc' := 8) rfl (by decide) hv2 rfl ?_
  obtain ⟨v3, hv3, h⟩ := xbind h
  refine xr_alen (pc' := 9) rfl hv3 rfl ?_
  refine xr_min (pc' := 12) rfl (Nat.le_of_ble_eq_true rfl) (Nat.le_of_ble_eq_true rfl) rfl ?_
  refine xr_istore_n (pc' := 13) rfl rfl rfl ?_
  refine xr_aload_n (pc' := 14) rfl rfl rfl ?_
  obtain ⟨v4, hv4, h⟩ := xbind h
  refine xr_getR (pc' := 17) rfl (by decide) hv4 rfl ?_
  refine xr_iconst (v := 0) (pc' := 18) rfl (by decide) rfl ?_
  refine xr_aload_n (pc' := 19) rfl rfl rfl ?_
  obtain ⟨v5, hv5, h⟩ := xbind h
  refine xr_getR (pc' := 22) rfl (by decide) hv5 rfl ?_
  refine xr_iconst (v := 0) (pc' := 23) rfl (by decide) rfl ?_
  refine xr_iload_n (pc' := 24) rfl rfl rfl ?_
  obtain ⟨M6, hM6, h⟩ := xbind h
  refine xr_copy (pc' := 27) rfl hM6 (Nat.le_of_ble_eq_true rfl) (Nat.le_of_ble_eq_true rfl) rfl ?_
  refine xr_aload_n (pc' := 28) rfl rfl rfl ?_
  refine xr_iload_n (pc' := 29) rfl rfl rfl ?_
  obtain ⟨M7, hM7, h⟩ := xbind h
  refine xr_putI (pc' := 32) rfl (by decide) hM7 rfl ?_
  obtain rfl := xsome1 h
  exact xr_ret rfl mR_100
-- 99: MagazineDepot$Cache.copyFrom(LMagazineDepot$Cache;)V
def fC_copyFrom (M : xMem) (this : xId) (a0 : Option xId) : Option xMem :=
  (xgI M a0 2 0).bind fun v1 =>
  (xpI M (some this) 2 0 v1).bind fun M2 =>
  (xgI M2 a0 2 1).bind fun v3 =>
  (xpI M2 (some this) 2 1 v3).bind fun M4 =>
  (xgI M4 a0 2 2).bind fun v5 =>
  (xpI M4 (some this) 2 2 v5).bind fun M6 =>
  (xgI M6 a0 2 3).bind fun v7 =>
  (xpI M6 (some this) 2 3 v7).bind fun M8 =>
  (xgI M8 a0 2 4).bind fun v9 =>
  (xpI M8 (some this) 2 4 v9).bind fun M10 =>
  (xgI M10 a0 2 5).bind fun v11 =>
  (xpI M10 (some this) 2 5 v11).bind fun M12 =>
  (xgI M12 a0 2 6).bind fun v13 =>
  (xpI M12 (some this) 2 6 v13).bind fun M14 =>
  (xgI M14 a0 2 7).bind fun v15 =>
  (xpI M14 (some this) 2 7 v15).bind fun M16 =>
  (xgI M16 a0 2 8).bind fun v17 =>
  (xpI M16 (some this) 2 8 v17).bind fun M18 =>
  (xgI M18 a0 2 9).bind fun v19 =>
  (xpI M18 (some this) 2 9 v19).bind fun M20 =>
  (xgI M20 a0 2 10).bind fun v21 =>
  (xpI M20 (some this) 2 10 v21).bind fun M22 =>
  (xgI M22 a0 2 11).bind fun v23 =>
  (xpI M22 (some this) 2 11 v23).bind fun M24 =>
  (xgI M24 a0 2 12).bind fun v25 =>
  (xpI M24 (some this) 2 12 v25).bind fun M26 =>
  (xgL M26 a0 2 13).bind fun v27 =>
  (xpL M26 (some this) 2 13 v27).bind fun M28 =>
  (xgR M28 (some this) 2 16).bind fun v29 =>
  (xgR M28 a0 2 16).bind fun v30 =>
  (xob M28 v29 4).bind fun u31 =>
  (fP_copyFrom M28 u31 v30).bind fun q32 =>
  (xgR q32 (some this) 2 17).bind fun v33 =>
  (xgR q32 a0 2 17).bind fun v34 =>
  (xob q32 v33 4).bind fun u35 =>
  (fP_copyFrom q32 u35 v34).bind fun q36 =>
  (xgR q36 a0 2 14).bind fun v37 =>
  (xgR q36 (some this) 2 14).bind fun v38 =>
  (xcpy q36 (4 : Int32) (0 : Int32) (0 : Int32) v38 v37).bind fun M39 =>
  (xgR M39 a0 2 15).bind fun v40 =>
  (xgR M39 (some this) 2 15).bind fun v41 =>
  (xcpy M39 (4 : Int32) (0 : Int32) (0 : Int32) v41 v40).bind fun M42 =>
  some M42
set_option maxRecDepth 20000 in
theorem TfC_copyFrom {M M' : xMem} (this : xId) (a0 : Option xId) (h : fC_copyFrom M this a0 = some M') : xrun none 2 99 0 ([some (.inr (.inr (some this))), some (.inr (.inr a0))]) ([]) M (none, M') := by
  unfold fC_copyFrom at h
  refine xr_aload_n (pc' := 1) rfl rfl rfl ?_
  refine xr_aload_n (pc' := 2) rfl rfl rfl ?_
  obtain ⟨v1, hv1, h⟩ := xbind h
  refine xr_getI (pc' := 5) rfl (by decide) hv1 rfl ?_
  obtain ⟨M2, hM2, h⟩ := xbind h
  refine xr_putI (pc' := 8) rfl (by decide) hM2 rfl ?_
  refine xr_aload_n (pc' := 9) rfl rfl rfl ?_
  refine xr_aload_n (pc' := 10) rfl rfl rfl ?_
  obtain ⟨v3, hv3, h⟩ := xbind h
  refine xr_getI (pc' := 13) rfl (by decide) hv3 rfl ?_
  obtain ⟨M4, hM4, h⟩ := xbind h
  refine xr_putI (pc' := 16) rfl (by decide) hM4 rfl ?_
  refine xr_aload_n (pc' := 17) rfl rfl rfl ?_
  refine xr_aload_n (pc' := 18) rfl rfl rfl ?_
  obtain ⟨v5, hv5, h⟩ := xbind h
  refine xr_getI (pc' := 21) rfl (by decide) hv5 rfl ?_
  obtain ⟨M6, hM6, h⟩ := xbind h
  refine xr_putI (pc' := 24) rfl (by decide) hM6 rfl ?_
  refine xr_aload_n (pc' := 25) rfl rfl rfl ?_
  refine xr_aload_n (pc' := 26) rfl rfl rfl ?_
  obtain ⟨v7, hv7, h⟩ := xbind h
  refine xr_getI (pc' := 29) rfl (by decide) hv7 rfl ?_
  obtain ⟨M8, hM8, h⟩ := xbind h
  refine xr_putI (pc' := 32) rfl (by decide) hM8 rfl ?_
  refine xr_aload_n (pc' := 33) rfl rfl rfl ?_
  refine xr_aload_n (pc' := 34) rfl rfl rfl ?_
  obtain ⟨v9, hv9, h⟩ := xbind h
  refine xr_getI (pc' := 37) rfl (by decide) hv9 rfl ?_
  obtain ⟨M10, hM10, h⟩ := xbind h
  refine xr_putI (pc' := 40) rfl (by decide) hM10 rfl ?_
  refine xr_aload_n (pc' := 41) rfl rfl rfl ?_
  refine xr_aload_n (pc' := 42) rfl rfl rfl ?_
  obtain ⟨v11, hv11, h⟩ := xbind h
  refine xr_getI (pc' := 45) rfl (by decide) hv11 rfl ?_
  obtain ⟨M12, hM12, h⟩ := xbind h
  refine xr_putI (pc' := 48) rfl (by decide) hM12 rfl ?_
  refine xr_aload_n (pc' := 49) rfl rfl rfl ?_
  refine xr_aload_n (pc' := 50) rfl rfl rfl ?_
  obtain ⟨v13, hv13, h⟩ := xbind h
  refine xr_getI (pc' := 53) rfl (by decide) hv13 rfl ?_
  obtain ⟨M14, hM14, h⟩ := xbind h
  refine xr_putI (pc' := 56) rfl (by decide) hM14 rfl ?_
  refine xr_aload_n (pc' := 57) rfl rfl rfl ?_
  refine xr_aload_n (pc' := 58) rfl rfl rfl ?_
  obtain ⟨v15, hv15, h⟩ := xbind h
  refine xr_getI (pc' := 61) rfl (by decide) hv15 rfl ?_
  obtain ⟨M16, hM16, h⟩ := xbind h
  refine xr_putI (pc' := 64) rfl (by decide) hM16 rfl ?_
  refine xr_aload_n (pc' := 65) rfl rfl rfl ?_
  refine xr_aload_n (pc' := 66) rfl rfl rfl ?_
  obtain ⟨v17, hv17, h⟩ := xbind h
  refine xr_getI (pc' := 69) rfl (by decide) hv17 rfl ?_
  obtain ⟨M18, hM18, h⟩ := xbind h
  refine xr_putI (pc' := 72) rfl (by decide) hM18 rfl ?_
  refine xr_aload_n (pc' := 73) rfl rfl rfl ?_
  refine xr_aload_n (pc' := 74) rfl rfl rfl ?_
  obtain ⟨v19, hv19, h⟩ := xbind h
  refine xr_getI (pc' := 77) rfl (by decide) hv19 rfl ?_
  obtain ⟨M20, hM20, h⟩ := xbind h
  refine xr_putI (pc' := 80) rfl (by decide) hM20 rfl ?_
  refine xr_aload_n (pc' := 81) rfl rfl rfl ?_
  refine xr_aload_n (pc' := 82) rfl rfl rfl ?_
  obtain ⟨v21, hv21, h⟩ := xbind h
  refine xr_getI (pc' := 85) rfl (by decide) hv21 rfl ?_
  obtain ⟨M22, hM22, h⟩ := xbind h
  refine xr_putI (pc' := 88) rfl (by decide) hM22 rfl ?_
  refine xr_aload_n (pc' := 89) rfl rfl rfl ?_
  refine xr_aload_n (pc' := 90) rfl rfl rfl ?_
  obtain ⟨v23, hv23, h⟩ := xbind h
  refine xr_getI (pc' := 93) rfl (by decide) hv23 rfl ?_
  obtain ⟨M24, hM24, h⟩ := xbind h
  refine xr_putI (pc' := 96) rfl (by decide) hM24 rfl ?_
  refine xr_aload_n (pc' := 97) rfl rfl rfl ?_
  refine xr_aload_n (pc' := 98) rfl rfl rfl ?_
  obtain ⟨v25, hv25, h⟩ := xbind h
  refine xr_getI (pc' := 101) rfl (by decide) hv25 rfl ?_
  obtain ⟨M26, hM26, h⟩ := xbind h
  refine xr_putI (pc' := 104) rfl (by decide) hM26 rfl ?_
  refine xr_aload_n (pc' := 105) rfl rfl rfl ?_
  refine xr_aload_n (pc' := 106) rfl rfl rfl ?_
  obtain ⟨v27, hv27, h⟩ := xbind h
  refine xr_getL (pc' := 109) rfl (by decide) hv27 rfl ?_
  obtain ⟨M28, hM28, h⟩ := xbind h
  refine xr_putL (pc' := 112) rfl (by decide) hM28 rfl ?_
  refine xr_aload_n (pc' := 113) rfl rfl rfl ?_
  obtain ⟨v29, hv29, h⟩ := xbind h
  refine xr_getR (pc' := 116) rfl (by decide) hv29 rfl ?_
  refine xr_aload_n (pc' := 117) rfl rfl rfl ?_
  obtain ⟨v30, hv30, h⟩ := xbind h
  refine xr_getR (pc' := 120) rfl (by decide) hv30 rfl ?_
  obtain ⟨u31, hu31, h⟩ := xbind h
  obtain ⟨q32, hq32, h⟩ := xbind h
  refine xr_callV (pc' := 123) (C := 4) (As := [_]) (rest := _) rfl hu31 mC_100 mL_100 rfl (Nat.le_of_ble_eq_true rfl) rfl (Nat.le_of_ble_eq_true rfl) (TfP_copyFrom _ _ hq32) rfl ?_
  refine xr_aload_n (pc' := 124) rfl rfl rfl ?_
  obtain ⟨v33, hv33, h⟩ := xbind h
  refine xr_getR (pc' := 127) rfl (by decide) hv33 rfl ?_
  refine xr_aload_n (pc' := 128) rfl rfl rfl ?_
  obtain ⟨v34, hv34, h⟩ := xbind h
  refine xr_getR (pc' := 131) rfl (by decide) hv34 rfl ?_
  obtain ⟨u35, hu35, h⟩ := xbind h
  obtain ⟨q36, hq36, h⟩ := xbind h
  refine xr_callV (pc' := 134) (C := 4) (As := [_]) (rest := _) rfl hu35 mC_100 mL_100 rfl (Nat.le_of_ble_eq_true rfl) rfl (Nat.le_of_ble_eq_true rfl) (TfP_copyFrom _ _ hq36) rfl ?_
  refine xr_aload_n (pc' := 135) rfl rfl rfl ?_
  obtain ⟨v37, hv37, h⟩ := xbind h
  refine xr_getR (pc' := 138) rfl (by decide) hv37 rfl ?_
  refine xr_iconst (v := 0) (pc' := 139) rfl (by decide) rfl ?_
  refine xr_aload_n (pc' := 140) rfl rfl rfl ?_
  obtain ⟨v38, hv38, h⟩ := xbind h
  refine xr_getR (pc' := 143) rfl (by decide) hv38 rfl ?_
  refine xr_iconst (v := 0) (pc' := 144) rfl (by decide) rfl ?_
  refine xr_iconst (v := 4) (pc' := 145) rfl (by decide) rfl ?_
  obtain ⟨M39, hM39, h⟩ := xbind h
  refine xr_copy (pc' := 148) rfl hM39 (Nat.le_of_ble_eq_true rfl) (Nat.le_of_ble_eq_true rfl) rfl ?_
  refine xr_aload_n (pc' := 149) rfl rfl rfl ?_
  obtain ⟨v40, hv40, h⟩ := xbind h
  refine xr_getR (pc' := 152) rfl (by decide) hv40 rfl ?_
  refine xr_iconst (v := 0) (pc' := 153) rfl (by decide) rfl ?_
  refine xr_aload_n (pc' := 154) rfl rfl rfl ?_
  obtain ⟨v41, hv41, h⟩ := xbind h
  refine xr_getR (pc' := 157) rfl (by decide) hv41 rfl ?_
  refine xr_iconst (v := 0) (pc' := 158) rfl (by decide) rfl ?_
  refine xr_iconst (v := 4) (pc' := 159) rfl (by decide) rfl ?_
  obtain ⟨M42, hM42, h⟩ := xbind h
  refine xr_copy (pc' := 162) rfl hM42 (Nat.le_of_ble_eq_true rfl) (Nat.le_of_ble_eq_true rfl) rfl ?_
  obtain rfl := xsome1 h
  exact xr_ret rfl mR_99
-- 97: MagazineDepot$Depot.copyFrom(LMagazineDepot$Depot;)V
def fD_copyFrom_41  : Nat → xMem → Option xId → Option xId → Int32 → Option xMem
  | 0, _, _, _, _ => none
  | n + 1, M, l0, l1, l2 =>
    if (24 : Int32) ≤ l2 then (
      (xgI M l1 3 4).bind fun v11 =>
      (xpI M l0 3 4 v11).bind fun M12 =>
      (xgI M12 l1 3 5).bind fun v13 =>
      (xpI M12 l0 3 5 v13).bind fun M14 =>
      (xgI M14 l1 3 6).bind fun v15 =>
      (xpI M14 l0 3 6 v15).bind fun M16 =>
      (xgI M16 l1 3 7).bind fun v17 =>
      (xpI M16 l0 3 7 v17).bind fun M18 =>
      some M18)
    else
    (xgR M l0 3 2).bind fun v19 =>
    (xaR M 24 v19 l2).bind fun v20 =>
    (xgR M l1 3 2).bind fun v21 =>
    (xaR M 24 v21 l2).bind fun v22 =>
    (xob M v20 4).bind fun u23 =>
    (fP_copyFrom M u23 v22).bind fun q24 =>
    (xgR q24 l0 3 3).bind fun v25 =>
    (xgR q24 l1 3 3).bind fun v26 =>
    (xaZ q24 v26 l2).bind fun v27 =>
    (xuZ q24 v25 l2 v27).bind fun M28 =>
    fD_copyFrom_41  n M28 l0 l1 (l2 + 1)
set_option maxRecDepth 20000 in
theorem TfD_copyFrom_41 {M' : xMem}  : ∀ (n : Nat) (M : xMem) (l0 : Option xId) (l1 : Option xId) (l2 : Int32) , fD_copyFrom_41  n M l0 l1 l2 = some M' → xrun none 3 97 41 ([some (.inr (.inr l0)), some (.inr (.inr l1)), some (.inl l2)]) ([]) M (none, M') := by
  intro n
  induction n with
  | zero => intro M l0 l1 l2  h; unfold fD_copyFrom_41 at h; cases h
  | succ n ih =>
    intro M l0 l1 l2  h
    unfold fD_copyFrom_41 at h
    refine xr_iload_n (pc' := 42) rfl rfl rfl ?_
    refine xr_bipush (v := 24) (pc' := 44) rfl (by decide) rfl ?_
    rcases xite h with ⟨hc, h⟩ | ⟨hc, h⟩
    · refine xr_icmp_ge_t (t := 80) rfl hc ?_
      refine xr_aload_n (pc' := 81) rfl rfl rfl ?_
      refine xr_aload_n (pc' := 82) rfl rfl rfl ?_
      obtain ⟨v11, hv11, h⟩ := xbind h
      refine xr_getI (pc' := 85) rfl (by decide) hv11 rfl ?_
      obtain ⟨M12, hM12, h⟩ := xbind h
      refine xr_putI (pc' := 88) rfl (by decide) hM12 rfl ?_
      refine xr_aload_n (pc' := 89) rfl rfl rfl ?_
      refine xr_aload_n (pc' := 90) rfl rfl rfl ?_
      obtain ⟨v13, hv13, h⟩ := xbind h
      refine xr_getI (pc' := 93) rfl (by decide) hv13 rfl ?_
      obtain ⟨M14, hM14, h⟩ := xbind h
      refine xr_putI (pc' := 96) rfl (by decide) hM14 rfl ?_
      refine xr_aload_n (pc' := 97) rfl rfl rfl ?_
      refine xr_aload_n (pc' := 98) rfl rfl rfl ?_
      obtain ⟨v15, hv15, h⟩ := xbind h
      refine xr_getI (pc' := 101) rfl (by decide) hv15 rfl ?_
      obtain ⟨M16, hM16, h⟩ := xbind h
      refine xr_putI (pc' := 104) rfl (by decide) hM16 rfl ?_
      refine xr_aload_n (pc' := 105) rfl rfl rfl ?_
      refine xr_aload_n (pc' := 106) rfl rfl rfl ?_
      obtain ⟨v17, hv17, h⟩ := xbind h
      refine xr_getI (pc' := 109) rfl (by decide) hv17 rfl ?_
      obtain ⟨M18, hM18, h⟩ := xbind h
      refine xr_putI (pc' := 112) rfl (by decide) hM18 rfl ?_
      obtain rfl := xsome1 h
      exact xr_ret rfl mR_97
    · refine xr_icmp_ge_f (pc' := 47) rfl hc rfl ?_
      refine xr_aload_n (pc' := 48) rfl rfl rfl ?_
      obtain ⟨v19, hv19, h⟩ := xbind h
      refine xr_getR (pc' := 51) rfl (by decide) hv19 rfl ?_
      refine xr_iload_n (pc' := 52) rfl rfl rfl ?_
      obtain ⟨v20, hv20, h⟩ := xbind h
      refine xr_aR (pc' := 53) rfl hv20 rfl ?_
      refine xr_aload_n (pc' := 54) rfl rfl rfl ?_
      obtain ⟨v21, hv21, h⟩ := xbind h
      refine xr_getR (pc' := 57) rfl (by decide) hv21 rfl ?_
      refine xr_iload_n (pc' := 58) rfl rfl rfl ?_
      obtain ⟨v22, hv22, h⟩ := xbind h
      refine xr_aR (pc' := 59) rfl hv22 rfl ?_
      obtain ⟨u23, hu23, h⟩ := xbind h
      obtain ⟨q24, hq24, h⟩ := xbind h
      refine xr_callV (pc' := 62) (C := 4) (As := [_]) (rest := _) rfl hu23 mC_100 mL_100 rfl (Nat.le_of_ble_eq_true rfl) rfl (Nat.le_of_ble_eq_true rfl) (TfP_copyFrom _ _ hq24) rfl ?_
      refine xr_aload_n (pc' := 63) rfl rfl rfl ?_
      obtain ⟨v25, hv25, h⟩ := xbind h
      refine xr_getR (pc' := 66) rfl (by decide) hv25 rfl ?_
      refine xr_iload_n (pc' := 67) rfl rfl rfl ?_
      refine xr_aload_n (pc' := 68) rfl rfl rfl ?_
      obtain ⟨v26, hv26, h⟩ := xbind h
      refine xr_getR (pc' := 71) rfl (by decide) hv26 rfl ?_
      refine xr_iload_n (pc' := 72) rfl rfl rfl ?_
      obtain ⟨v27, hv27, h⟩ := xbind h
      refine xr_aZ (pc' := 73) rfl hv27 rfl ?_
      obtain ⟨M28, hM28, h⟩ := xbind h
      refine xr_uZ (pc' := 74) rfl hM28 rfl ?_
      refine xr_iinc (c := 1) (pc' := 77) rfl (by decide) rfl rfl rfl ?_
      refine xr_goto (t := 41) rfl ?_
      exact ih M28 _ _ _  h
def fD_copyFrom_13  : Nat → xMem → Option xId → Option xId → Int32 → Option xMem
  | 0, _, _, _, _ => none
  | n + 1, M, l0, l1, l2 =>
    if (4 : Int32) ≤ l2 then (
      fD_copyFrom_41  xF M l0 l1 (0 : Int32))
    else
    (xgR M l0 3 1).bind fun v5 =>
    (xaR M 23 v5 l2).bind fun v6 =>
    (xgR M l1 3 1).bind fun v7 =>
    (xaR M 23 v7 l2).bind fun v8 =>
    (xob M v6 2).bind fun u9 =>
    (fC_copyFrom M u9 v8).bind fun q10 =>
    fD_copyFrom_13  n q10 l0 l1 (l2 + 1)
set_option maxRecDepth 20000 in
theorem TfD_copyFrom_13 {M' : xMem}  : ∀ (n : Nat) (M : xMem) (l0 : Option xId) (l1 : Option xId) (l2 : Int32) , fD_copyFrom_13  n M l0 l1 l2 = some M' → xrun none 3 97 13 ([some (.inr (.inr l0)), some (.inr (.inr l1)), some (.inl l2)]) ([]) M (none, M') := by
  intro n
  induction n with
  | zero => intro M l0 l1 l2  h; unfold fD_copyFrom_13 at h; cases h
  | succ n ih =>
    intro M l0 l1 l2  h
    unfold fD_copyFrom_13 at h
    refine xr_iload_n (pc' := 14) rfl rfl rfl ?_
    refine xr_iconst (v := 4) (pc' := 15) rfl (by decide) rfl ?_
    rcases xite h with ⟨hc, h⟩ | ⟨hc, h⟩
    · refine xr_icmp_ge_t (t := 39) rfl hc ?_
      refine xr_iconst (v := 0) (pc' := 40) rfl (by decide) rfl ?_
      refine xr_istore_n (pc' := 41) rfl rfl rfl ?_
      exact TfD_copyFrom_41   xF M _ _ _  h
    · refine xr_icmp_ge_f (pc' := 18) rfl hc rfl ?_
      refine xr_aload_n (pc' := 19) rfl rfl rfl ?_
      obtain ⟨v5, hv5, h⟩ := xbind h
      refine xr_getR (pc' := 22) rfl (by decide) hv5 rfl ?_
      refine xr_iload_n (pc' := 23) rfl rfl rfl ?_
      obtain ⟨v6, hv6, h⟩ := xbind h
      refine xr_aR (pc' := 24) rfl hv6 rfl ?_
      refine xr_aload_n (pc' := 25) rfl rfl rfl ?_
      obtain ⟨v7, hv7, h⟩ := xbind h
      refine xr_getR (pc' := 28) rfl (by decide) hv7 rfl ?_
      refine xr_iload_n (pc' := 29) rfl rfl rfl ?_
      obtain ⟨v8, hv8, h⟩ := xbind h
      refine xr_aR (pc' := 30) rfl hv8 rfl ?_
      obtain ⟨u9, hu9, h⟩ := xbind h
      obtain ⟨q10, hq10, h⟩ := xbind h
      refine xr_callV (pc' := 33) (C := 2) (As := [_]) (rest := _) rfl hu9 mC_99 mL_99 rfl (Nat.le_of_ble_eq_true rfl) rfl (Nat.le_of_ble_eq_true rfl) (TfC_copyFrom _ _ hq10) rfl ?_
      refine xr_iinc (c := 1) (pc' := 36) rfl (by decide) rfl rfl rfl ?_
      refine xr_goto (t := 13) rfl ?_
      exact ih q10 _ _ _  h
def fD_copyFrom (M : xMem) (this : xId) (a0 : Option xId) : Option xMem :=
  (xgR M (some this) 3 0).bind fun v1 =>
  (xgR M a0 3 0).bind fun v2 =>
  (xob M v1 0).bind fun u3 =>
  (fA_copyFrom M u3 v2).bind fun q4 =>
  fD_copyFrom_13  xF q4 (some this) a0 (0 : Int32)
set_option maxRecDepth 20000 in
theorem TfD_copyFrom {M M' : xMem} (this : xId) (a0 : Option xId) (h : fD_copyFrom M this a0 = some M') : xrun none 3 97 0 ([some (.inr (.inr (some this))), some (.inr (.inr a0)), none]) ([]) M (none, M') := by
  unfold fD_copyFrom at h
  refine xr_aload_n (pc' := 1) rfl rfl rfl ?_
  obtain ⟨v1, hv1, h⟩ := xbind h
  refine xr_getR (pc' := 4) rfl (by decide) hv1 rfl ?_
  refine xr_aload_n (pc' := 5) rfl rfl rfl ?_
  obtain ⟨v2, hv2, h⟩ := xbind h
  refine xr_getR (pc' := 8) rfl (by decide) hv2 rfl ?_
  obtain ⟨u3, hu3, h⟩ := xbind h
  obtain ⟨q4, hq4, h⟩ := xbind h
  refine xr_callV (pc' := 11) (C := 0) (As := [_]) (rest := _) rfl hu3 mC_98 mL_98 rfl (Nat.le_of_ble_eq_true rfl) rfl (Nat.le_of_ble_eq_true rfl) (TfA_copyFrom _ _ hq4) rfl ?_
  refine xr_iconst (v := 0) (pc' := 12) rfl (by decide) rfl ?_
  refine xr_istore_n (pc' := 13) rfl rfl rfl ?_
  exact TfD_copyFrom_13   xF q4 _ _ _  h
-- 95: MagazineDepot.ahead(IIII)I
def fX_ahead_40  : Nat → xMem → Option xId → Int32 → Int32 → Int32 → Int32 → Int32 → Option (Int32 × xMem)
  | 0, _, _, _, _, _, _, _ => none
  | n + 1, M, l0, l1, l2, l4, l5, l6 =>
    if l4 < l6 then (
      if l5 = (-1 : Int32) then (
        some ((-2 : Int32), M))
      else
      (xgR M l0 7 1).bind fun v7 =>
      (xgR M v7 3 0).bind fun v8 =>
      (xob M v8 0).bind fun u9 =>
      (fA_addressOf M u9 l5).bind fun q10 =>
      some (q10.1, q10.2))
    else
    (xgR M l0 7 1).bind fun v11 =>
    (xob M v11 3).bind fun u12 =>
    (fD_takeBy M u12 l1 l2).bind fun q13 =>
    fX_ahead_40  n q13.2 l0 l1 l2 l4 q13.1 (l6 + 1)
set_option maxRecDepth 20000 in
theorem TfX_ahead_40 {M' : xMem} {r : Int32}  : ∀ (n : Nat) (M : xMem) (l0 : Option xId) (l1 : Int32) (l2 : Int32) (l4 : Int32) (l5 : Int32) (l6 : Int32) (o3 : Int32), fX_ahead_40  n M l0 l1 l2 l4 l5 l6 = some (r, M') → xrun none 4 95 40 ([some (.inr (.inr l0)), some (.inl l1), some (.inl l2), some (.inl o3), some (.inl l4), some (.inl l5), some (.inl l6)]) ([]) M (some (.inl r), M') := by
  intro n
  induction n with
  | zero => intro M l0 l1 l2 l4 l5 l6 o3 h; unfold fX_ahead_40 at h; cases h
  | succ n ih =>
    intro M l0 l1 l2 l4 l5 l6 o3 h
    unfold fX_ahead_40 at h
    refine xr_iload (pc' := 42) rfl rfl rfl ?_
    refine xr_iload (pc' := 44) rfl rfl rfl ?_
    rcases xite h with ⟨hc, h⟩ | ⟨hc, h⟩
    · refine xr_icmp_gt_t (t := 64) rfl hc ?_
      refine xr_iload (pc' := 66) rfl rfl rfl ?_
      refine xr_iconst (v := -1) (pc' := 67) rfl (by decide) rfl ?_
      rcases xite h with ⟨hc, h⟩ | ⟨hc, h⟩
      · refine xr_icmp_ne_f (pc' := 70) rfl hc rfl ?_
        refine xr_bipush (v := -2) (pc' := 72) rfl (by decide) rfl ?_
        refine xr_goto (t := 87) rfl ?_
        obtain ⟨rfl, rfl⟩ := xsome2 h
        exact xr_iret rfl mR_95
      · refine xr_icmp_ne_t (t := 75) rfl hc ?_
        refine xr_aload_n (pc' := 76) rfl rfl rfl ?_
        obtain ⟨v7, hv7, h⟩ := xbind h
        refine xr_getR (pc' := 79) rfl (by decide) hv7 rfl ?_
        obtain ⟨v8, hv8, h⟩ := xbind h
        refine xr_getR (pc' := 82) rfl (by decide) hv8 rfl ?_
        refine xr_iload (pc' := 84) rfl rfl rfl ?_
        obtain ⟨u9, hu9, h⟩ := xbind h
        obtain ⟨q10, hq10, h⟩ := xbind h
        refine xr_callV (pc' := 87) (C := 0) (As := [_]) (rest := _) rfl hu9 mC_38 mL_38 rfl (Nat.le_of_ble_eq_true rfl) rfl (Nat.le_of_ble_eq_true rfl) (TfA_addressOf _ _ hq10) rfl ?_
        obtain ⟨rfl, rfl⟩ := xsome2 h
        exact xr_iret rfl mR_95
    · refine xr_icmp_gt_f (pc' := 47) rfl hc rfl ?_
      refine xr_aload_n (pc' := 48) rfl rfl rfl ?_
      obtain ⟨v11, hv11, h⟩ := xbind h
      refine xr_getR (pc' := 51) rfl (by decide) hv11 rfl ?_
      refine xr_iload_n (pc' := 52) rfl rfl rfl ?_
      refine xr_iload_n (pc' := 53) rfl rfl rfl ?_
      obtain ⟨u12, hu12, h⟩ := xbind h
      obtain ⟨q13, hq13, h⟩ := xbind h
      refine xr_callV (pc' := 56) (C := 3) (As := [_, _]) (rest := _) rfl hu12 mC_21 mL_21 rfl (Nat.le_of_ble_eq_true rfl) rfl (Nat.le_of_ble_eq_true rfl) (TfD_takeBy _ _ _ hq13) rfl ?_
      refine xr_istore (pc' := 58) rfl rfl rfl ?_
      refine xr_iinc (c := 1) (pc' := 61) rfl (by decide) rfl rfl rfl ?_
      refine xr_goto (t := 40) rfl ?_
      exact ih q13.2 _ _ _ _ _ _ _ h
def fX_ahead (M : xMem) (this : xId) (a0 : Int32) (a1 : Int32) (a2 : Int32) (a3 : Int32) : Option (Int32 × xMem) :=
  (xob M (some this) 7).bind fun u1 =>
  (fX_isForTakes M u1 a0 a1 a2).bind fun q2 =>
  if q2.1 = 0 then (
    some ((-1 : Int32), q2.2))
  else
  if a3 < 0 then (
    some ((-1 : Int32), q2.2))
  else
  if a3 < a2 then (
    (xgR q2.2 (some this) 7 1).bind fun v3 =>
    (xgR q2.2 (some this) 7 0).bind fun v4 =>
    (xob q2.2 v3 3).bind fun u5 =>
    (fD_copyFrom q2.2 u5 v4).bind fun q6 =>
    fX_ahead_40  xF q6 (some this) a0 a1 a3 (-1 : Int32) (0 : Int32))
  else
  some ((-1 : Int32), q2.2)
set_option maxRecDepth 20000 in
theorem TfX_ahead {M M' : xMem} {r : Int32} (this : xId) (a0 : Int32) (a1 : Int32) (a2 : Int32) (a3 : Int32) (h : fX_ahead M this a0 a1 a2 a3 = some (r, M')) : xrun none 4 95 0 ([some (.inr (.inr (some this))), some (.inl a0), some (.inl a1), some (.inl a2), some (.inl a3), none, none]) ([]) M (some (.inl r), M') := by
  unfold fX_ahead at h
  refine xr_aload_n (pc' := 1) rfl rfl rfl ?_
  refine xr_iload_n (pc' := 2) rfl rfl rfl ?_
  refine xr_iload_n (pc' := 3) rfl rfl rfl ?_
  refine xr_iload_n (pc' := 4) rfl rfl rfl ?_
  obtain ⟨u1, hu1, h⟩ := xbind h
  obtain ⟨q2, hq2, h⟩ := xbind h
  refine xr_callV (pc' := 7) (C := 7) (As := [_, _, _]) (rest := _) rfl hu1 mC_96 mL_96 rfl (Nat.le_of_ble_eq_true rfl) rfl (Nat.le_of_ble_eq_true rfl) (TfX_isForTakes _ _ _ _ hq2) rfl ?_
  rcases xite h with ⟨hc, h⟩ | ⟨hc, h⟩
  · refine xr_if_eq_t (t := 21) rfl hc ?_
    refine xr_iconst (v := -1) (pc' := 22) rfl (by decide) rfl ?_
    obtain ⟨rfl, rfl⟩ := xsome2 h
    exact xr_iret rfl mR_95
  · refine xr_if_eq_f (pc' := 10) rfl hc rfl ?_
    refine xr_iload (pc' := 12) rfl rfl rfl ?_
    rcases xite h with ⟨hc, h⟩ | ⟨hc, h⟩
    · refine xr_if_lt_t (t := 21) rfl hc ?_
      refine xr_iconst (v := -1) (pc' := 22) rfl (by decide) rfl ?_
      obtain ⟨rfl, rfl⟩ := xsome2 h
      exact xr_iret rfl mR_95
    · refine xr_if_lt_f (pc' := 15) rfl hc rfl ?_
      refine xr_iload (pc' := 17) rfl rfl rfl ?_
      refine xr_iload_n (pc' := 18) rfl rfl rfl ?_
      rcases xite h with ⟨hc, h⟩ | ⟨hc, h⟩
      · refine xr_icmp_lt_t (t := 23) rfl hc ?_
        refine xr_aload_n (pc' := 24) rfl rfl rfl ?_
        obtain ⟨v3, hv3, h⟩ := xbind h
        refine xr_getR (pc' := 27) rfl (by decide) hv3 rfl ?_
        refine xr_aload_n (pc' := 28) rfl rfl rfl ?_
        obtain ⟨v4, hv4, h⟩ := xbind h
        refine xr_getR (pc' := 31) rfl (by decide) hv4 rfl ?_
        obtain ⟨u5, hu5, h⟩ := xbind h
        obtain ⟨q6, hq6, h⟩ := xbind h
        refine xr_callV (pc' := 34) (C := 3) (As := [_]) (rest := _) rfl hu5 mC_97 mL_97 rfl (Nat.le_of_ble_eq_true rfl) rfl (Nat.le_of_ble_eq_true rfl) (TfD_copyFrom _ _ hq6) rfl ?_
        refine xr_iconst (v := -1) (pc' := 35) rfl (by decide) rfl ?_
        refine xr_istore (pc' := 37) rfl rfl rfl ?_
        refine xr_iconst (v := 0) (pc' := 38) rfl (by decide) rfl ?_
        refine xr_istore (pc' := 40) rfl rfl rfl ?_
        exact TfX_ahead_40   xF q6 _ _ _ _ _ _ _ h
      · refine xr_icmp_lt_f (pc' := 21) rfl hc rfl ?_
        refine xr_iconst (v := -1) (pc' := 22) rfl (by decide) rfl ?_
        obtain ⟨rfl, rfl⟩ := xsome2 h
        exact xr_iret rfl mR_95
-- 101: MagazineDepot.trip(IIII)I
def fX_trip_95  : Nat → xMem → Option xId → Int32 → Int32 → Int32 → Int32 → Option (Int32 × xMem)
  | 0, _, _, _, _, _, _ => none
  | n + 1, M, l0, l2, l4, l5, l6 =>
    if l5 ≤ l6 then (
      if l4 = 0 then (
        (xgR M l0 7 1).bind fun v18 =>
        (xgI M v18 3 7).bind fun v19 =>
        (xgR M l0 7 0).bind fun v20 =>
        (xgI M v20 3 7).bind fun v21 =>
        some ((v19 - v21), M))
      else
      if l4 = (1 : Int32) then (
        some (l5, M))
      else
      (xgR M l0 7 1).bind fun v22 =>
      (xgI M v22 3 5).bind fun v23 =>
      (xgR M l0 7 0).bind fun v24 =>
      (xgI M v24 3 5).bind fun v25 =>
      some ((v23 - v25), M))
    else
    (xgR M l0 7 1).bind fun v26 =>
    (xgR M l0 7 4).bind fun v27 =>
    (xob M v27 4).bind fun u28 =>
    (fP_takeLatest M u28 ).bind fun q29 =>
    (xob q29.2 v26 3).bind fun u30 =>
    (fD_giveBy q29.2 u30 q29.1 l2).bind fun q31 =>
    fX_trip_95  n q31 l0 l2 l4 l5 (l6 + 1)
set_option maxRecDepth 20000 in
theorem TfX_trip_95 {M' : xMem} {r : Int32}  : ∀ (n : Nat) (M : xMem) (l0 : Option xId) (l2 : Int32) (l4 : Int32) (l5 : Int32) (l6 : Int32) (o1 : Int32) (o3 : Int32), fX_trip_95  n M l0 l2 l4 l5 l6 = some (r, M') → xrun none 4 101 95 ([some (.inr (.inr l0)), some (.inl o1), some (.inl l2), some (.inl o3), some (.inl l4), some (.inl l5), some (.inl l6)]) ([]) M (some (.inl r), M') := by
  intro n
  induction n with
  | zero => intro M l0 l2 l4 l5 l6 o1 o3 h; unfold fX_trip_95 at h; cases h
  | succ n ih =>
    intro M l0 l2 l4 l5 l6 o1 o3 h
    unfold fX_trip_95 at h
    refine xr_iload (pc' := 97) rfl rfl rfl ?_
    refine xr_iload (pc' := 99) rfl rfl rfl ?_
    rcases xite h with ⟨hc, h⟩ | ⟨hc, h⟩
    · refine xr_icmp_ge_t (t := 123) rfl hc ?_
      refine xr_iload (pc' := 125) rfl rfl rfl ?_
      rcases xite h with ⟨hc, h⟩ | ⟨hc, h⟩
      · refine xr_if_ne_f (pc' := 128) rfl hc rfl ?_
        refine xr_aload_n (pc' := 129) rfl rfl rfl ?_
        obtain ⟨v18, hv18, h⟩ := xbind h
        refine xr_getR (pc' := 132) rfl (by decide) hv18 rfl ?_
        obtain ⟨v19, hv19, h⟩ := xbind h
        refine xr_getI (pc' := 135) rfl (by decide) hv19 rfl ?_
        refine xr_aload_n (pc' := 136) rfl rfl rfl ?_
        obtain ⟨v20, hv20, h⟩ := xbind h
        refine xr_getR (pc' := 139) rfl (by decide) hv20 rfl ?_
        obtain ⟨v21, hv21, h⟩ := xbind h
        refine xr_getI (pc' := 142) rfl (by decide) hv21 rfl ?_
        refine xr_isub (pc' := 143) rfl rfl ?_
        obtain ⟨rfl, rfl⟩ := xsome2 h
        exact xr_iret rfl mR_101
      · refine xr_if_ne_t (t := 144) rfl hc ?_
        refine xr_iload (pc' := 146) rfl rfl rfl ?_
        refine xr_iconst (v := 1) (pc' := 147) rfl (by decide) rfl ?_
        rcases xite h with ⟨hc, h⟩ | ⟨hc, h⟩
        · refine xr_icmp_ne_f (pc' := 150) rfl hc rfl ?_
          refine xr_iload (pc' := 152) rfl rfl rfl ?_
          refine xr_goto (t := 170) rfl ?_
          obtain ⟨rfl, rfl⟩ := xsome2 h
          exact xr_iret rfl mR_101
        · refine xr_icmp_ne_t (t := 155) rfl hc ?_
          refine xr_aload_n (pc' := 156) rfl rfl rfl ?_
          obtain ⟨v22, hv22, h⟩ := xbind h
          refine xr_getR (pc' := 159) rfl (by decide) hv22 rfl ?_
          obtain ⟨v23, hv23, h⟩ := xbind h
          refine xr_getI (pc' := 162) rfl (by decide) hv23 rfl ?_
          refine xr_aload_n (pc' := 163) rfl rfl rfl ?_
          obtain ⟨v24, hv24, h⟩ := xbind h
          refine xr_getR (pc' := 166) rfl (by decide) hv24 rfl ?_
          obtain ⟨v25, hv25, h⟩ := xbind h
          refine xr_getI (pc' := 169) rfl (by decide) hv25 rfl ?_
          refine xr_isub (pc' := 170) rfl rfl ?_
          obtain ⟨rfl, rfl⟩ := xsome2 h
          exact xr_iret rfl mR_101
    · refine xr_icmp_ge_f (pc' := 102) rfl hc rfl ?_
      refine xr_aload_n (pc' := 103) rfl rfl rfl ?_
      obtain ⟨v26, hv26, h⟩ := xbind h
      refine xr_getR (pc' := 106) rfl (by decide) hv26 rfl ?_
      refine xr_aload_n (pc' := 107) rfl rfl rfl ?_
      obtain ⟨v27, hv27, h⟩ := xbind h
      refine xr_getR (pc' := 110) rfl (by decide) hv27 rfl ?_
      obtain ⟨u28, hu28, h⟩ := xbind h
      obtain ⟨q29, hq29, h⟩ := xbind h
      refine xr_callV (pc' := 113) (C := 4) (As := []) (rest := _) rfl hu28 mC_29 mL_29 rfl (Nat.le_of_ble_eq_true rfl) rfl (Nat.le_of_ble_eq_true rfl) (TfP_takeLatest _  hq29) rfl ?_
      refine xr_iload_n (pc' := 114) rfl rfl rfl ?_
      obtain ⟨u30, hu30, h⟩ := xbind h
      obtain ⟨q31, hq31, h⟩ := xbind h
      refine xr_callV (pc' := 117) (C := 3) (As := [_, _]) (rest := _) rfl hu30 mC_51 mL_51 rfl (Nat.le_of_ble_eq_true rfl) rfl (Nat.le_of_ble_eq_true rfl) (TfD_giveBy _ _ _ hq31) rfl ?_
      refine xr_iinc (c := 1) (pc' := 120) rfl (by decide) rfl rfl rfl ?_
      refine xr_goto (t := 95) rfl ?_
      exact ih q31 _ _ _ _ _ _ _ h
def fX_trip_77 (k45 : xMem → Option xId → Int32 → Int32 → Int32 → Int32 → Int32 → Option (Int32 × xMem)) (M : xMem) (l0 : Option xId) (l1 : Int32) (l2 : Int32) (l3 : Int32) (l4 : Int32) (l5 : Int32)  : Option (Int32 × xMem) :=
  k45 M l0 l1 l2 l3 l4 (l5 + 1)
set_option maxRecDepth 20000 in
theorem TfX_trip_77 {M' : xMem} {r : Int32} (k45 : xMem → Option xId → Int32 → Int32 → Int32 → Int32 → Int32 → Option (Int32 × xMem)) (hk45 : ∀ (M : xMem) (l0 : Option xId) (l1 : Int32) (l2 : Int32) (l3 : Int32) (l4 : Int32) (l5 : Int32) (o6 : Option xVal), k45 M l0 l1 l2 l3 l4 l5 = some (r, M') → xrun none 4 101 45 ([some (.inr (.inr l0)), some (.inl l1), some (.inl l2), some (.inl l3), some (.inl l4), some (.inl l5), o6]) ([]) M (some (.inl r), M')) (M : xMem) (l0 : Option xId) (l1 : Int32) (l2 : Int32) (l3 : Int32) (l4 : Int32) (l5 : Int32)  (o6 : Int32) (h : fX_trip_77 k45 M l0 l1 l2 l3 l4 l5  = some (r, M')) : xrun none 4 101 77 ([some (.inr (.inr l0)), some (.inl l1), some (.inl l2), some (.inl l3), some (.inl l4), some (.inl l5), some (.inl o6)]) ([]) M (some (.inl r), M') := by
  unfold fX_trip_77 at h
  refine xr_iinc (c := 1) (pc' := 80) rfl (by decide) rfl rfl rfl ?_
  refine xr_goto (t := 45) rfl ?_
  exact hk45 M _ _ _ _ _ _ _ h
def fX_trip_45  : Nat → xMem → Option xId → Int32 → Int32 → Int32 → Int32 → Int32 → Option (Int32 × xMem)
  | 0, _, _, _, _, _, _, _ => none
  | n + 1, M, l0, l1, l2, l3, l4, l5 =>
    if l3 ≤ l5 then (
      (xgR M l0 7 4).bind fun v10 =>
      (xgI M v10 4 1).bind fun v11 =>
      fX_trip_95  xF M l0 l2 l4 v11 (0 : Int32))
    else
    (xgR M l0 7 1).bind fun v12 =>
    (xob M v12 3).bind fun u13 =>
    (fD_takeBy M u13 l1 l2).bind fun q14 =>
    if q14.1 = (-1 : Int32) then (
      fX_trip_77 (fun M l0 l1 l2 l3 l4 l5 => fX_trip_45  n M l0 l1 l2 l3 l4 l5) q14.2 l0 l1 l2 l3 l4 l5 )
    else
    (xgR q14.2 l0 7 4).bind fun v15 =>
    (xob q14.2 v15 4).bind fun u16 =>
    (fP_put q14.2 u16 q14.1).bind fun q17 =>
    fX_trip_77 (fun M l0 l1 l2 l3 l4 l5 => fX_trip_45  n M l0 l1 l2 l3 l4 l5) q17 l0 l1 l2 l3 l4 l5 
set_option maxRecDepth 20000 in
theorem TfX_trip_45 {M' : xMem} {r : Int32}  : ∀ (n : Nat) (M : xMem) (l0 : Option xId) (l1 : Int32) (l2 : Int32) (l3 : Int32) (l4 : Int32) (l5 : Int32) (o6 : Option xVal), fX_trip_45  n M l0 l1 l2 l3 l4 l5 = some (r, M') → xrun none 4 101 45 ([some (.inr (.inr l0)), some (.inl l1), some (.inl l2), some (.inl l3), some (.inl l4), some (.inl l5), o6]) ([]) M (some (.inl r), M') := by
  intro n
  induction n with
  | zero => intro M l0 l1 l2 l3 l4 l5 o6 h; unfold fX_trip_45 at h; cases h
  | succ n ih =>
    intro M l0 l1 l2 l3 l4 l5 o6 h
    unfold fX_trip_45 at h
    refine xr_iload (pc' := 47) rfl rfl rfl ?_
    refine xr_iload_n (pc' := 48) rfl rfl rfl ?_
    rcases xite h with ⟨hc, h⟩ | ⟨hc, h⟩
    · refine xr_icmp_ge_t (t := 83) rfl hc ?_
      refine xr_aload_n (pc' := 84) rfl rfl rfl ?_
      obtain ⟨v10, hv10, h⟩ := xbind h
      refine xr_getR (pc' := 87) rfl (by decide) hv10 rfl ?_
      obtain ⟨v11, hv11, h⟩ := xbind h
      refine xr_getI (pc' := 90) rfl (by decide) hv11 rfl ?_
      refine xr_istore (pc' := 92) rfl rfl rfl ?_
      refine xr_iconst (v := 0) (pc' := 93) rfl (by decide) rfl ?_
      refine xr_istore (pc' := 95) rfl rfl rfl ?_
      exact TfX_trip_95   xF M _ _ _ _ _ _ _ h
    · refine xr_icmp_ge_f (pc' := 51) rfl hc rfl ?_
      refine xr_aload_n (pc' := 52) rfl rfl rfl ?_
      obtain ⟨v12, hv12, h⟩ := xbind h
      refine xr_getR (pc' := 55) rfl (by decide) hv12 rfl ?_
      refine xr_iload_n (pc' := 56) rfl rfl rfl ?_
      refine xr_iload_n (pc' := 57) rfl rfl rfl ?_
      obtain ⟨u13, hu13, h⟩ := xbind h
      obtain ⟨q14, hq14, h⟩ := xbind h
      refine xr_callV (pc' := 60) (C := 3) (As := [_, _]) (rest := _) rfl hu13 mC_21 mL_21 rfl (Nat.le_of_ble_eq_true rfl) rfl (Nat.le_of_ble_eq_true rfl) (TfD_takeBy _ _ _ hq14) rfl ?_
      refine xr_istore (pc' := 62) rfl rfl rfl ?_
      refine xr_iload (pc' := 64) rfl rfl rfl ?_
      refine xr_iconst (v := -1) (pc' := 65) rfl (by decide) rfl ?_
      rcases xite h with ⟨hc, h⟩ | ⟨hc, h⟩
      · refine xr_icmp_eq_t (t := 77) rfl hc ?_
        exact TfX_trip_77 _ (fun M l0 l1 l2 l3 l4 l5 o6 h => ih M l0 l1 l2 l3 l4 l5 o6 h) q14.2 _ _ _ _ _ _  _ h
      · refine xr_icmp_eq_f (pc' := 68) rfl hc rfl ?_
        refine xr_aload_n (pc' := 69) rfl rfl rfl ?_
        obtain ⟨v15, hv15, h⟩ := xbind h
        refine xr_getR (pc' := 72) rfl (by decide) hv15 rfl ?_
        refine xr_iload (pc' := 74) rfl rfl rfl ?_
        obtain ⟨u16, hu16, h⟩ := xbind h
        obtain ⟨q17, hq17, h⟩ := xbind h
        refine xr_callV (pc' := 77) (C := 4) (As := [_]) (rest := _) rfl hu16 mC_27 mL_27 rfl (Nat.le_of_ble_eq_true rfl) rfl (Nat.le_of_ble_eq_true rfl) (TfP_put _ _ hq17) rfl ?_
        exact TfX_trip_77 _ (fun M l0 l1 l2 l3 l4 l5 o6 h => ih M l0 l1 l2 l3 l4 l5 o6 h) q17 _ _ _ _ _ _  _ h
def fX_trip (M : xMem) (this : xId) (a0 : Int32) (a1 : Int32) (a2 : Int32) (a3 : Int32) : Option (Int32 × xMem) :=
  (xob M (some this) 7).bind fun u1 =>
  (fX_isForTakes M u1 a0 a1 a2).bind fun q2 =>
  if q2.1 = 0 then (
    some ((-2000000000 : Int32), q2.2))
  else
  if a3 < 0 then (
    some ((-2000000000 : Int32), q2.2))
  else
  if a3 ≤ (2 : Int32) then (
    (xgR q2.2 (some this) 7 1).bind fun v3 =>
    (xgR q2.2 (some this) 7 0).bind fun v4 =>
    (xob q2.2 v3 3).bind fun u5 =>
    (fD_copyFrom q2.2 u5 v4).bind fun q6 =>
    (xgR q6 (some this) 7 4).bind fun v7 =>
    (xob q6 v7 4).bind fun u8 =>
    (fP_clear q6 u8 ).bind fun q9 =>
    fX_trip_45  xF q9 (some this) a0 a1 a2 a3 (0 : Int32))
  else
  some ((-2000000000 : Int32), q2.2)
set_option maxRecDepth 20000 in
theorem TfX_trip {M M' : xMem} {r : Int32} (this : xId) (a0 : Int32) (a1 : Int32) (a2 : Int32) (a3 : Int32) (h : fX_trip M this a0 a1 a2 a3 = some (r, M')) : xrun none 4 101 0 ([some (.inr (.inr (some this))), some (.inl a0), some (.inl a1), some (.inl a2), some (.inl a3), none, none]) ([]) M (some (.inl r), M') := by
  unfold fX_trip at h
  refine xr_aload_n (pc' := 1) rfl rfl rfl ?_
  refine xr_iload_n (pc' := 2) rfl rfl rfl ?_
  refine xr_iload_n (pc' := 3) rfl rfl rfl ?_
  refine xr_iload_n (pc' := 4) rfl rfl rfl ?_
  obtain ⟨u1, hu1, h⟩ := xbind h
  obtain ⟨q2, hq2, h⟩ := xbind h
  refine xr_callV (pc' := 7) (C := 7) (As := [_, _, _]) (rest := _) rfl hu1 mC_96 mL_96 rfl (Nat.le_of_ble_eq_true rfl) rfl (Nat.le_of_ble_eq_true rfl) (TfX_isForTakes _ _ _ _ hq2) rfl ?_
  rcases xite h with ⟨hc, h⟩ | ⟨hc, h⟩
  · refine xr_if_eq_t (t := 21) rfl hc ?_
    refine xr_ldc (v := -2000000000) (pc' := 23) rfl (by decide) rfl ?_
    obtain ⟨rfl, rfl⟩ := xsome2 h
    exact xr_iret rfl mR_101
  · refine xr_if_eq_f (pc' := 10) rfl hc rfl ?_
    refine xr_iload (pc' := 12) rfl rfl rfl ?_
    rcases xite h with ⟨hc, h⟩ | ⟨hc, h⟩
    · refine xr_if_lt_t (t := 21) rfl hc ?_
      refine xr_ldc (v := -2000000000) (pc' := 23) rfl (by decide) rfl ?_
      obtain ⟨rfl, rfl⟩ := xsome2 h
      exact xr_iret rfl mR_101
    · refine xr_if_lt_f (pc' := 15) rfl hc rfl ?_
      refine xr_iload (pc' := 17) rfl rfl rfl ?_
      refine xr_iconst (v := 2) (pc' := 18) rfl (by decide) rfl ?_
      rcases xite h with ⟨hc, h⟩ | ⟨hc, h⟩
      · refine xr_icmp_le_t (t := 24) rfl hc ?_
        refine xr_aload_n (pc' := 25) rfl rfl rfl ?_
        obtain ⟨v3, hv3, h⟩ := xbind h
        refine xr_getR (pc' := 28) rfl (by decide) hv3 rfl ?_
        refine xr_aload_n (pc' := 29) rfl rfl rfl ?_
        obtain ⟨v4, hv4, h⟩ := xbind h
        refine xr_getR (pc' := 32) rfl (by decide) hv4 rfl ?_
        obtain ⟨u5, hu5, h⟩ := xbind h
        obtain ⟨q6, hq6, h⟩ := xbind h
        refine xr_callV (pc' := 35) (C := 3) (As := [_]) (rest := _) rfl hu5 mC_97 mL_97 rfl (Nat.le_of_ble_eq_true rfl) rfl (Nat.le_of_ble_eq_true rfl) (TfD_copyFrom _ _ hq6) rfl ?_
        refine xr_aload_n (pc' := 36) rfl rfl rfl ?_
        obtain ⟨v7, hv7, h⟩ := xbind h
        refine xr_getR (pc' := 39) rfl (by decide) hv7 rfl ?_
        obtain ⟨u8, hu8, h⟩ := xbind h
        obtain ⟨q9, hq9, h⟩ := xbind h
        refine xr_callV (pc' := 42) (C := 4) (As := []) (rest := _) rfl hu8 mC_15 mL_15 rfl (Nat.le_of_ble_eq_true rfl) rfl (Nat.le_of_ble_eq_true rfl) (TfP_clear _  hq9) rfl ?_
        refine xr_iconst (v := 0) (pc' := 43) rfl (by decide) rfl ?_
        refine xr_istore (pc' := 45) rfl rfl rfl ?_
        exact TfX_trip_45   xF q9 _ _ _ _ _ _ _ h
      · refine xr_icmp_le_f (pc' := 21) rfl hc rfl ?_
        refine xr_ldc (v := -2000000000) (pc' := 23) rfl (by decide) rfl ?_
        obtain ⟨rfl, rfl⟩ := xsome2 h
        exact xr_iret rfl mR_101
