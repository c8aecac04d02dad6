/-! shallow functions of the methods (by program, out of the bytecode), and that a run is what they say -/
-- 4: java/util/Arrays.fill([II)V
def fJ_fill_5  : Nat → xMem → Option xId → Int32 → Int32 → Int32 → Option xMem
  | 0, _, _, _, _, _ => none
  | n + 1, M, l0, l1, l2, l3 =>
    if l3 ≤ l2 then (
      some M)
    else
    (xuI M l0 l2 l1).bind fun M2 =>
    fJ_fill_5  n M2 l0 l1 (l2 + 1) l3
set_option maxRecDepth 20000 in
theorem TfJ_fill_5 {M' : xMem}  : ∀ (n : Nat) (M : xMem) (l0 : Option xId) (l1 : Int32) (l2 : Int32) (l3 : Int32) , fJ_fill_5  n M l0 l1 l2 l3 = some M' → xrun none 0 4 5 ([some (.inr (.inr l0)), some (.inl l1), some (.inl l2), some (.inl l3)]) ([]) M (none, M') := by
  intro n
  induction n with
  | zero => intro M l0 l1 l2 l3  h; unfold fJ_fill_5 at h; cases h
  | succ n ih =>
    intro M l0 l1 l2 l3  h
    unfold fJ_fill_5 at h
    refine xr_iload_n (pc' := 6) rfl rfl rfl ?_
    refine xr_iload_n (pc' := 7) rfl rfl rfl ?_
    rcases xite h with ⟨hc, h⟩ | ⟨hc, h⟩
    · refine xr_icmp_ge_t (t := 20) rfl hc ?_
      obtain rfl := xsome1 h
      exact xr_ret rfl mR_4
    · refine xr_icmp_ge_f (pc' := 10) rfl hc rfl ?_
      refine xr_aload_n (pc' := 11) rfl rfl rfl ?_
      refine xr_iload_n (pc' := 12) rfl rfl rfl ?_
      refine xr_iload_n (pc' := 13) rfl rfl rfl ?_
      obtain ⟨M2, hM2, h⟩ := xbind h
      refine xr_uI (pc' := 14) rfl hM2 rfl ?_
      refine xr_iinc (c := 1) (pc' := 17) rfl (by decide) rfl rfl rfl ?_
      refine xr_goto (t := 5) rfl ?_
      exact ih M2 _ _ _ _  h
def fJ_fill (M : xMem) (a0 : Option xId) (a1 : Int32) : Option xMem :=
  (xal M a0).bind fun v1 =>
  fJ_fill_5  xF M a0 a1 (0 : Int32) v1
set_option maxRecDepth 20000 in
theorem TfJ_fill {M M' : xMem} (a0 : Option xId) (a1 : Int32) (h : fJ_fill M a0 a1 = some M') : xrun none 0 4 0 ([some (.inr (.inr a0)), some (.inl a1), none, none]) ([]) M (none, M') := by
  unfold fJ_fill at h
  refine xr_iconst (v := 0) (pc' := 1) rfl (by decide) rfl ?_
  refine xr_istore_n (pc' := 2) rfl rfl rfl ?_
  refine xr_aload_n (pc' := 3) rfl rfl rfl ?_
  obtain ⟨v1, hv1, h⟩ := xbind h
  refine xr_alen (pc' := 4) rfl hv1 rfl ?_
  refine xr_istore_n (pc' := 5) rfl rfl rfl ?_
  exact TfJ_fill_5   xF M _ _ _ _  h
-- 11: MagazineDepot.isMeasure(III)Z
def fX_isMeasure (M : xMem) (a0 : Int32) (a1 : Int32) (a2 : Int32) : Option (Int32 × xMem) :=
  if a0 < a1 then (
    some ((0 : Int32), M))
  else
  if a2 < a0 then (
    some ((0 : Int32), M))
  else
  if (a0 - a0 / (8 : Int32) * (8 : Int32)) = 0 then (
    some ((1 : Int32), M))
  else
  some ((0 : Int32), M)
set_option maxRecDepth 20000 in
theorem TfX_isMeasure {M M' : xMem} {r : Int32} (a0 : Int32) (a1 : Int32) (a2 : Int32) (h : fX_isMeasure M a0 a1 a2 = some (r, M')) : xrun none 0 11 0 ([some (.inl a0), some (.inl a1), some (.inl a2)]) ([]) M (some (.inl r), M') := by
  unfold fX_isMeasure at h
  refine xr_iload_n (pc' := 1) rfl rfl rfl ?_
  refine xr_iload_n (pc' := 2) rfl rfl rfl ?_
  rcases xite h with ⟨hc, h⟩ | ⟨hc, h⟩
  · refine xr_icmp_lt_t (t := 21) rfl hc ?_
    refine xr_iconst (v := 0) (pc' := 22) rfl (by decide) rfl ?_
    obtain ⟨rfl, rfl⟩ := xsome2 h
    exact xr_zret rfl mR_11 (by decide)
  · refine xr_icmp_lt_f (pc' := 5) rfl hc rfl ?_
    refine xr_iload_n (pc' := 6) rfl rfl rfl ?_
    refine xr_iload_n (pc' := 7) rfl rfl rfl ?_
    rcases xite h with ⟨hc, h⟩ | ⟨hc, h⟩
    · refine xr_icmp_gt_t (t := 21) rfl hc ?_
      refine xr_iconst (v := 0) (pc' := 22) rfl (by decide) rfl ?_
      obtain ⟨rfl, rfl⟩ := xsome2 h
      exact xr_zret rfl mR_11 (by decide)
    · refine xr_icmp_gt_f (pc' := 10) rfl hc rfl ?_
      refine xr_iload_n (pc' := 11) rfl rfl rfl ?_
      refine xr_bipush (v := 8) (pc' := 13) rfl (by decide) rfl ?_
      refine xr_irem (pc' := 14) rfl (by decide) rfl ?_
      rcases xite h with ⟨hc, h⟩ | ⟨hc, h⟩
      · refine xr_if_ne_f (pc' := 17) rfl hc rfl ?_
        refine xr_iconst (v := 1) (pc' := 18) rfl (by decide) rfl ?_
        refine xr_goto (t := 22) rfl ?_
        obtain ⟨rfl, rfl⟩ := xsome2 h
        exact xr_zret rfl mR_11 (by decide)
      · refine xr_if_ne_t (t := 21) rfl hc ?_
        refine xr_iconst (v := 0) (pc' := 22) rfl (by decide) rfl ?_
        obtain ⟨rfl, rfl⟩ := xsome2 h
        exact xr_zret rfl mR_11 (by decide)
-- 15: MagazineDepot$Pile.clear()V
def fP_clear (M : xMem) (this : xId) : Option xMem :=
  (xpI M (some this) 4 1 (0 : Int32)).bind fun M1 =>
  some M1
set_option maxRecDepth 20000 in
theorem TfP_clear {M M' : xMem} (this : xId) (h : fP_clear M this = some M') : xrun none 0 15 0 ([some (.inr (.inr (some this)))]) ([]) M (none, M') := by
  unfold fP_clear at h
  refine xr_aload_n (pc' := 1) rfl rfl rfl ?_
  refine xr_iconst (v := 0) (pc' := 2) rfl (by decide) rfl ?_
  obtain ⟨M1, hM1, h⟩ := xbind h
  refine xr_putI (pc' := 5) rfl (by decide) hM1 rfl ?_
  obtain rfl := xsome1 h
  exact xr_ret rfl mR_15
-- 14: MagazineDepot$Cache.loseMagazines()V
def fC_loseMagazines (M : xMem) (this : xId) : Option xMem :=
  (xgR M (some this) 2 16).bind fun v1 =>
  (xob M v1 4).bind fun u2 =>
  (fP_clear M u2 ).bind fun q3 =>
  (xgR q3 (some this) 2 17).bind fun v4 =>
  (xob q3 v4 4).bind fun u5 =>
  (fP_clear q3 u5 ).bind fun q6 =>
  (xgR q6 (some this) 2 14).bind fun v7 =>
  (fJ_fill q6 v7 (-1 : Int32)).bind fun q8 =>
  (xgR q8 (some this) 2 15).bind fun v9 =>
  (fJ_fill q8 v9 (-1 : Int32)).bind fun q10 =>
  some q10
set_option maxRecDepth 20000 in
theorem TfC_loseMagazines {M M' : xMem} (this : xId) (h : fC_loseMagazines M this = some M') : xrun none 1 14 0 ([some (.inr (.inr (some this)))]) ([]) M (none, M') := by
  unfold fC_loseMagazines at h
  refine xr_aload_n (pc' := 1) rfl rfl rfl ?_
  obtain ⟨v1, hv1, h⟩ := xbind h
  refine xr_getR (pc' := 4) rfl (by decide) hv1 rfl ?_
  obtain ⟨u2, hu2, h⟩ := xbind h
  obtain ⟨q3, hq3, h⟩ := xbind h
  refine xr_callV (pc' := 7) (C := 4) (As := []) (rest := _) rfl hu2 mC_15 mL_15 rfl (Nat.le_of_ble_eq_true rfl) rfl (Nat.le_of_ble_eq_true rfl) (TfP_clear _  hq3) rfl ?_
  refine xr_aload_n (pc' := 8) rfl rfl rfl ?_
  obtain ⟨v4, hv4, h⟩ := xbind h
  refine xr_getR (pc' := 11) rfl (by decide) hv4 rfl ?_
  obtain ⟨u5, hu5, h⟩ := xbind h
  obtain ⟨q6, hq6, h⟩ := xbind h
  refine xr_callV (pc' := 14) (C := 4) (As := []) (rest := _) rfl hu5 mC_15 mL_15 rfl (Nat.le_of_ble_eq_true rfl) rfl (Nat.le_of_ble_eq_true rfl) (TfP_clear _  hq6) rfl ?_
  refine xr_aload_n (pc' := 15) rfl rfl rfl ?_
  obtain ⟨v7, hv7, h⟩ := xbind h
  refine xr_getR (pc' := 18) rfl (by decide) hv7 rfl ?_
  refine xr_iconst (v := -1) (pc' := 19) rfl (by decide) rfl ?_
  obtain ⟨q8, hq8, h⟩ := xbind h
  refine xr_callS (pc' := 22) (As := [_, _]) (rest := _) rfl (by decide) mL_4 rfl (Nat.le_of_ble_eq_true rfl) rfl (Nat.le_of_ble_eq_true rfl) (TfJ_fill _ _ hq8) rfl ?_
  refine xr_aload_n (pc' := 23) rfl rfl rfl ?_
  obtain ⟨v9, hv9, h⟩ := xbind h
  refine xr_getR (pc' := 26) rfl (by decide) hv9 rfl ?_
  refine xr_iconst (v := -1) (pc' := 27) rfl (by decide) rfl ?_
  obtain ⟨q10, hq10, h⟩ := xbind h
  refine xr_callS (pc' := 30) (As := [_, _]) (rest := _) rfl (by decide) mL_4 rfl (Nat.le_of_ble_eq_true rfl) rfl (Nat.le_of_ble_eq_true rfl) (TfJ_fill _ _ hq10) rfl ?_
  obtain rfl := xsome1 h
  exact xr_ret rfl mR_14
-- 16: MagazineDepot$Cache.beginInterval()V
def fC_beginInterval (M : xMem) (this : xId) : Option xMem :=
  (xpI M (some this) 2 6 (0 : Int32)).bind fun M1 =>
  (xgR M1 (some this) 2 16).bind fun v2 =>
  (xgI M1 v2 4 1).bind fun v3 =>
  (xpI M1 (some this) 2 8 v3).bind fun M4 =>
  (xgR M4 (some this) 2 17).bind fun v5 =>
  (xgI M4 v5 4 1).bind fun v6 =>
  (xpI M4 (some this) 2 9 v6).bind fun M7 =>
  some M7
set_option maxRecDepth 20000 in
theorem TfC_beginInterval {M M' : xMem} (this : xId) (h : fC_beginInterval M this = some M') : xrun none 0 16 0 ([some (.inr (.inr (some this)))]) ([]) M (none, M') := by
  unfold fC_beginInterval at h
  refine xr_aload_n (pc' := 1) rfl rfl rfl ?_
  refine xr_iconst (v := 0) (pc' := 2) rfl (by decide) rfl ?_
  obtain ⟨M1, hM1, h⟩ := xbind h
  refine xr_putI (pc' := 5) rfl (by decide) hM1 rfl ?_
  refine xr_aload_n (pc' := 6) rfl rfl rfl ?_
  refine xr_aload_n (pc' := 7) rfl rfl rfl ?_
  obtain ⟨v2, hv2, h⟩ := xbind h
  refine xr_getR (pc' := 10) rfl (by decide) hv2 rfl ?_
  obtain ⟨v3, hv3, h⟩ := xbind h
  refine xr_getI (pc' := 13) rfl (by decide) hv3 rfl ?_
  obtain ⟨M4, hM4, h⟩ := xbind h
  refine xr_putI (pc' := 16) rfl (by decide) hM4 rfl ?_
  refine xr_aload_n (pc' := 17) rfl rfl rfl ?_
  refine xr_aload_n (pc' := 18) rfl rfl rfl ?_
  obtain ⟨v5, hv5, h⟩ := xbind h
  refine xr_getR (pc' := 21) rfl (by decide) hv5 rfl ?_
  obtain ⟨v6, hv6, h⟩ := xbind h
  refine xr_getI (pc' := 24) rfl (by decide) hv6 rfl ?_
  obtain ⟨M7, hM7, h⟩ := xbind h
  refine xr_putI (pc' := 27) rfl (by decide) hM7 rfl ?_
  obtain rfl := xsome1 h
  exact xr_ret rfl mR_16
-- 13: MagazineDepot$Cache.begin(III)V
def fC_begin_29  (M : xMem) (l0 : Option xId) (s0 : Option xId) (s1 : Int32) : Option xMem :=
  (xpI M s0 2 3 s1).bind fun M4 =>
  (xpI M4 l0 2 4 (2 : Int32)).bind fun M5 =>
  (xpI M5 l0 2 5 (4 : Int32)).bind fun M6 =>
  (xpI M6 l0 2 7 (0 : Int32)).bind fun M7 =>
  (xpI M7 l0 2 10 (0 : Int32)).bind fun M8 =>
  (xpI M8 l0 2 11 (0 : Int32)).bind fun M9 =>
  (xpI M9 l0 2 12 (0 : Int32)).bind fun M10 =>
  (xpL M10 l0 2 13 (0 : Int64)).bind fun M11 =>
  (xob M11 l0 2).bind fun u12 =>
  (fC_loseMagazines M11 u12 ).bind fun q13 =>
  (xob q13 l0 2).bind fun u14 =>
  (fC_beginInterval q13 u14 ).bind fun q15 =>
  some q15
set_option maxRecDepth 20000 in
theorem TfC_begin_29 {M' : xMem}  (M : xMem) (l0 : Option xId) (s0 : Option xId) (s1 : Int32) (o1 : Int32) (o2 : Int32) (o3 : Int32) (h : fC_begin_29  M l0 s0 s1 = some M') : xrun none 2 13 29 ([some (.inr (.inr l0)), some (.inl o1), some (.inl o2), some (.inl o3)]) ([.inl s1, .inr (.inr s0)]) M (none, M') := by
  unfold fC_begin_29 at h
  obtain ⟨M4, hM4, h⟩ := xbind h
  refine xr_putI (pc' := 32) rfl (by decide) hM4 rfl ?_
  refine xr_aload_n (pc' := 33) rfl rfl rfl ?_
  refine xr_iconst (v := 2) (pc' := 34) rfl (by decide) rfl ?_
  obtain ⟨M5, hM5, h⟩ := xbind h
  refine xr_putI (pc' := 37) rfl (by decide) hM5 rfl ?_
  refine xr_aload_n (pc' := 38) rfl rfl rfl ?_
  refine xr_iconst (v := 4) (pc' := 39) rfl (by decide) rfl ?_
  obtain ⟨M6, hM6, h⟩ := xbind h
  refine xr_putI (pc' := 42) rfl (by decide) hM6 rfl ?_
  refine xr_aload_n (pc' := 43) rfl rfl rfl ?_
  refine xr_iconst (v := 0) (pc' := 44) rfl (by decide) rfl ?_
  obtain ⟨M7, hM7, h⟩ := xbind h
  refine xr_putI (pc' := 47) rfl (by decide) hM7 rfl ?_
  refine xr_aload_n (pc' := 48) rfl rfl rfl ?_
  refine xr_iconst (v := 0) (pc' := 49) rfl (by decide) rfl ?_
  obtain ⟨M8, hM8, h⟩ := xbind h
  refine xr_putI (pc' := 52) rfl (by decide) hM8 rfl ?_
  refine xr_aload_n (pc' := 53) rfl rfl rfl ?_
  refine xr_iconst (v := 0) (pc' := 54) rfl (by decide) rfl ?_
  obtain ⟨M9, hM9, h⟩ := xbind h
  refine xr_putI (pc' := 57) rfl (by decide) hM9 rfl ?_
  refine xr_aload_n (pc' := 58) rfl rfl rfl ?_
  refine xr_iconst (v := 0) (pc' := 59) rfl (by decide) rfl ?_
  obtain ⟨M10, hM10, h⟩ := xbind h
  refine xr_putI (pc' := 62) rfl (by decide) hM10 rfl ?_
  refine xr_aload_n (pc' := 63) rfl rfl rfl ?_
  refine xr_lconst (v := 0) (pc' := 64) rfl (by decide) rfl ?_
  obtain ⟨M11, hM11, h⟩ := xbind h
  refine xr_putL (pc' := 67) rfl (by decide) hM11 rfl ?_
  refine xr_aload_n (pc' := 68) rfl rfl rfl ?_
  obtain ⟨u12, hu12, h⟩ := xbind h
  obtain ⟨q13, hq13, h⟩ := xbind h
  refine xr_callV (pc' := 71) (C := 2) (As := []) (rest := _) rfl hu12 mC_14 mL_14 rfl (Nat.le_of_ble_eq_true rfl) rfl (Nat.le_of_ble_eq_true rfl) (TfC_loseMagazines _  hq13) rfl ?_
  refine xr_aload_n (pc' := 72) rfl rfl rfl ?_
  obtain ⟨u14, hu14, h⟩ := xbind h
  obtain ⟨q15, hq15, h⟩ := xbind h
  refine xr_callV (pc' := 75) (C := 2) (As := []) (rest := _) rfl hu14 mC_16 mL_16 rfl (Nat.le_of_ble_eq_true rfl) rfl (Nat.le_of_ble_eq_true rfl) (TfC_beginInterval _  hq15) rfl ?_
  obtain rfl := xsome1 h
  exact xr_ret rfl mR_13
def fC_begin (M : xMem) (this : xId) (a0 : Int32) (a1 : Int32) (a2 : Int32) : Option xMem :=
  (xpI M (some this) 2 0 a0).bind fun M1 =>
  (xpI M1 (some this) 2 1 a1).bind fun M2 =>
  (xpI M2 (some this) 2 2 a2).bind fun M3 =>
  if a1 ≤ 0 then (
    fC_begin_29  M3 (some this) (some this) (0 : Int32))
  else
  if a1 = 0 then none else
  fC_begin_29  M3 (some this) (some this) ((992 : Int32) / a1)
set_option maxRecDepth 20000 in
theorem TfC_begin {M M' : xMem} (this : xId) (a0 : Int32) (a1 : Int32) (a2 : Int32) (h : fC_begin M this a0 a1 a2 = some M') : xrun none 2 13 0 ([some (.inr (.inr (some this))), some (.inl a0), some (.inl a1), some (.inl a2)]) ([]) M (none, M') := by
  unfold fC_begin at h
  refine xr_aload_n (pc' := 1) rfl rfl rfl ?_
  refine xr_iload_n (pc' := 2) rfl rfl rfl ?_
  obtain ⟨M1, hM1, h⟩ := xbind h
  refine xr_putI (pc' := 5) rfl (by decide) hM1 rfl ?_
  refine xr_aload_n (pc' := 6) rfl rfl rfl ?_
  refine xr_iload_n (pc' := 7) rfl rfl rfl ?_
  obtain ⟨M2, hM2, h⟩ := xbind h
  refine xr_putI (pc' := 10) rfl (by decide) hM2 rfl ?_
  refine xr_aload_n (pc' := 11) rfl rfl rfl ?_
  refine xr_iload_n (pc' := 12) rfl rfl rfl ?_
  obtain ⟨M3, hM3, h⟩ := xbind h
  refine xr_putI (pc' := 15) rfl (by decide) hM3 rfl ?_
  refine xr_aload_n (pc' := 16) rfl rfl rfl ?_
  refine xr_iload_n (pc' := 17) rfl rfl rfl ?_
  rcases xite h with ⟨hc, h⟩ | ⟨hc, h⟩
  · refine xr_if_le_t (t := 28) rfl hc ?_
    refine xr_iconst (v := 0) (pc' := 29) rfl (by decide) rfl ?_
    exact TfC_begin_29   M3 _ _ _ _ _ _ h
  · refine xr_if_le_f (pc' := 20) rfl hc rfl ?_
    refine xr_sipush (v := 992) (pc' := 23) rfl (by decide) rfl ?_
    refine xr_iload_n (pc' := 24) rfl rfl rfl ?_
    rcases xite h with ⟨hc, h⟩ | ⟨hc, h⟩
    · cases h
    refine xr_idiv (pc' := 25) rfl hc rfl ?_
    refine xr_goto (t := 29) rfl ?_
    exact TfC_begin_29   M3 _ _ _ _ _ _ h
-- 12: MagazineDepot$Depot.addCache(III)I
def fD_addCache (M : xMem) (this : xId) (a0 : Int32) (a1 : Int32) (a2 : Int32) : Option (Int32 × xMem) :=
  (xgI M (some this) 3 4).bind fun v1 =>
  if v1 < (4 : Int32) then (
    (xgI M (some this) 3 4).bind fun v2 =>
    (xgR M (some this) 3 1).bind fun v3 =>
    (xaR M 23 v3 v2).bind fun v4 =>
    (xob M v4 2).bind fun u5 =>
    (fC_begin M u5 a0 a1 a2).bind fun q6 =>
    (xgI q6 (some this) 3 4).bind fun v7 =>
    (xpI q6 (some this) 3 4 (v7 + (1 : Int32))).bind fun M8 =>
    some (v2, M8))
  else
  some ((-1 : Int32), M)
set_option maxRecDepth 20000 in
theorem TfD_addCache {M M' : xMem} {r : Int32} (this : xId) (a0 : Int32) (a1 : Int32) (a2 : Int32) (h : fD_addCache M this a0 a1 a2 = some (r, M')) : xrun none 3 12 0 ([some (.inr (.inr (some this))), some (.inl a0), some (.inl a1), some (.inl a2), none]) ([]) M (some (.inl r), M') := by
  unfold fD_addCache at h
  refine xr_aload_n (pc' := 1) rfl rfl rfl ?_
  obtain ⟨v1, hv1, h⟩ := xbind h
  refine xr_getI (pc' := 4) rfl (by decide) hv1 rfl ?_
  refine xr_iconst (v := 4) (pc' := 5) rfl (by decide) rfl ?_
  rcases xite h with ⟨hc, h⟩ | ⟨hc, h⟩
  · refine xr_icmp_lt_t (t := 10) rfl hc ?_
    refine xr_aload_n (pc' := 11) rfl rfl rfl ?_
    obtain ⟨v2, hv2, h⟩ := xbind h
    refine xr_getI (pc' := 14) rfl (by decide) hv2 rfl ?_
    refine xr_istore (pc' := 16) rfl rfl rfl ?_
    refine xr_aload_n (pc' := 17) rfl rfl rfl ?_
    obtain ⟨v3, hv3, h⟩ := xbind h
    refine xr_getR (pc' := 20) rfl (by decide) hv3 rfl ?_
    refine xr_iload (pc' := 22) rfl rfl rfl ?_
    obtain ⟨v4, hv4, h⟩ := xbind h
    refine xr_aR (pc' := 23) rfl hv4 rfl ?_
    refine xr_iload_n (pc' := 24) rfl rfl rfl ?_
    refine xr_iload_n (pc' := 25) rfl rfl rfl ?_
    refine xr_iload_n (pc' := 26) rfl rfl rfl ?_
    obtain ⟨u5, hu5, h⟩ := xbind h
    obtain ⟨q6, hq6, h⟩ := xbind h
    refine xr_callV (pc' := 29) (C := 2) (As := [_, _, _]) (rest := _) rfl hu5 mC_13 mL_13 rfl (Nat.le_of_ble_eq_true rfl) rfl (Nat.le_of_ble_eq_true rfl) (TfC_begin _ _ _ _ hq6) rfl ?_
    refine xr_aload_n (pc' := 30) rfl rfl rfl ?_
    refine xr_dup_a (pc' := 31) rfl rfl ?_
    obtain ⟨v7, hv7, h⟩ := xbind h
    refine xr_getI (pc' := 34) rfl (by decide) hv7 rfl ?_
    refine xr_iconst (v := 1) (pc' := 35) rfl (by decide) rfl ?_
    refine xr_iadd (pc' := 36) rfl rfl ?_
    obtain ⟨M8, hM8, h⟩ := xbind h
    refine xr_putI (pc' := 39) rfl (by decide) hM8 rfl ?_
    refine xr_iload (pc' := 41) rfl rfl rfl ?_
    obtain ⟨rfl, rfl⟩ := xsome2 h
    exact xr_iret rfl mR_12
  · refine xr_icmp_lt_f (pc' := 8) rfl hc rfl ?_
    refine xr_iconst (v := -1) (pc' := 9) rfl (by decide) rfl ?_
    obtain ⟨rfl, rfl⟩ := xsome2 h
    exact xr_iret rfl mR_12
-- 10: MagazineDepot.cache(III)I
def fX_cache (M : xMem) (this : xId) (a0 : Int32) (a1 : Int32) (a2 : Int32) : Option (Int32 × xMem) :=
  if a0 < 0 then (
    some ((-1 : Int32), M))
  else
  if (6 : Int32) ≤ a0 then (
    some ((-1 : Int32), M))
  else
  (fX_isMeasure M a1 (16 : Int32) (400 : Int32)).bind fun q1 =>
  if q1.1 = 0 then (
    some ((-1 : Int32), q1.2))
  else
  (fX_isMeasure q1.2 a2 (8 : Int32) (64 : Int32)).bind fun q2 =>
  if q2.1 = 0 then (
    some ((-1 : Int32), q2.2))
  else
  (xgR q2.2 (some this) 7 0).bind fun v3 =>
  (xob q2.2 v3 3).bind fun u4 =>
  (fD_addCache q2.2 u4 a0 a1 a2).bind fun q5 =>
  if q5.1 = (-1 : Int32) then (
    some ((-3 : Int32), q5.2))
  else
  some (q5.1, q5.2)
set_option maxRecDepth 20000 in
theorem TfX_cache {M M' : xMem} {r : Int32} (this : xId) (a0 : Int32) (a1 : Int32) (a2 : Int32) (h : fX_cache M this a0 a1 a2 = some (r, M')) : xrun none 4 10 0 ([some (.inr (.inr (some this))), some (.inl a0), some (.inl a1), some (.inl a2), none]) ([]) M (some (.inl r), M') := by
  unfold fX_cache at h
  refine xr_iload_n (pc' := 1) rfl rfl rfl ?_
  rcases xite h with ⟨hc, h⟩ | ⟨hc, h⟩
  · refine xr_if_lt_t (t := 33) rfl hc ?_
    refine xr_iconst (v := -1) (pc' := 34) rfl (by decide) rfl ?_
    obtain ⟨rfl, rfl⟩ := xsome2 h
    exact xr_iret rfl mR_10
  · refine xr_if_lt_f (pc' := 4) rfl hc rfl ?_
    refine xr_iload_n (pc' := 5) rfl rfl rfl ?_
    refine xr_bipush (v := 6) (pc' := 7) rfl (by decide) rfl ?_
    rcases xite h with ⟨hc, h⟩ | ⟨hc, h⟩
    · refine xr_icmp_ge_t (t := 33) rfl hc ?_
      refine xr_iconst (v := -1) (pc' := 34) rfl (by decide) rfl ?_
      obtain ⟨rfl, rfl⟩ := xsome2 h
      exact xr_iret rfl mR_10
    · refine xr_icmp_ge_f (pc' := 10) rfl hc rfl ?_
      refine xr_iload_n (pc' := 11) rfl rfl rfl ?_
      refine xr_bipush (v := 16) (pc' := 13) rfl (by decide) rfl ?_
      refine xr_sipush (v := 400) (pc' := 16) rfl (by decide) rfl ?_
      obtain ⟨q1, hq1, h⟩ := xbind h
      refine xr_callS (pc' := 19) (As := [_, _, _]) (rest := _) rfl (by decide) mL_11 rfl (Nat.le_of_ble_eq_true rfl) rfl (Nat.le_of_ble_eq_true rfl) (TfX_isMeasure _ _ _ hq1) rfl ?_
      rcases xite h with ⟨hc, h⟩ | ⟨hc, h⟩
      · refine xr_if_eq_t (t := 33) rfl hc ?_
        refine xr_iconst (v := -1) (pc' := 34) rfl (by decide) rfl ?_
        obtain ⟨rfl, rfl⟩ := xsome2 h
        exact xr_iret rfl mR_10
      · refine xr_if_eq_f (pc' := 22) rfl hc rfl ?_
        refine xr_iload_n (pc' := 23) rfl rfl rfl ?_
        refine xr_bipush (v := 8) (pc' := 25) rfl (by decide) rfl ?_
        refine xr_bipush (v := 64) (pc' := 27) rfl (by decide) rfl ?_
        obtain ⟨q2, hq2, h⟩ := xbind h
        refine xr_callS (pc' := 30) (As := [_, _, _]) (rest := _) rfl (by decide) mL_11 rfl (Nat.le_of_ble_eq_true rfl) rfl (Nat.le_of_ble_eq_true rfl) (TfX_isMeasure _ _ _ hq2) rfl ?_
        rcases xite h with ⟨hc, h⟩ | ⟨hc, h⟩
        · refine xr_if_ne_f (pc' := 33) rfl hc rfl ?_
          refine xr_iconst (v := -1) (pc' := 34) rfl (by decide) rfl ?_
          obtain ⟨rfl, rfl⟩ := xsome2 h
          exact xr_iret rfl mR_10
        · refine xr_if_ne_t (t := 35) rfl hc ?_
          refine xr_aload_n (pc' := 36) rfl rfl rfl ?_
          obtain ⟨v3, hv3, h⟩ := xbind h
          refine xr_getR (pc' := 39) rfl (by decide) hv3 rfl ?_
          refine xr_iload_n (pc' := 40) rfl rfl rfl ?_
          refine xr_iload_n (pc' := 41) rfl rfl rfl ?_
          refine xr_iload_n (pc' := 42) rfl rfl rfl ?_
          obtain ⟨u4, hu4, h⟩ := xbind h
          obtain ⟨q5, hq5, h⟩ := xbind h
          refine xr_callV (pc' := 45) (C := 3) (As := [_, _, _]) (rest := _) rfl hu4 mC_12 mL_12 rfl (Nat.le_of_ble_eq_true rfl) rfl (Nat.le_of_ble_eq_true rfl) (TfD_addCache _ _ _ _ hq5) rfl ?_
          refine xr_istore (pc' := 47) rfl rfl rfl ?_
          refine xr_iload (pc' := 49) rfl rfl rfl ?_
          refine xr_iconst (v := -1) (pc' := 50) rfl (by decide) rfl ?_
          rcases xite h with ⟨hc, h⟩ | ⟨hc, h⟩
          · refine xr_icmp_ne_f (pc' := 53) rfl hc rfl ?_
            refine xr_bipush (v := -3) (pc' := 55) rfl (by decide) rfl ?_
            refine xr_goto (t := 60) rfl ?_
            obtain ⟨rfl, rfl⟩ := xsome2 h
            exact xr_iret rfl mR_10
          · refine xr_icmp_ne_t (t := 58) rfl hc ?_
            refine xr_iload (pc' := 60) rfl rfl rfl ?_
            obtain ⟨rfl, rfl⟩ := xsome2 h
            exact xr_iret rfl mR_10
-- 18: MagazineDepot$Depot.cacheAt(I)LMagazineDepot$Cache;
def fD_cacheAt_26  (M : xMem)   : Option (Option xId × xMem) :=
  some (none, M)
set_option maxRecDepth 20000 in
theorem TfD_cacheAt_26 {M' : xMem} {r : Option xId}  (M : xMem)   (o0 : Option xId) (o1 : Int32) (h : fD_cacheAt_26  M   = some (r, M')) : xrun none 0 18 26 ([some (.inr (.inr o0)), some (.inl o1)]) ([]) M (some (.inr (.inr r)), M') := by
  unfold fD_cacheAt_26 at h
  refine xr_aconst_null (pc' := 27) rfl rfl ?_
  obtain ⟨rfl, rfl⟩ := xsome2 h
  exact xr_aretO rfl mR_18
def fD_cacheAt (M : xMem) (this : xId) (a0 : Int32) : Option (Option xId × xMem) :=
  if a0 < 0 then (
    fD_cacheAt_26  M  )
  else
  (xgI M (some this) 3 4).bind fun v1 =>
  if v1 ≤ a0 then (
    fD_cacheAt_26  M  )
  else
  if (4 : Int32) ≤ a0 then (
    fD_cacheAt_26  M  )
  else
  (xgR M (some this) 3 1).bind fun v2 =>
  (xaR M 23 v2 a0).bind fun v3 =>
  some (v3, M)
set_option maxRecDepth 20000 in
theorem TfD_cacheAt {M M' : xMem} {r : Option xId} (this : xId) (a0 : Int32) (h : fD_cacheAt M this a0 = some (r, M')) : xrun none 0 18 0 ([some (.inr (.inr (some this))), some (.inl a0)]) ([]) M (some (.inr (.inr r)), M') := by
  unfold fD_cacheAt at h
  refine xr_iload_n (pc' := 1) rfl rfl rfl ?_
  rcases xite h with ⟨hc, h⟩ | ⟨hc, h⟩
  · refine xr_if_lt_t (t := 26) rfl hc ?_
    exact TfD_cacheAt_26   M   _ _ h
  · refine xr_if_lt_f (pc' := 4) rfl hc rfl ?_
    refine xr_iload_n (pc' := 5) rfl rfl rfl ?_
    refine xr_aload_n (pc' := 6) rfl rfl rfl ?_
    obtain ⟨v1, hv1, h⟩ := xbind h
    refine xr_getI (pc' := 9) rfl (by decide) hv1 rfl ?_
    rcases xite h with ⟨hc, h⟩ | ⟨hc, h⟩
    · refine xr_icmp_ge_t (t := 26) rfl hc ?_
      exact TfD_cacheAt_26   M   _ _ h
    · refine xr_icmp_ge_f (pc' := 12) rfl hc rfl ?_
      refine xr_iload_n (pc' := 13) rfl rfl rfl ?_
      refine xr_iconst (v := 4) (pc' := 14) rfl (by decide) rfl ?_
      rcases xite h with ⟨hc, h⟩ | ⟨hc, h⟩
      · refine xr_icmp_ge_t (t := 26) rfl hc ?_
        exact TfD_cacheAt_26   M   _ _ h
      · refine xr_icmp_ge_f (pc' := 17) rfl hc rfl ?_
        refine xr_aload_n (pc' := 18) rfl rfl rfl ?_
        obtain ⟨v2, hv2, h⟩ := xbind h
        refine xr_getR (pc' := 21) rfl (by decide) hv2 rfl ?_
        refine xr_iload_n (pc' := 22) rfl rfl rfl ?_
        obtain ⟨v3, hv3, h⟩ := xbind h
        refine xr_aR (pc' := 23) rfl hv3 rfl ?_
        refine xr_goto (t := 27) rfl ?_
        obtain ⟨rfl, rfl⟩ := xsome2 h
        exact xr_aretO rfl mR_18
-- 17: MagazineDepot.limit(II)I
def fX_limit (M : xMem) (this : xId) (a0 : Int32) (a1 : Int32) : Option (Int32 × xMem) :=
  (xgR M (some this) 7 0).bind fun v1 =>
  (xob M v1 3).bind fun u2 =>
  (fD_cacheAt M u2 a0).bind fun q3 =>
  if q3.1 = none then (
    some ((-1 : Int32), q3.2))
  else
  if a1 < 0 then (
    some ((-1 : Int32), q3.2))
  else
  if a1 ≤ (99 : Int32) then (
    (xgI q3.2 q3.1 2 5).bind fun v4 =>
    (xpI q3.2 q3.1 2 5 a1).bind fun M5 =>
    some (v4, M5))
  else
  some ((-1 : Int32), q3.2)
set_option maxRecDepth 20000 in
theorem TfX_limit {M M' : xMem} {r : Int32} (this : xId) (a0 : Int32) (a1 : Int32) (h : fX_limit M this a0 a1 = some (r, M')) : xrun none 1 17 0 ([some (.inr (.inr (some this))), some (.inl a0), some (.inl a1), none, none]) ([]) M (some (.inl r), M') := by
  unfold fX_limit at h
  refine xr_aload_n (pc' := 1) rfl rfl rfl ?_
  obtain ⟨v1, hv1, h⟩ := xbind h
  refine xr_getR (pc' := 4) rfl (by decide) hv1 rfl ?_
  refine xr_iload_n (pc' := 5) rfl rfl rfl ?_
  obtain ⟨u2, hu2, h⟩ := xbind h
  obtain ⟨q3, hq3, h⟩ := xbind h
  refine xr_callV (pc' := 8) (C := 3) (As := [_]) (rest := _) rfl hu2 mC_18 mL_18 rfl (Nat.le_of_ble_eq_true rfl) rfl (Nat.le_of_ble_eq_true rfl) (TfD_cacheAt _ _ hq3) rfl ?_
  refine xr_astore_n (pc' := 9) rfl rfl rfl ?_
  refine xr_aload_n (pc' := 10) rfl rfl rfl ?_
  rcases xite h with ⟨hc, h⟩ | ⟨hc, h⟩
  · refine xr_ifnull_n (t := 23) rfl hc ?_
    refine xr_iconst (v := -1) (pc' := 24) rfl (by decide) rfl ?_
    obtain ⟨rfl, rfl⟩ := xsome2 h
    exact xr_iret rfl mR_17
  · refine xr_ifnull_s (pc' := 13) rfl hc rfl ?_
    refine xr_iload_n (pc' := 14) rfl rfl rfl ?_
    rcases xite h with ⟨hc, h⟩ | ⟨hc, h⟩
    · refine xr_if_lt_t (t := 23) rfl hc ?_
      refine xr_iconst (v := -1) (pc' := 24) rfl (by decide) rfl ?_
      obtain ⟨rfl, rfl⟩ := xsome2 h
      exact xr_iret rfl mR_17
    · refine xr_if_lt_f (pc' := 17) rfl hc rfl ?_
      refine xr_iload_n (pc' := 18) rfl rfl rfl ?_
      refine xr_bipush (v := 99) (pc' := 20) rfl (by decide) rfl ?_
      rcases xite h with ⟨hc, h⟩ | ⟨hc, h⟩
      · refine xr_icmp_le_t (t := 25) rfl hc ?_
        refine xr_aload_n (pc' := 26) rfl rfl rfl ?_
        obtain ⟨v4, hv4, h⟩ := xbind h
        refine xr_getI (pc' := 29) rfl (by decide) hv4 rfl ?_
        refine xr_istore (pc' := 31) rfl rfl rfl ?_
        refine xr_aload_n (pc' := 32) rfl rfl rfl ?_
        refine xr_iload_n (pc' := 33) rfl rfl rfl ?_
        obtain ⟨M5, hM5, h⟩ := xbind h
        refine xr_putI (pc' := 36) rfl (by decide) hM5 rfl ?_
        refine xr_iload (pc' := 38) rfl rfl rfl ?_
        obtain ⟨rfl, rfl⟩ := xsome2 h
        exact xr_iret rfl mR_17
      · refine xr_icmp_le_f (pc' := 23) rfl hc rfl ?_
        refine xr_iconst (v := -1) (pc' := 24) rfl (by decide) rfl ?_
        obtain ⟨rfl, rfl⟩ := xsome2 h
        exact xr_iret rfl mR_17
-- 20: MagazineDepot.isProcessor(I)Z
def fX_isProcessor (M : xMem) (a0 : Int32) : Option (Int32 × xMem) :=
  if a0 < 0 then (
    some ((0 : Int32), M))
  else
  if (4 : Int32) ≤ a0 then (
    some ((0 : Int32), M))
  else
  some ((1 : Int32), M)
set_option maxRecDepth 20000 in
theorem TfX_isProcessor {M M' : xMem} {r : Int32} (a0 : Int32) (h : fX_isProcessor M a0 = some (r, M')) : xrun none 0 20 0 ([some (.inl a0)]) ([]) M (some (.inl r), M') := by
  unfold fX_isProcessor at h
  refine xr_iload_n (pc' := 1) rfl rfl rfl ?_
  rcases xite h with ⟨hc, h⟩ | ⟨hc, h⟩
  · refine xr_if_lt_t (t := 13) rfl hc ?_
    refine xr_iconst (v := 0) (pc' := 14) rfl (by decide) rfl ?_
    obtain ⟨rfl, rfl⟩ := xsome2 h
    exact xr_zret rfl mR_20 (by decide)
  · refine xr_if_lt_f (pc' := 4) rfl hc rfl ?_
    refine xr_iload_n (pc' := 5) rfl rfl rfl ?_
    refine xr_iconst (v := 4) (pc' := 6) rfl (by decide) rfl ?_
    rcases xite h with ⟨hc, h⟩ | ⟨hc, h⟩
    · refine xr_icmp_ge_t (t := 13) rfl hc ?_
      refine xr_iconst (v := 0) (pc' := 14) rfl (by decide) rfl ?_
      obtain ⟨rfl, rfl⟩ := xsome2 h
      exact xr_zret rfl mR_20 (by decide)
    · refine xr_icmp_ge_f (pc' := 9) rfl hc rfl ?_
      refine xr_iconst (v := 1) (pc' := 10) rfl (by decide) rfl ?_
      refine xr_goto (t := 14) rfl ?_
      obtain ⟨rfl, rfl⟩ := xsome2 h
      exact xr_zret rfl mR_20 (by decide)
-- 23: MagazineDepot$Depot.magazineAt(I)LMagazineDepot$Pile;
def fD_magazineAt_28  (M : xMem)   : Option (Option xId × xMem) :=
  some (none, M)
set_option maxRecDepth 20000 in
theorem TfD_magazineAt_28 {M' : xMem} {r : Option xId}  (M : xMem)   (o0 : Option xId) (o1 : Int32) (h : fD_magazineAt_28  M   = some (r, M')) : xrun none 0 23 28 ([some (.inr (.inr o0)), some (.inl o1)]) ([]) M (some (.inr (.inr r)), M') := by
  unfold fD_magazineAt_28 at h
  refine xr_aconst_null (pc' := 29) rfl rfl ?_
  obtain ⟨rfl, rfl⟩ := xsome2 h
  exact xr_aretO rfl mR_23
def fD_magazineAt (M : xMem) (this : xId) (a0 : Int32) : Option (Option xId × xMem) :=
  if a0 < 0 then (
    fD_magazineAt_28  M  )
  else
  if (24 : Int32) ≤ a0 then (
    fD_magazineAt_28  M  )
  else
  (xgR M (some this) 3 3).bind fun v1 =>
  (xaZ M v1 a0).bind fun v2 =>
  if v2 = 0 then (
    fD_magazineAt_28  M  )
  else
  (xgR M (some this) 3 2).bind fun v3 =>
  (xaR M 24 v3 a0).bind fun v4 =>
  some (v4, M)
set_option maxRecDepth 20000 in
theorem TfD_magazineAt {M M' : xMem} {r : Option xId} (this : xId) (a0 : Int32) (h : fD_magazineAt M this a0 = some (r, M')) : xrun none 0 23 0 ([some (.inr (.inr (some this))), some (.inl a0)]) ([]) M (some (.inr (.inr r)), M') := by
  unfold fD_magazineAt at h
  refine xr_iload_n (pc' := 1) rfl rfl rfl ?_
  rcases xite h with ⟨hc, h⟩ | ⟨hc, h⟩
  · refine xr_if_lt_t (t := 28) rfl hc ?_
    exact TfD_magazineAt_28   M   _ _ h
  · refine xr_if_lt_f (pc' := 4) rfl hc rfl ?_
    refine xr_iload_n (pc' := 5) rfl rfl rfl ?_
    refine xr_bipush (v := 24) (pc' := 7) rfl (by decide) rfl ?_
    rcases xite h with ⟨hc, h⟩ | ⟨hc, h⟩
    · refine xr_icmp_ge_t (t := 28) rfl hc ?_
      exact TfD_magazineAt_28   M   _ _ h
    · refine xr_icmp_ge_f (pc' := 10) rfl hc rfl ?_
      refine xr_aload_n (pc' := 11) rfl rfl rfl ?_
      obtain ⟨v1, hv1, h⟩ := xbind h
      refine xr_getR (pc' := 14) rfl (by decide) hv1 rfl ?_
      refine xr_iload_n (pc' := 15) rfl rfl rfl ?_
      obtain ⟨v2, hv2, h⟩ := xbind h
      refine xr_aZ (pc' := 16) rfl hv2 rfl ?_
      rcases xite h with ⟨hc, h⟩ | ⟨hc, h⟩
      · refine xr_if_eq_t (t := 28) rfl hc ?_
        exact TfD_magazineAt_28   M   _ _ h
      · refine xr_if_eq_f (pc' := 19) rfl hc rfl ?_
        refine xr_aload_n (pc' := 20) rfl rfl rfl ?_
        obtain ⟨v3, hv3, h⟩ := xbind h
        refine xr_getR (pc' := 23) rfl (by decide) hv3 rfl ?_
        refine xr_iload_n (pc' := 24) rfl rfl rfl ?_
        obtain ⟨v4, hv4, h⟩ := xbind h
        refine xr_aR (pc' := 25) rfl hv4 rfl ?_
        refine xr_goto (t := 29) rfl ?_
        obtain ⟨rfl, rfl⟩ := xsome2 h
        exact xr_aretO rfl mR_23
-- 22: MagazineDepot$Depot.holdsSome(I)Z
def fD_holdsSome (M : xMem) (this : xId) (a0 : Int32) : Option (Int32 × xMem) :=
  (xob M (some this) 3).bind fun u1 =>
  (fD_magazineAt M u1 a0).bind fun q2 =>
  if q2.1 = none then (
    some ((0 : Int32), q2.2))
  else
  (xgI q2.2 q2.1 4 1).bind fun v3 =>
  if v3 ≤ 0 then (
    some ((0 : Int32), q2.2))
  else
  some ((1 : Int32), q2.2)
set_option maxRecDepth 20000 in
theorem TfD_holdsSome {M M' : xMem} {r : Int32} (this : xId) (a0 : Int32) (h : fD_holdsSome M this a0 = some (r, M')) : xrun none 1 22 0 ([some (.inr (.inr (some this))), some (.inl a0), none]) ([]) M (some (.inl r), M') := by
  unfold fD_holdsSome at h
  refine xr_aload_n (pc' := 1) rfl rfl rfl ?_
  refine xr_iload_n (pc' := 2) rfl rfl rfl ?_
  obtain ⟨u1, hu1, h⟩ := xbind h
  obtain ⟨q2, hq2, h⟩ := xbind h
  refine xr_callV (pc' := 5) (C := 3) (As := [_]) (rest := _) rfl hu1 mC_23 mL_23 rfl (Nat.le_of_ble_eq_true rfl) rfl (Nat.le_of_ble_eq_true rfl) (TfD_magazineAt _ _ hq2) rfl ?_
  refine xr_astore_n (pc' := 6) rfl rfl rfl ?_
  refine xr_aload_n (pc' := 7) rfl rfl rfl ?_
  rcases xite h with ⟨hc, h⟩ | ⟨hc, h⟩
  · refine xr_ifnull_n (t := 21) rfl hc ?_
    refine xr_iconst (v := 0) (pc' := 22) rfl (by decide) rfl ?_
    obtain ⟨rfl, rfl⟩ := xsome2 h
    exact xr_zret rfl mR_22 (by decide)
  · refine xr_ifnull_s (pc' := 10) rfl hc rfl ?_
    refine xr_aload_n (pc' := 11) rfl rfl rfl ?_
    obtain ⟨v3, hv3, h⟩ := xbind h
    refine xr_getI (pc' := 14) rfl (by decide) hv3 rfl ?_
    rcases xite h with ⟨hc, h⟩ | ⟨hc, h⟩
    · refine xr_if_le_t (t := 21) rfl hc ?_
      refine xr_iconst (v := 0) (pc' := 22) rfl (by decide) rfl ?_
      obtain ⟨rfl, rfl⟩ := xsome2 h
      exact xr_zret rfl mR_22 (by decide)
    · refine xr_if_le_f (pc' := 17) rfl hc rfl ?_
      refine xr_iconst (v := 1) (pc' := 18) rfl (by decide) rfl ?_
      refine xr_goto (t := 22) rfl ?_
      obtain ⟨rfl, rfl⟩ := xsome2 h
      exact xr_zret rfl mR_22 (by decide)
-- 25: MagazineDepot$Cache.exchange(I)V
def fC_exchange (M : xMem) (this : xId) (a0 : Int32) : Option xMem :=
  (fX_isProcessor M a0).bind fun q1 =>
  if q1.1 = 0 then (
    some q1.2)
  else
  (xgR q1.2 (some this) 2 14).bind fun v2 =>
  (xaI q1.2 v2 a0).bind fun v3 =>
  (xgR q1.2 (some this) 2 14).bind fun v4 =>
  (xgR q1.2 (some this) 2 15).bind fun v5 =>
  (xaI q1.2 v5 a0).bind fun v6 =>
  (xuI q1.2 v4 a0 v6).bind fun M7 =>
  (xgR M7 (some this) 2 15).bind fun v8 =>
  (xuI M7 v8 a0 v3).bind fun M9 =>
  some M9
set_option maxRecDepth 20000 in
theorem TfC_exchange {M M' : xMem} (this : xId) (a0 : Int32) (h : fC_exchange M this a0 = some M') : xrun none 1 25 0 ([some (.inr (.inr (some this))), some (.inl a0), none]) ([]) M (none, M') := by
  unfold fC_exchange at h
  refine xr_iload_n (pc' := 1) rfl rfl rfl ?_
  obtain ⟨q1, hq1, h⟩ := xbind h
  refine xr_callS (pc' := 4) (As := [_]) (rest := _) rfl (by decide) mL_20 rfl (Nat.le_of_ble_eq_true rfl) rfl (Nat.le_of_ble_eq_true rfl) (TfX_isProcessor _ hq1) rfl ?_
  rcases xite h with ⟨hc, h⟩ | ⟨hc, h⟩
  · refine xr_if_eq_t (t := 33) rfl hc ?_
    obtain rfl := xsome1 h
    exact xr_ret rfl mR_25
  · refine xr_if_eq_f (pc' := 7) rfl hc rfl ?_
    refine xr_aload_n (pc' := 8) rfl rfl rfl ?_
    obtain ⟨v2, hv2, h⟩ := xbind h
    refine xr_getR (pc' := 11) rfl (by decide) hv2 rfl ?_
    refine xr_iload_n (pc' := 12) rfl rfl rfl ?_
    obtain ⟨v3, hv3, h⟩ := xbind h
    refine xr_aI (pc' := 13) rfl hv3 rfl ?_
    refine xr_istore_n (pc' := 14) rfl rfl rfl ?_
    refine xr_aload_n (pc' := 15) rfl rfl rfl ?_
    obtain ⟨v4, hv4, h⟩ := xbind h
    refine xr_getR (pc' := 18) rfl (by decide) hv4 rfl ?_
    refine xr_iload_n (pc' := 19) rfl rfl rfl ?_
    refine xr_aload_n (pc' := 20) rfl rfl rfl ?_
    obtain ⟨v5, hv5, h⟩ := xbind h
    refine xr_getR (pc' := 23) rfl (by decide) hv5 rfl ?_
    refine xr_iload_n (pc' := 24) rfl rfl rfl ?_
    obtain ⟨v6, hv6, h⟩ := xbind h
    refine xr_aI (pc' := 25) rfl hv6 rfl ?_
    obtain ⟨M7, hM7, h⟩ := xbind h
    refine xr_uI (pc' := 26) rfl hM7 rfl ?_
    refine xr_aload_n (pc' := 27) rfl rfl rfl ?_
    obtain ⟨v8, hv8, h⟩ := xbind h
    refine xr_getR (pc' := 30) rfl (by decide) hv8 rfl ?_
    refine xr_iload_n (pc' := 31) rfl rfl rfl ?_
    refine xr_iload_n (pc' := 32) rfl rfl rfl ?_
    obtain ⟨M9, hM9, h⟩ := xbind h
    refine xr_uI (pc' := 33) rfl hM9 rfl ?_
    obtain rfl := xsome1 h
    exact xr_ret rfl mR_25
-- 26: MagazineDepot$Depot.visit(LMagazineDepot$Cache;)V
def fD_visit (M : xMem) (this : xId) (a0 : Option xId) : Option xMem :=
  (xgI M a0 2 6).bind fun v1 =>
  (xpI M a0 2 6 (v1 + (1 : Int32))).bind fun M2 =>
  (xgI M2 (some this) 3 7).bind fun v3 =>
  (xpI M2 (some this) 3 7 (v3 + (1 : Int32))).bind fun M4 =>
  some M4
set_option maxRecDepth 20000 in
theorem TfD_visit {M M' : xMem} (this : xId) (a0 : Option xId) (h : fD_visit M this a0 = some M') : xrun none 0 26 0 ([some (.inr (.inr (some this))), some (.inr (.inr a0))]) ([]) M (none, M') := by
  unfold fD_visit at h
  refine xr_aload_n (pc' := 1) rfl rfl rfl ?_
  refine xr_dup_a (pc' := 2) rfl rfl ?_
  obtain ⟨v1, hv1, h⟩ := xbind h
  refine xr_getI (pc' := 5) rfl (by decide) hv1 rfl ?_
  refine xr_iconst (v := 1) (pc' := 6) rfl (by decide) rfl ?_
  refine xr_iadd (pc' := 7) rfl rfl ?_
  obtain ⟨M2, hM2, h⟩ := xbind h
  refine xr_putI (pc' := 10) rfl (by decide) hM2 rfl ?_
  refine xr_aload_n (pc' := 11) rfl rfl rfl ?_
  refine xr_dup_a (pc' := 12) rfl rfl ?_
  obtain ⟨v3, hv3, h⟩ := xbind h
  refine xr_getI (pc' := 15) rfl (by decide) hv3 rfl ?_
  refine xr_iconst (v := 1) (pc' := 16) rfl (by decide) rfl ?_
  refine xr_iadd (pc' := 17) rfl rfl ?_
  obtain ⟨M4, hM4, h⟩ := xbind h
  refine xr_putI (pc' := 20) rfl (by decide) hM4 rfl ?_
  obtain rfl := xsome1 h
  exact xr_ret rfl mR_26
-- 27: MagazineDepot$Pile.put(I)V
def fP_put (M : xMem) (this : xId) (a0 : Int32) : Option xMem :=
  (xgI M (some this) 4 1).bind fun v1 =>
  (xgR M (some this) 4 0).bind fun v2 =>
  (xal M v2).bind fun v3 =>
  if v3 ≤ v1 then (
    some M)
  else
  (xgR M (some this) 4 0).bind fun v4 =>
  (xgI M (some this) 4 1).bind fun v5 =>
  (xuI M v4 v5 a0).bind fun M6 =>
  (xgI M6 (some this) 4 1).bind fun v7 =>
  (xpI M6 (some this) 4 1 (v7 + (1 : Int32))).bind fun M8 =>
  some M8
set_option maxRecDepth 20000 in
theorem TfP_put {M M' : xMem} (this : xId) (a0 : Int32) (h : fP_put M this a0 = some M') : xrun none 0 27 0 ([some (.inr (.inr (some this))), some (.inl a0)]) ([]) M (none, M') := by
  unfold fP_put at h
  refine xr_aload_n (pc' := 1) rfl rfl rfl ?_
  obtain ⟨v1, hv1, h⟩ := xbind h
  refine xr_getI (pc' := 4) rfl (by decide) hv1 rfl ?_
  refine xr_aload_n (pc' := 5) rfl rfl rfl ?_
  obtain ⟨v2, hv2, h⟩ := xbind h
  refine xr_getR (pc' := 8) rfl (by decide) hv2 rfl ?_
  obtain ⟨v3, hv3, h⟩ := xbind h
  refine xr_alen (pc' := 9) rfl hv3 rfl ?_
  rcases xite h with ⟨hc, h⟩ | ⟨hc, h⟩
  · refine xr_icmp_ge_t (t := 32) rfl hc ?_
    obtain rfl := xsome1 h
    exact xr_ret rfl mR_27
  · refine xr_icmp_ge_f (pc' := 12) rfl hc rfl ?_
    refine xr_aload_n (pc' := 13) rfl rfl rfl ?_
    obtain ⟨v4, hv4, h⟩ := xbind h
    refine xr_getR (pc' := 16) rfl (by decide) hv4 rfl ?_
    refine xr_aload_n (pc' := 17) rfl rfl rfl ?_
    obtain ⟨v5, hv5, h⟩ := xbind h
    refine xr_getI (pc' := 20) rfl (by decide) hv5 rfl ?_
    refine xr_iload_n (pc' := 21) rfl rfl rfl ?_
    obtain ⟨M6, hM6, h⟩ := xbind h
    refine xr_uI (pc' := 22) rfl hM6 rfl ?_
    refine xr_aload_n (pc' := 23) rfl rfl rfl ?_
    refine xr_dup_a (pc' := 24) rfl rfl ?_
    obtain ⟨v7, hv7, h⟩ := xbind h
    refine xr_getI (pc' := 27) rfl (by decide) hv7 rfl ?_
    refine xr_iconst (v := 1) (pc' := 28) rfl (by decide) rfl ?_
    refine xr_iadd (pc' := 29) rfl rfl ?_
    obtain ⟨M8, hM8, h⟩ := xbind h
    refine xr_putI (pc' := 32) rfl (by decide) hM8 rfl ?_
    obtain rfl := xsome1 h
    exact xr_ret rfl mR_27
-- 29: MagazineDepot$Pile.takeLatest()I
def fP_takeLatest (M : xMem) (this : xId) : Option (Int32 × xMem) :=
  (xgI M (some this) 4 1).bind fun v1 =>
  if v1 = 0 then (
    some ((-1 : Int32), M))
  else
  (xgI M (some this) 4 1).bind fun v2 =>
  (xpI M (some this) 4 1 (v2 - (1 : Int32))).bind fun M3 =>
  (xgR M3 (some this) 4 0).bind fun v4 =>
  (xgI M3 (some this) 4 1).bind fun v5 =>
  (xaI M3 v4 v5).bind fun v6 =>
  some (v6, M3)
set_option maxRecDepth 20000 in
theorem TfP_takeLatest {M M' : xMem} {r : Int32} (this : xId) (h : fP_takeLatest M this = some (r, M')) : xrun none 0 29 0 ([some (.inr (.inr (some this)))]) ([]) M (some (.inl r), M') := by
  unfold fP_takeLatest at h
  refine xr_aload_n (pc' := 1) rfl rfl rfl ?_
  obtain ⟨v1, hv1, h⟩ := xbind h
  refine xr_getI (pc' := 4) rfl (by decide) hv1 rfl ?_
  rcases xite h with ⟨hc, h⟩ | ⟨hc, h⟩
  · refine xr_if_ne_f (pc' := 7) rfl hc rfl ?_
    refine xr_iconst (v := -1) (pc' := 8) rfl (by decide) rfl ?_
    obtain ⟨rfl, rfl⟩ := xsome2 h
    exact xr_iret rfl mR_29
  · refine xr_if_ne_t (t := 9) rfl hc ?_
    refine xr_aload_n (pc' := 10) rfl rfl rfl ?_
    refine xr_dup_a (pc' := 11) rfl rfl ?_
    obtain ⟨v2, hv2, h⟩ := xbind h
    refine xr_getI (pc' := 14) rfl (by decide) hv2 rfl ?_
    refine xr_iconst (v := 1) (pc' := 15) rfl (by decide) rfl ?_
    refine xr_isub (pc' := 16) rfl rfl ?_
    obtain ⟨M3, hM3, h⟩ := xbind h
    refine xr_putI (pc' := 19) rfl (by decide) hM3 rfl ?_
    refine xr_aload_n (pc' := 20) rfl rfl rfl ?_
    obtain ⟨v4, hv4, h⟩ := xbind h
    refine xr_getR (pc' := 23) rfl (by decide) hv4 rfl ?_
    refine xr_aload_n (pc' := 24) rfl rfl rfl ?_
    obtain ⟨v5, hv5, h⟩ := xbind h
    refine xr_getI (pc' := 27) rfl (by decide) hv5 rfl ?_
    obtain ⟨v6, hv6, h⟩ := xbind h
    refine xr_aI (pc' := 28) rfl hv6 rfl ?_
    obtain ⟨rfl, rfl⟩ := xsome2 h
    exact xr_iret rfl mR_29
-- 28: MagazineDepot$Cache.fetchFull()I
def fC_fetchFull (M : xMem) (this : xId) : Option (Int32 × xMem) :=
  (xgR M (some this) 2 16).bind fun v1 =>
  (xob M v1 4).bind fun u2 =>
  (fP_takeLatest M u2 ).bind fun q3 =>
  (xgI q3.2 (some this) 2 8).bind fun v4 =>
  (xgR q3.2 (some this) 2 16).bind fun v5 =>
  (xgI q3.2 v5 4 1).bind fun v6 =>
  (xpI q3.2 (some this) 2 8 (if v6 < v4 then v6 else v4)).bind fun M7 =>
  some (q3.1, M7)
set_option maxRecDepth 20000 in
theorem TfC_fetchFull {M M' : xMem} {r : Int32} (this : xId) (h : fC_fetchFull M this = some (r, M')) : xrun none 1 28 0 ([some (.inr (.inr (some this))), none]) ([]) M (some (.inl r), M') := by
  unfold fC_fetchFull at h
  refine xr_aload_n (pc' := 1) rfl rfl rfl ?_
  obtain ⟨v1, hv1, h⟩ := xbind h
  refine xr_getR (pc' := 4) rfl (by decide) hv1 rfl ?_
  obtain ⟨u2, hu2, h⟩ := xbind h
  obtain ⟨q3, hq3, h⟩ := xbind h
  refine xr_callV (pc' := 7) (C := 4) (As := []) (rest := _) rfl hu2 mC_29 mL_29 rfl (Nat.le_of_ble_eq_true rfl) rfl (Nat.le_of_ble_eq_true rfl) (TfP_takeLatest _  hq3) rfl ?_
  refine xr_istore_n (pc' := 8) rfl rfl rfl ?_
  refine xr_aload_n (pc' := 9) rfl rfl rfl ?_
  refine xr_aload_n (pc' := 10) rfl rfl rfl ?_
  obtain ⟨v4, hv4, h⟩ := xbind h
  refine xr_getI (pc' := 13) rfl (by decide) hv4 rfl ?_
  refine xr_aload_n (pc' := 14) rfl rfl rfl ?_
  obtain ⟨v5, hv5, h⟩ := xbind h
  refine xr_getR (pc' := 17) rfl (by decide) hv5 rfl ?_
  obtain ⟨v6, hv6, h⟩ := xbind h
  refine xr_getI (pc' := 20) rfl (by decide) hv6 rfl ?_
  refine xr_min (pc' := 23) rfl (Nat.le_of_ble_eq_true rfl) (Nat.le_of_ble_eq_true rfl) rfl ?_
  obtain ⟨M7, hM7, h⟩ := xbind h
  refine xr_putI (pc' := 26) rfl (by decide) hM7 rfl ?_
  refine xr_iload_n (pc' := 27) rfl rfl rfl ?_
  obtain ⟨rfl, rfl⟩ := xsome2 h
  exact xr_iret rfl mR_28
-- 24: MagazineDepot$Depot.loadSome(LMagazineDepot$Cache;I)V
def fD_loadSome_59  (M : xMem) (l1 : Option xId) (l2 : Int32)  : Option xMem :=
  (xgR M l1 2 15).bind fun v18 =>
  (xgR M l1 2 14).bind fun v19 =>
  (xaI M v19 l2).bind fun v20 =>
  (xuI M v18 l2 v20).bind fun M21 =>
  (xgR M21 l1 2 14).bind fun v22 =>
  (xob M21 l1 2).bind fun u23 =>
  (fC_fetchFull M21 u23 ).bind fun q24 =>
  (xuI q24.2 v22 l2 q24.1).bind fun M25 =>
  some M25
set_option maxRecDepth 20000 in
theorem TfD_loadSome_59 {M' : xMem}  (M : xMem) (l1 : Option xId) (l2 : Int32)  (o0 : Option xId) (h : fD_loadSome_59  M l1 l2  = some M') : xrun none 2 24 59 ([some (.inr (.inr o0)), some (.inr (.inr l1)), some (.inl l2)]) ([]) M (none, M') := by
  unfold fD_loadSome_59 at h
  refine xr_aload_n (pc' := 60) rfl rfl rfl ?_
  obtain ⟨v18, hv18, h⟩ := xbind h
  refine xr_getR (pc' := 63) rfl (by decide) hv18 rfl ?_
  refine xr_iload_n (pc' := 64) rfl rfl rfl ?_
  refine xr_aload_n (pc' := 65) rfl rfl rfl ?_
  obtain ⟨v19, hv19, h⟩ := xbind h
  refine xr_getR (pc' := 68) rfl (by decide) hv19 rfl ?_
  refine xr_iload_n (pc' := 69) rfl rfl rfl ?_
  obtain ⟨v20, hv20, h⟩ := xbind h
  refine xr_aI (pc' := 70) rfl hv20 rfl ?_
  obtain ⟨M21, hM21, h⟩ := xbind h
  refine xr_uI (pc' := 71) rfl hM21 rfl ?_
  refine xr_aload_n (pc' := 72) rfl rfl rfl ?_
  obtain ⟨v22, hv22, h⟩ := xbind h
  refine xr_getR (pc' := 75) rfl (by decide) hv22 rfl ?_
  refine xr_iload_n (pc' := 76) rfl rfl rfl ?_
  refine xr_aload_n (pc' := 77) rfl rfl rfl ?_
  obtain ⟨u23, hu23, h⟩ := xbind h
  obtain ⟨q24, hq24, h⟩ := xbind h
  refine xr_callV (pc' := 80) (C := 2) (As := []) (rest := _) rfl hu23 mC_28 mL_28 rfl (Nat.le_of_ble_eq_true rfl) rfl (Nat.le_of_ble_eq_true rfl) (TfC_fetchFull _  hq24) rfl ?_
  obtain ⟨M25, hM25, h⟩ := xbind h
  refine xr_uI (pc' := 81) rfl hM25 rfl ?_
  obtain rfl := xsome1 h
  exact xr_ret rfl mR_24
def fD_loadSome (M : xMem) (this : xId) (a0 : Option xId) (a1 : Int32) : Option xMem :=
  (xgR M a0 2 15).bind fun v1 =>
  (xaI M v1 a1).bind fun v2 =>
  (xob M (some this) 3).bind fun u3 =>
  (fD_holdsSome M u3 v2).bind fun q4 =>
  if q4.1 = 0 then (
    (xgR q4.2 a0 2 16).bind fun v5 =>
    (xgI q4.2 v5 4 1).bind fun v6 =>
    if v6 ≤ 0 then (
      some q4.2)
    else
    (xob q4.2 (some this) 3).bind fun u7 =>
    (fD_visit q4.2 u7 a0).bind fun q8 =>
    (xgR q8 a0 2 15).bind fun v9 =>
    (xaI q8 v9 a1).bind fun v10 =>
    if v10 = (-1 : Int32) then (
      fD_loadSome_59  q8 a0 a1 )
    else
    (xgR q8 a0 2 17).bind fun v11 =>
    (xgR q8 a0 2 15).bind fun v12 =>
    (xaI q8 v12 a1).bind fun v13 =>
    (xob q8 v11 4).bind fun u14 =>
    (fP_put q8 u14 v13).bind fun q15 =>
    fD_loadSome_59  q15 a0 a1 )
  else
  (xob q4.2 a0 2).bind fun u16 =>
  (fC_exchange q4.2 u16 a1).bind fun q17 =>
  some q17
set_option maxRecDepth 20000 in
theorem TfD_loadSome {M M' : xMem} (this : xId) (a0 : Option xId) (a1 : Int32) (h : fD_loadSome M this a0 a1 = some M') : xrun none 2 24 0 ([some (.inr (.inr (some this))), some (.inr (.inr a0)), some (.inl a1)]) ([]) M (none, M') := by
  unfold fD_loadSome at h
  refine xr_aload_n (pc' := 1) rfl rfl rfl ?_
  refine xr_aload_n (pc' := 2) rfl rfl rfl ?_
  obtain ⟨v1, hv1, h⟩ := xbind h
  refine xr_getR (pc' := 5) rfl (by decide) hv1 rfl ?_
  refine xr_iload_n (pc' := 6) rfl rfl rfl ?_
  obtain ⟨v2, hv2, h⟩ := xbind h
  refine xr_aI (pc' := 7) rfl hv2 rfl ?_
  obtain ⟨u3, hu3, h⟩ := xbind h
  obtain ⟨q4, hq4, h⟩ := xbind h
  refine xr_callV (pc' := 10) (C := 3) (As := [_]) (rest := _) rfl hu3 mC_22 mL_22 rfl (Nat.le_of_ble_eq_true rfl) rfl (Nat.le_of_ble_eq_true rfl) (TfD_holdsSome _ _ hq4) rfl ?_
  rcases xite h with ⟨hc, h⟩ | ⟨hc, h⟩
  · refine xr_if_eq_t (t := 21) rfl hc ?_
    refine xr_aload_n (pc' := 22) rfl rfl rfl ?_
    obtain ⟨v5, hv5, h⟩ := xbind h
    refine xr_getR (pc' := 25) rfl (by decide) hv5 rfl ?_
    obtain ⟨v6, hv6, h⟩ := xbind h
    refine xr_getI (pc' := 28) rfl (by decide) hv6 rfl ?_
    rcases xite h with ⟨hc, h⟩ | ⟨hc, h⟩
    · refine xr_if_le_t (t := 81) rfl hc ?_
      obtain rfl := xsome1 h
      exact xr_ret rfl mR_24
    · refine xr_if_le_f (pc' := 31) rfl hc rfl ?_
      refine xr_aload_n (pc' := 32) rfl rfl rfl ?_
      refine xr_aload_n (pc' := 33) rfl rfl rfl ?_
      obtain ⟨u7, hu7, h⟩ := xbind h
      obtain ⟨q8, hq8, h⟩ := xbind h
      refine xr_callV (pc' := 36) (C := 3) (As := [_]) (rest := _) rfl hu7 mC_26 mL_26 rfl (Nat.le_of_ble_eq_true rfl) rfl (Nat.le_of_ble_eq_true rfl) (TfD_visit _ _ hq8) rfl ?_
      refine xr_aload_n (pc' := 37) rfl rfl rfl ?_
      obtain ⟨v9, hv9, h⟩ := xbind h
      refine xr_getR (pc' := 40) rfl (by decide) hv9 rfl ?_
      refine xr_iload_n (pc' := 41) rfl rfl rfl ?_
      obtain ⟨v10, hv10, h⟩ := xbind h
      refine xr_aI (pc' := 42) rfl hv10 rfl ?_
      refine xr_iconst (v := -1) (pc' := 43) rfl (by decide) rfl ?_
      rcases xite h with ⟨hc, h⟩ | ⟨hc, h⟩
      · refine xr_icmp_eq_t (t := 59) rfl hc ?_
        exact TfD_loadSome_59   q8 _ _  _ h
      · refine xr_icmp_eq_f (pc' := 46) rfl hc rfl ?_
        refine xr_aload_n (pc' := 47) rfl rfl rfl ?_
        obtain ⟨v11, hv11, h⟩ := xbind h
        refine xr_getR (pc' := 50) rfl (by decide) hv11 rfl ?_
        refine xr_aload_n (pc' := 51) rfl rfl rfl ?_
        obtain ⟨v12, hv12, h⟩ := xbind h
        refine xr_getR (pc' := 54) rfl (by decide) hv12 rfl ?_
        refine xr_iload_n (pc' := 55) rfl rfl rfl ?_
        obtain ⟨v13, hv13, h⟩ := xbind h
        refine xr_aI (pc' := 56) rfl hv13 rfl ?_
        obtain ⟨u14, hu14, h⟩ := xbind h
        obtain ⟨q15, hq15, h⟩ := xbind h
        refine xr_callV (pc' := 59) (C := 4) (As := [_]) (rest := _) rfl hu14 mC_27 mL_27 rfl (Nat.le_of_ble_eq_true rfl) rfl (Nat.le_of_ble_eq_true rfl) (TfP_put _ _ hq15) rfl ?_
        exact TfD_loadSome_59   q15 _ _  _ h
  · refine xr_if_eq_f (pc' := 13) rfl hc rfl ?_
    refine xr_aload_n (pc' := 14) rfl rfl rfl ?_
    refine xr_iload_n (pc' := 15) rfl rfl rfl ?_
    obtain ⟨u16, hu16, h⟩ := xbind h
    obtain ⟨q17, hq17, h⟩ := xbind h
    refine xr_callV (pc' := 18) (C := 2) (As := [_]) (rest := _) rfl hu16 mC_25 mL_25 rfl (Nat.le_of_ble_eq_true rfl) rfl (Nat.le_of_ble_eq_true rfl) (TfC_exchange _ _ hq17) rfl ?_
    refine xr_goto (t := 81) rfl ?_
    obtain rfl := xsome1 h
    exact xr_ret rfl mR_24
-- 32: MagazineDepot$Arena.firstPageWithFree(I)I
def fA_firstPageWithFree_31 (k2 : xMem → Option xId → Int32 → Int32 → Option (Int32 × xMem)) (M : xMem) (l0 : Option xId) (l1 : Int32) (l2 : Int32)  : Option (Int32 × xMem) :=
  k2 M l0 l1 (l2 + 1)
set_option maxRecDepth 20000 in
theorem TfA_firstPageWithFree_31 {M' : xMem} {r : Int32} (k2 : xMem → Option xId → Int32 → Int32 → Option (Int32 × xMem)) (hk2 : ∀ (M : xMem) (l0 : Option xId) (l1 : Int32) (l2 : Int32) , k2 M l0 l1 l2 = some (r, M') → xrun none 0 32 2 ([some (.inr (.inr l0)), some (.inl l1), some (.inl l2)]) ([]) M (some (.inl r), M')) (M : xMem) (l0 : Option xId) (l1 : Int32) (l2 : Int32)   (h : fA_firstPageWithFree_31 k2 M l0 l1 l2  = some (r, M')) : xrun none 0 32 31 ([some (.inr (.inr l0)), some (.inl l1), some (.inl l2)]) ([]) M (some (.inl r), M') := by
  unfold fA_firstPageWithFree_31 at h
  refine xr_iinc (c := 1) (pc' := 34) rfl (by decide) rfl rfl rfl ?_
  refine xr_goto (t := 2) rfl ?_
  exact hk2 M _ _ _  h
def fA_firstPageWithFree_2  : Nat → xMem → Option xId → Int32 → Int32 → Option (Int32 × xMem)
  | 0, _, _, _, _ => none
  | n + 1, M, l0, l1, l2 =>
    if (32 : Int32) ≤ l2 then (
      some ((-1 : Int32), M))
    else
    (xgR M l0 0 0).bind fun v1 =>
    (xaI M v1 l2).bind fun v2 =>
    if v2 = l1 then (
      (xgR M l0 0 4).bind fun v3 =>
      (xaL M v3 l2).bind fun v4 =>
      if (lg_cmp v4 (0 : Int64)) = 0 then (
        fA_firstPageWithFree_31 (fun M l0 l1 l2 => fA_firstPageWithFree_2  n M l0 l1 l2) M l0 l1 l2 )
      else
      some (l2, M))
    else
    fA_firstPageWithFree_31 (fun M l0 l1 l2 => fA_firstPageWithFree_2  n M l0 l1 l2) M l0 l1 l2 
set_option maxRecDepth 20000 in
theorem TfA_firstPageWithFree_2 {M' : xMem} {r : Int32}  : ∀ (n : Nat) (M : xMem) (l0 : Option xId) (l1 : Int32) (l2 : Int32) , fA_firstPageWithFree_2  n M l0 l1 l2 = some (r, M') → xrun none 0 32 2 ([some (.inr (.inr l0)), some (.inl l1), some (.inl l2)]) ([]) M (some (.inl r), M') := by
  intro n
  induction n with
  | zero => intro M l0 l1 l2  h; unfold fA_firstPageWithFree_2 at h; cases h
  | succ n ih =>
    intro M l0 l1 l2  h
    unfold fA_firstPageWithFree_2 at h
    refine xr_iload_n (pc' := 3) rfl rfl rfl ?_
    refine xr_bipush (v := 32) (pc' := 5) rfl (by decide) rfl ?_
    rcases xite h with ⟨hc, h⟩ | ⟨hc, h⟩
    · refine xr_icmp_ge_t (t := 37) rfl hc ?_
      refine xr_iconst (v := -1) (pc' := 38) rfl (by decide) rfl ?_
      obtain ⟨rfl, rfl⟩ := xsome2 h
      exact xr_iret rfl mR_32
    · refine xr_icmp_ge_f (pc' := 8) rfl hc rfl ?_
      refine xr_aload_n (pc' := 9) rfl rfl rfl ?_
      obtain ⟨v1, hv1, h⟩ := xbind h
      refine xr_getR (pc' := 12) rfl (by decide) hv1 rfl ?_
      refine xr_iload_n (pc' := 13) rfl rfl rfl ?_
      obtain ⟨v2, hv2, h⟩ := xbind h
      refine xr_aI (pc' := 14) rfl hv2 rfl ?_
      refine xr_iload_n (pc' := 15) rfl rfl rfl ?_
      rcases xite h with ⟨hc, h⟩ | ⟨hc, h⟩
      · refine xr_icmp_ne_f (pc' := 18) rfl hc rfl ?_
        refine xr_aload_n (pc' := 19) rfl rfl rfl ?_
        obtain ⟨v3, hv3, h⟩ := xbind h
        refine xr_getR (pc' := 22) rfl (by decide) hv3 rfl ?_
        refine xr_iload_n (pc' := 23) rfl rfl rfl ?_
        obtain ⟨v4, hv4, h⟩ := xbind h
        refine xr_aL (pc' := 24) rfl hv4 rfl ?_
        refine xr_lconst (v := 0) (pc' := 25) rfl (by decide) rfl ?_
        refine xr_lcmp (pc' := 26) rfl rfl ?_
        rcases xite h with ⟨hc, h⟩ | ⟨hc, h⟩
        · refine xr_if_eq_t (t := 31) rfl hc ?_
          exact TfA_firstPageWithFree_31 _ (fun M l0 l1 l2  h => ih M l0 l1 l2  h) M _ _ _   h
        · refine xr_if_eq_f (pc' := 29) rfl hc rfl ?_
          refine xr_iload_n (pc' := 30) rfl rfl rfl ?_
          obtain ⟨rfl, rfl⟩ := xsome2 h
          exact xr_iret rfl mR_32
      · refine xr_icmp_ne_t (t := 31) rfl hc ?_
        exact TfA_firstPageWithFree_31 _ (fun M l0 l1 l2  h => ih M l0 l1 l2  h) M _ _ _   h
def fA_firstPageWithFree (M : xMem) (this : xId) (a0 : Int32) : Option (Int32 × xMem) :=
  fA_firstPageWithFree_2  xF M (some this) a0 (0 : Int32)
set_option maxRecDepth 20000 in
theorem TfA_firstPageWithFree {M M' : xMem} {r : Int32} (this : xId) (a0 : Int32) (h : fA_firstPageWithFree M this a0 = some (r, M')) : xrun none 0 32 0 ([some (.inr (.inr (some this))), some (.inl a0), none]) ([]) M (some (.inl r), M') := by
  unfold fA_firstPageWithFree at h
  refine xr_iconst (v := 0) (pc' := 1) rfl (by decide) rfl ?_
  refine xr_istore_n (pc' := 2) rfl rfl rfl ?_
  exact TfA_firstPageWithFree_2   xF M _ _ _  h
-- 34: MagazineDepot$Arena.allOf(I)J
def fA_allOf (M : xMem) (a0 : Int32) : Option (Int64 × xMem) :=
  some ((((1 : Int64) <<< (Int32.toInt64 a0 &&& 63)) - (1 : Int64)), M)
set_option maxRecDepth 20000 in
theorem TfA_allOf {M M' : xMem} {r : Int64} (a0 : Int32) (h : fA_allOf M a0 = some (r, M')) : xrun none 0 34 0 ([some (.inl a0)]) ([]) M (some (.inr (.inl r)), M') := by
  unfold fA_allOf at h
  refine xr_lconst (v := 1) (pc' := 1) rfl (by decide) rfl ?_
  refine xr_iload_n (pc' := 2) rfl rfl rfl ?_
  refine xr_lshl (pc' := 3) rfl rfl ?_
  refine xr_lconst (v := 1) (pc' := 4) rfl (by decide) rfl ?_
  refine xr_lsub (pc' := 5) rfl rfl ?_
  obtain ⟨rfl, rfl⟩ := xsome2 h
  exact xr_lret rfl mR_34
-- 33: MagazineDepot$Arena.beginSlab(ILMagazineDepot$Cache;)I
def fA_beginSlab_2  : Nat → xMem → Option xId → Int32 → Option xId → Int32 → Option (Int32 × xMem)
  | 0, _, _, _, _, _ => none
  | n + 1, M, l0, l1, l2, l3 =>
    if (32 : Int32) ≤ l3 then (
      some ((-1 : Int32), M))
    else
    (xgR M l0 0 0).bind fun v1 =>
    (xaI M v1 l3).bind fun v2 =>
    if v2 = (-1 : Int32) then (
      (xgR M l0 0 0).bind fun v3 =>
      (xuI M v3 l3 l1).bind fun M4 =>
      (xgR M4 l0 0 1).bind fun v5 =>
      (xgI M4 l2 2 10).bind fun v6 =>
      (xuI M4 v5 l3 v6).bind fun M7 =>
      (xgR M7 l0 0 2).bind fun v8 =>
      (xgI M7 l2 2 1).bind fun v9 =>
      (xuI M7 v8 l3 v9).bind fun M10 =>
      (xgR M10 l0 0 3).bind fun v11 =>
      (xgI M10 l2 2 3).bind fun v12 =>
      (xuI M10 v11 l3 v12).bind fun M13 =>
      (xgR M13 l0 0 4).bind fun v14 =>
      (xgI M13 l2 2 3).bind fun v15 =>
      (fA_allOf M13 v15).bind fun q16 =>
      (xuL q16.2 v14 l3 q16.1).bind fun M17 =>
      (xgR M17 l0 0 5).bind fun v18 =>
      (xuL M17 v18 l3 (0 : Int64)).bind fun M19 =>
      some (l3, M19))
    else
    fA_beginSlab_2  n M l0 l1 l2 (l3 + 1)
set_option maxRecDepth 20000 in
theorem TfA_beginSlab_2 {M' : xMem} {r : Int32}  : ∀ (n : Nat) (M : xMem) (l0 : Option xId) (l1 : Int32) (l2 : Option xId) (l3 : Int32) , fA_beginSlab_2  n M l0 l1 l2 l3 = some (r, M') → xrun none 1 33 2 ([some (.inr (.inr l0)), some (.inl l1), some (.inr (.inr l2)), some (.inl l3)]) ([]) M (some (.inl r), M') := by
  intro n
  induction n with
  | zero => intro M l0 l1 l2 l3  h; unfold fA_beginSlab_2 at h; cases h
  | succ n ih =>
    intro M l0 l1 l2 l3  h
    unfold fA_beginSlab_2 at h
    refine xr_iload_n (pc' := 3) rfl rfl rfl ?_
    refine xr_bipush (v := 32) (pc' := 5) rfl (by decide) rfl ?_
    rcases xite h with ⟨hc, h⟩ | ⟨hc, h⟩
    · refine xr_icmp_ge_t (t := 83) rfl hc ?_
      refine xr_iconst (v := -1) (pc' := 84) rfl (by decide) rfl ?_
      obtain ⟨rfl, rfl⟩ := xsome2 h
      exact xr_iret rfl mR_33
    · refine xr_icmp_ge_f (pc' := 8) rfl hc rfl ?_
      refine xr_aload_n (pc' := 9) rfl rfl rfl ?_
      obtain ⟨v1, hv1, h⟩ := xbind h
      refine xr_getR (pc' := 12) rfl (by decide) hv1 rfl ?_
      refine xr_iload_n (pc' := 13) rfl rfl rfl ?_
      obtain ⟨v2, hv2, h⟩ := xbind h
      refine xr_aI (pc' := 14) rfl hv2 rfl ?_
      refine xr_iconst (v := -1) (pc' := 15) rfl (by decide) rfl ?_
      rcases xite h with ⟨hc, h⟩ | ⟨hc, h⟩
      · refine xr_icmp_ne_f (pc' := 18) rfl hc rfl ?_
        refine xr_aload_n (pc' := 19) rfl rfl rfl ?_
        obtain ⟨v3, hv3, h⟩ := xbind h
        refine xr_getR (pc' := 22) rfl (by decide) hv3 rfl ?_
        refine xr_iload_n (pc' := 23) rfl rfl rfl ?_
        refine xr_iload_n (pc' := 24) rfl rfl rfl ?_
        obtain ⟨M4, hM4, h⟩ := xbind h
        refine xr_uI (pc' := 25) rfl hM4 rfl ?_
        refine xr_aload_n (pc' := 26) rfl rfl rfl ?_
        obtain ⟨v5, hv5, h⟩ := xbind h
        refine xr_getR (pc' := 29) rfl (by decide) hv5 rfl ?_
        refine xr_iload_n (pc' := 30) rfl rfl rfl ?_
        refine xr_aload_n (pc' := 31) rfl rfl rfl ?_
        obtain ⟨v6, hv6, h⟩ := xbind h
        refine xr_getI (pc' := 34) rfl (by decide) hv6 rfl ?_
        obtain ⟨M7, hM7, h⟩ := xbind h
        refine xr_uI (pc' := 35) rfl hM7 rfl ?_
        refine xr_aload_n (pc' := 36) rfl rfl rfl ?_
        obtain ⟨v8, hv8, h⟩ := xbind h
        refine xr_getR (pc' := 39) rfl (by decide) hv8 rfl ?_
        refine xr_iload_n (pc' := 40) rfl rfl rfl ?_
        refine xr_aload_n (pc' := 41) rfl rfl rfl ?_
        obtain ⟨v9, hv9, h⟩ := xbind h
        refine xr_getI (pc' := 44) rfl (by decide) hv9 rfl ?_
        obtain ⟨M10, hM10, h⟩ := xbind h
        refine xr_uI (pc' := 45) rfl hM10 rfl ?_
        refine xr_aload_n (pc' := 46) rfl rfl rfl ?_
        obtain ⟨v11, hv11, h⟩ := xbind h
        refine xr_getR (pc' := 49) rfl (by decide) hv11 rfl ?_
        refine xr_iload_n (pc' := 50) rfl rfl rfl ?_
        refine xr_aload_n (pc' := 51) rfl rfl rfl ?_
        obtain ⟨v12, hv12, h⟩ := xbind h
        refine xr_getI (pc' := 54) rfl (by decide) hv12 rfl ?_
        obtain ⟨M13, hM13, h⟩ := xbind h
        refine xr_uI (pc' := 55) rfl hM13 rfl ?_
        refine xr_aload_n (pc' := 56) rfl rfl rfl ?_
        obtain ⟨v14, hv14, h⟩ := xbind h
        refine xr_getR (pc' := 59) rfl (by decide) hv14 rfl ?_
        refine xr_iload_n (pc' := 60) rfl rfl rfl ?_
        refine xr_aload_n (pc' := 61) rfl rfl rfl ?_
        obtain ⟨v15, hv15, h⟩ := xbind h
        refine xr_getI (pc' := 64) rfl (by decide) hv15 rfl ?_
        obtain ⟨q16, hq16, h⟩ := xbind h
        refine xr_callS (pc' := 67) (As := [_]) (rest := _) rfl (by decide) mL_34 rfl (Nat.le_of_ble_eq_true rfl) rfl (Nat.le_of_ble_eq_true rfl) (TfA_allOf _ hq16) rfl ?_
        obtain ⟨M17, hM17, h⟩ := xbind h
        refine xr_uL (pc' := 68) rfl hM17 rfl ?_
        refine xr_aload_n (pc' := 69) rfl rfl rfl ?_
        obtain ⟨v18, hv18, h⟩ := xbind h
        refine xr_getR (pc' := 72) rfl (by decide) hv18 rfl ?_
        refine xr_iload_n (pc' := 73) rfl rfl rfl ?_
        refine xr_lconst (v := 0) (pc' := 74) rfl (by decide) rfl ?_
        obtain ⟨M19, hM19, h⟩ := xbind h
        refine xr_uL (pc' := 75) rfl hM19 rfl ?_
        refine xr_iload_n (pc' := 76) rfl rfl rfl ?_
        obtain ⟨rfl, rfl⟩ := xsome2 h
        exact xr_iret rfl mR_33
      · refine xr_icmp_ne_t (t := 77) rfl hc ?_
        refine xr_iinc (c := 1) (pc' := 80) rfl (by decide) rfl rfl rfl ?_
        refine xr_goto (t := 2) rfl ?_
        exact ih M _ _ _ _  h
def fA_beginSlab (M : xMem) (this : xId) (a0 : Int32) (a1 : Option xId) : Option (Int32 × xMem) :=
  fA_beginSlab_2  xF M (some this) a0 a1 (0 : Int32)
set_option maxRecDepth 20000 in
theorem TfA_beginSlab {M M' : xMem} {r : Int32} (this : xId) (a0 : Int32) (a1 : Option xId) (h : fA_beginSlab M this a0 a1 = some (r, M')) : xrun none 1 33 0 ([some (.inr (.inr (some this))), some (.inl a0), some (.inr (.inr a1)), none]) ([]) M (some (.inl r), M') := by
  unfold fA_beginSlab at h
  refine xr_iconst (v := 0) (pc' := 1) rfl (by decide) rfl ?_
  refine xr_istore_n (pc' := 2) rfl rfl rfl ?_
  exact TfA_beginSlab_2   xF M _ _ _ _  h
-- 35: MagazineDepot$Cache.moveColour()V
def fC_moveColour_33  (M : xMem)  (s0 : Option xId) (s1 : Int32) : Option xMem :=
  (xpI M s0 2 10 s1).bind fun M5 =>
  some M5
set_option maxRecDepth 20000 in
theorem TfC_moveColour_33 {M' : xMem}  (M : xMem)  (s0 : Option xId) (s1 : Int32) (o0 : Option xId) (o1 : Int32) (h : fC_moveColour_33  M  s0 s1 = some M') : xrun none 0 35 33 ([some (.inr (.inr o0)), some (.inl o1)]) ([.inl s1, .inr (.inr s0)]) M (none, M') := by
  unfold fC_moveColour_33 at h
  obtain ⟨M5, hM5, h⟩ := xbind h
  refine xr_putI (pc' := 36) rfl (by decide) hM5 rfl ?_
  obtain rfl := xsome1 h
  exact xr_ret rfl mR_35
def fC_moveColour (M : xMem) (this : xId) : Option xMem :=
  (xgI M (some this) 2 10).bind fun v1 =>
  (xgI M (some this) 2 2).bind fun v2 =>
  (xgI M (some this) 2 3).bind fun v3 =>
  (xgI M (some this) 2 1).bind fun v4 =>
  if ((992 : Int32) - (v3 * v4)) < (v1 + v2) then (
    fC_moveColour_33  M  (some this) (0 : Int32))
  else
  fC_moveColour_33  M  (some this) (v1 + v2)
set_option maxRecDepth 20000 in
theorem TfC_moveColour {M M' : xMem} (this : xId) (h : fC_moveColour M this = some M') : xrun none 0 35 0 ([some (.inr (.inr (some this))), none]) ([]) M (none, M') := by
  unfold fC_moveColour at h
  refine xr_aload_n (pc' := 1) rfl rfl rfl ?_
  obtain ⟨v1, hv1, h⟩ := xbind h
  refine xr_getI (pc' := 4) rfl (by decide) hv1 rfl ?_
  refine xr_aload_n (pc' := 5) rfl rfl rfl ?_
  obtain ⟨v2, hv2, h⟩ := xbind h
  refine xr_getI (pc' := 8) rfl (by decide) hv2 rfl ?_
  refine xr_iadd (pc' := 9) rfl rfl ?_
  refine xr_istore_n (pc' := 10) rfl rfl rfl ?_
  refine xr_aload_n (pc' := 11) rfl rfl rfl ?_
  refine xr_iload_n (pc' := 12) rfl rfl rfl ?_
  refine xr_sipush (v := 992) (pc' := 15) rfl (by decide) rfl ?_
  refine xr_aload_n (pc' := 16) rfl rfl rfl ?_
  obtain ⟨v3, hv3, h⟩ := xbind h
  refine xr_getI (pc' := 19) rfl (by decide) hv3 rfl ?_
  refine xr_aload_n (pc' := 20) rfl rfl rfl ?_
  obtain ⟨v4, hv4, h⟩ := xbind h
  refine xr_getI (pc' := 23) rfl (by decide) hv4 rfl ?_
  refine xr_imul (pc' := 24) rfl rfl ?_
  refine xr_isub (pc' := 25) rfl rfl ?_
  rcases xite h with ⟨hc, h⟩ | ⟨hc, h⟩
  · refine xr_icmp_gt_t (t := 32) rfl hc ?_
    refine xr_iconst (v := 0) (pc' := 33) rfl (by decide) rfl ?_
    exact TfC_moveColour_33   M  _ _ _ _ h
  · refine xr_icmp_gt_f (pc' := 28) rfl hc rfl ?_
    refine xr_iload_n (pc' := 29) rfl rfl rfl ?_
    refine xr_goto (t := 33) rfl ?_
    exact TfC_moveColour_33   M  _ _ _ _ h
-- 37: java/lang/Long.bitCount(J)I
def fJ_bitCount (M : xMem) (a0 : Int64) : Option (Int32 × xMem) :=
  let x1 : Int64 := (((a0 - ((xlushr a0 (1 : Int32)) &&& (6148914691236517205 : Int64))) &&& (3689348814741910323 : Int64)) + ((xlushr (a0 - ((xlushr a0 (1 : Int32)) &&& (6148914691236517205 : Int64))) (2 : Int32)) &&& (3689348814741910323 : Int64)))
  let x2 : Int64 := (((x1 + (xlushr x1 (4 : Int32))) &&& (1085102592571150095 : Int64)) + (xlushr ((x1 + (xlushr x1 (4 : Int32))) &&& (1085102592571150095 : Int64)) (8 : Int32)))
  let x3 : Int64 := ((x2 + (xlushr x2 (16 : Int32))) + (xlushr (x2 + (xlushr x2 (16 : Int32))) (32 : Int32)))
  some (((Int64.toInt32 x3) &&& (127 : Int32)), M)
set_option maxRecDepth 20000 in
theorem TfJ_bitCount {M M' : xMem} {r : Int32} (a0 : Int64) (h : fJ_bitCount M a0 = some (r, M')) : xrun none 0 37 0 ([some (.inr (.inl a0)), none]) ([]) M (some (.inl r), M') := by
  unfold fJ_bitCount at h
  refine xr_lload_n (pc' := 1) rfl rfl rfl ?_
  refine xr_lload_n (pc' := 2) rfl rfl rfl ?_
  refine xr_iconst (v := 1) (pc' := 3) rfl (by decide) rfl ?_
  refine xr_lushr (pc' := 4) rfl rfl ?_
  refine xr_ldc2_w (v := 6148914691236517205) (pc' := 7) rfl (by decide) rfl ?_
  refine xr_land (pc' := 8) rfl rfl ?_
  refine xr_lsub (pc' := 9) rfl rfl ?_
  refine xr_lstore_n (pc' := 10) rfl rfl rfl ?_
  refine xr_lload_n (pc' := 11) rfl rfl rfl ?_
  refine xr_ldc2_w (v := 3689348814741910323) (pc' := 14) rfl (by decide) rfl ?_
  refine xr_land (pc' := 15) rfl rfl ?_
  refine xr_lload_n (pc' := 16) rfl rfl rfl ?_
  refine xr_iconst (v := 2) (pc' := 17) rfl (by decide) rfl ?_
  refine xr_lushr (pc' := 18) rfl rfl ?_
  refine xr_ldc2_w (v := 3689348814741910323) (pc' := 21) rfl (by decide) rfl ?_
  refine xr_land (pc' := 22) rfl rfl ?_
  refine xr_ladd (pc' := 23) rfl rfl ?_
  refine xr_lstore_n (pc' := 24) rfl rfl rfl ?_
  refine xr_lload_n (pc' := 25) rfl rfl rfl ?_
  refine xr_lload_n (pc' := 26) rfl rfl rfl ?_
  refine xr_iconst (v := 4) (pc' := 27) rfl (by decide) rfl ?_
  refine xr_lushr (pc' := 28) rfl rfl ?_
  refine xr_ladd (pc' := 29) rfl rfl ?_
  refine xr_ldc2_w (v := 1085102592571150095) (pc' := 32) rfl (by decide) rfl ?_
  refine xr_land (pc' := 33) rfl rfl ?_
  refine xr_lstore_n (pc' := 34) rfl rfl rfl ?_
  refine xr_lload_n (pc' := 35) rfl rfl rfl ?_
  refine xr_lload_n (pc' := 36) rfl rfl rfl ?_
  refine xr_bipush (v := 8) (pc' := 38) rfl (by decide) rfl ?_
  refine xr_lushr (pc' := 39) rfl rfl ?_
  refine xr_ladd (pc' := 40) rfl rfl ?_
  refine xr_lstore_n (pc' := 41) rfl rfl rfl ?_
  refine xr_lload_n (pc' := 42) rfl rfl rfl ?_
  refine xr_lload_n (pc' := 43) rfl rfl rfl ?_
  refine xr_bipush (v := 16) (pc' := 45) rfl (by decide) rfl ?_
  refine xr_lushr (pc' := 46) rfl rfl ?_
  refine xr_ladd (pc' := 47) rfl rfl ?_
  refine xr_lstore_n (pc' := 48) rfl rfl rfl ?_
  refine xr_lload_n (pc' := 49) rfl rfl rfl ?_
  refine xr_lload_n (pc' := 50) rfl rfl rfl ?_
  refine xr_bipush (v := 32) (pc' := 52) rfl (by decide) rfl ?_
  refine xr_lushr (pc' := 53) rfl rfl ?_
  refine xr_ladd (pc' := 54) rfl rfl ?_
  refine xr_lstore_n (pc' := 55) rfl rfl rfl ?_
  refine xr_lload_n (pc' := 56) rfl rfl rfl ?_
  refine xr_l2i (pc' := 57) rfl rfl ?_
  refine xr_bipush (v := 127) (pc' := 59) rfl (by decide) rfl ?_
  refine xr_iand (pc' := 60) rfl rfl ?_
  obtain ⟨rfl, rfl⟩ := xsome2 h
  exact xr_iret rfl mR_37
-- 36: MagazineDepot$Arena.firstFreeIn(I)I
def fA_firstFreeIn (M : xMem) (this : xId) (a0 : Int32) : Option (Int32 × xMem) :=
  if a0 < 0 then (
    some ((-1 : Int32), M))
  else
  if (32 : Int32) ≤ a0 then (
    some ((-1 : Int32), M))
  else
  (xgR M (some this) 0 4).bind fun v1 =>
  (xaL M v1 a0).bind fun v2 =>
  if (lg_cmp v2 (0 : Int64)) = 0 then (
    some ((-1 : Int32), M))
  else
  (xgR M (some this) 0 4).bind fun v3 =>
  (xaL M v3 a0).bind fun v4 =>
  (xgR M (some this) 0 4).bind fun v5 =>
  (xaL M v5 a0).bind fun v6 =>
  (fJ_bitCount M ((v4 &&& (-v6)) - (1 : Int64))).bind fun q7 =>
  some (((a0 * (62 : Int32)) + q7.1), q7.2)
set_option maxRecDepth 20000 in
theorem TfA_firstFreeIn {M M' : xMem} {r : Int32} (this : xId) (a0 : Int32) (h : fA_firstFreeIn M this a0 = some (r, M')) : xrun none 1 36 0 ([some (.inr (.inr (some this))), some (.inl a0), none, none]) ([]) M (some (.inl r), M') := by
  unfold fA_firstFreeIn at h
  refine xr_iload_n (pc' := 1) rfl rfl rfl ?_
  rcases xite h with ⟨hc, h⟩ | ⟨hc, h⟩
  · refine xr_if_lt_t (t := 21) rfl hc ?_
    refine xr_iconst (v := -1) (pc' := 22) rfl (by decide) rfl ?_
    obtain ⟨rfl, rfl⟩ := xsome2 h
    exact xr_iret rfl mR_36
  · refine xr_if_lt_f (pc' := 4) rfl hc rfl ?_
    refine xr_iload_n (pc' := 5) rfl rfl rfl ?_
    refine xr_bipush (v := 32) (pc' := 7) rfl (by decide) rfl ?_
    rcases xite h with ⟨hc, h⟩ | ⟨hc, h⟩
    · refine xr_icmp_ge_t (t := 21) rfl hc ?_
      refine xr_iconst (v := -1) (pc' := 22) rfl (by decide) rfl ?_
      obtain ⟨rfl, rfl⟩ := xsome2 h
      exact xr_iret rfl mR_36
    · refine xr_icmp_ge_f (pc' := 10) rfl hc rfl ?_
      refine xr_aload_n (pc' := 11) rfl rfl rfl ?_
      obtain ⟨v1, hv1, h⟩ := xbind h
      refine xr_getR (pc' := 14) rfl (by decide) hv1 rfl ?_
      refine xr_iload_n (pc' := 15) rfl rfl rfl ?_
      obtain ⟨v2, hv2, h⟩ := xbind h
      refine xr_aL (pc' := 16) rfl hv2 rfl ?_
      refine xr_lconst (v := 0) (pc' := 17) rfl (by decide) rfl ?_
      refine xr_lcmp (pc' := 18) rfl rfl ?_
      rcases xite h with ⟨hc, h⟩ | ⟨hc, h⟩
      · refine xr_if_ne_f (pc' := 21) rfl hc rfl ?_
        refine xr_iconst (v := -1) (pc' := 22) rfl (by decide) rfl ?_
        obtain ⟨rfl, rfl⟩ := xsome2 h
        exact xr_iret rfl mR_36
      · refine xr_if_ne_t (t := 23) rfl hc ?_
        refine xr_aload_n (pc' := 24) rfl rfl rfl ?_
        obtain ⟨v3, hv3, h⟩ := xbind h
        refine xr_getR (pc' := 27) rfl (by decide) hv3 rfl ?_
        refine xr_iload_n (pc' := 28) rfl rfl rfl ?_
        obtain ⟨v4, hv4, h⟩ := xbind h
        refine xr_aL (pc' := 29) rfl hv4 rfl ?_
        refine xr_aload_n (pc' := 30) rfl rfl rfl ?_
        obtain ⟨v5, hv5, h⟩ := xbind h
        refine xr_getR (pc' := 33) rfl (by decide) hv5 rfl ?_
        refine xr_iload_n (pc' := 34) rfl rfl rfl ?_
        obtain ⟨v6, hv6, h⟩ := xbind h
        refine xr_aL (pc' := 35) rfl hv6 rfl ?_
        refine xr_lneg (pc' := 36) rfl rfl ?_
        refine xr_land (pc' := 37) rfl rfl ?_
        refine xr_lstore_n (pc' := 38) rfl rfl rfl ?_
        refine xr_iload_n (pc' := 39) rfl rfl rfl ?_
        refine xr_bipush (v := 62) (pc' := 41) rfl (by decide) rfl ?_
        refine xr_imul (pc' := 42) rfl rfl ?_
        refine xr_lload_n (pc' := 43) rfl rfl rfl ?_
        refine xr_lconst (v := 1) (pc' := 44) rfl (by decide) rfl ?_
        refine xr_lsub (pc' := 45) rfl rfl ?_
        obtain ⟨q7, hq7, h⟩ := xbind h
        refine xr_callS (pc' := 48) (As := [_]) (rest := _) rfl (by decide) mL_37 rfl (Nat.le_of_ble_eq_true rfl) rfl (Nat.le_of_ble_eq_true rfl) (TfJ_bitCount _ hq7) rfl ?_
        refine xr_iadd (pc' := 49) rfl rfl ?_
        obtain ⟨rfl, rfl⟩ := xsome2 h
        exact xr_iret rfl mR_36
-- 38: MagazineDepot$Arena.addressOf(I)I
def fA_addressOf (M : xMem) (this : xId) (a0 : Int32) : Option (Int32 × xMem) :=
  if a0 < 0 then (
    some ((-1 : Int32), M))
  else
  if a0 < (1984 : Int32) then (
    (xgR M (some this) 0 1).bind fun v1 =>
    (xaI M v1 (a0 / (62 : Int32))).bind fun v2 =>
    (xgR M (some this) 0 2).bind fun v3 =>
    (xaI M v3 (a0 / (62 : Int32))).bind fun v4 =>
    some ((((((a0 / (62 : Int32)) * (1024 : Int32)) + (32 : Int32)) + v2) + ((a0 - a0 / (62 : Int32) * (62 : Int32)) * v4)), M))
  else
  some ((-1 : Int32), M)
set_option maxRecDepth 20000 in
theorem TfA_addressOf {M M' : xMem} {r : Int32} (this : xId) (a0 : Int32) (h : fA_addressOf M this a0 = some (r, M')) : xrun none 0 38 0 ([some (.inr (.inr (some this))), some (.inl a0), none]) ([]) M (some (.inl r), M') := by
  unfold fA_addressOf at h
  refine xr_iload_n (pc' := 1) rfl rfl rfl ?_
  rcases xite h with ⟨hc, h⟩ | ⟨hc, h⟩
  · refine xr_if_lt_t (t := 11) rfl hc ?_
    refine xr_iconst (v := -1) (pc' := 12) rfl (by decide) rfl ?_
    obtain ⟨rfl, rfl⟩ := xsome2 h
    exact xr_iret rfl mR_38
  · refine xr_if_lt_f (pc' := 4) rfl hc rfl ?_
    refine xr_iload_n (pc' := 5) rfl rfl rfl ?_
    refine xr_sipush (v := 1984) (pc' := 8) rfl (by decide) rfl ?_
    rcases xite h with ⟨hc, h⟩ | ⟨hc, h⟩
    · refine xr_icmp_lt_t (t := 13) rfl hc ?_
      refine xr_iload_n (pc' := 14) rfl rfl rfl ?_
      refine xr_bipush (v := 62) (pc' := 16) rfl (by decide) rfl ?_
      refine xr_idiv (pc' := 17) rfl (by decide) rfl ?_
      refine xr_istore_n (pc' := 18) rfl rfl rfl ?_
      refine xr_iload_n (pc' := 19) rfl rfl rfl ?_
      refine xr_sipush (v := 1024) (pc' := 22) rfl (by decide) rfl ?_
      refine xr_imul (pc' := 23) rfl rfl ?_
      refine xr_bipush (v := 32) (pc' := 25) rfl (by decide) rfl ?_
      refine xr_iadd (pc' := 26) rfl rfl ?_
      refine xr_aload_n (pc' := 27) rfl rfl rfl ?_
      obtain ⟨v1, hv1, h⟩ := xbind h
      refine xr_getR (pc' := 30) rfl (by decide) hv1 rfl ?_
      refine xr_iload_n (pc' := 31) rfl rfl rfl ?_
      obtain ⟨v2, hv2, h⟩ := xbind h
      refine xr_aI (pc' := 32) rfl hv2 rfl ?_
      refine xr_iadd (pc' := 33) rfl rfl ?_
      refine xr_iload_n (pc' := 34) rfl rfl rfl ?_
      refine xr_bipush (v := 62) (pc' := 36) rfl (by decide) rfl ?_
      refine xr_irem (pc' := 37) rfl (by decide) rfl ?_
      refine xr_aload_n (pc' := 38) rfl rfl rfl ?_
      obtain ⟨v3, hv3, h⟩ := xbind h
      refine xr_getR (pc' := 41) rfl (by decide) hv3 rfl ?_
      refine xr_iload_n (pc' := 42) rfl rfl rfl ?_
      obtain ⟨v4, hv4, h⟩ := xbind h
      refine xr_aI (pc' := 43) rfl hv4 rfl ?_
      refine xr_imul (pc' := 44) rfl rfl ?_
      refine xr_iadd (pc' := 45) rfl rfl ?_
      obtain ⟨rfl, rfl⟩ := xsome2 h
      exact xr_iret rfl mR_38
    · refine xr_icmp_lt_f (pc' := 11) rfl hc rfl ?_
      refine xr_iconst (v := -1) (pc' := 12) rfl (by decide) rfl ?_
      obtain ⟨rfl, rfl⟩ := xsome2 h
      exact xr_iret rfl mR_38
-- 39: MagazineDepot$Kind.makes(II)I
def fK_makes_65  (M : xMem) (l0 : Int32) (l3 : Int32)  : Option (Int32 × xMem) :=
  if l0 = (5 : Int32) then (
    some ((l3 <<< ((1 : Int32) &&& 31)), M))
  else
  some (l3, M)
set_option maxRecDepth 20000 in
theorem TfK_makes_65 {M' : xMem} {r : Int32}  (M : xMem) (l0 : Int32) (l3 : Int32)  (o1 : Int32) (o2 : Int32) (h : fK_makes_65  M l0 l3  = some (r, M')) : xrun none 0 39 65 ([some (.inl l0), some (.inl o1), some (.inl o2), some (.inl l3)]) ([]) M (some (.inl r), M') := by
  unfold fK_makes_65 at h
  refine xr_iload_n (pc' := 66) rfl rfl rfl ?_
  refine xr_iconst (v := 5) (pc' := 67) rfl (by decide) rfl ?_
  rcases xite h with ⟨hc, h⟩ | ⟨hc, h⟩
  · refine xr_icmp_ne_f (pc' := 70) rfl hc rfl ?_
    refine xr_iload_n (pc' := 71) rfl rfl rfl ?_
    refine xr_iconst (v := 1) (pc' := 72) rfl (by decide) rfl ?_
    refine xr_ishl (pc' := 73) rfl rfl ?_
    refine xr_istore_n (pc' := 74) rfl rfl rfl ?_
    refine xr_iload_n (pc' := 75) rfl rfl rfl ?_
    obtain ⟨rfl, rfl⟩ := xsome2 h
    exact xr_iret rfl mR_39
  · refine xr_icmp_ne_t (t := 74) rfl hc ?_
    refine xr_iload_n (pc' := 75) rfl rfl rfl ?_
    obtain ⟨rfl, rfl⟩ := xsome2 h
    exact xr_iret rfl mR_39
def fK_makes_51  (M : xMem) (l0 : Int32) (l3 : Int32)  : Option (Int32 × xMem) :=
  if l0 = (3 : Int32) then (
    fK_makes_65  M l0 ((l3 <<< ((5 : Int32) &&& 31)) ||| (xushr l3 (27 : Int32))) )
  else
  fK_makes_65  M l0 l3 
set_option maxRecDepth 20000 in
theorem TfK_makes_51 {M' : xMem} {r : Int32}  (M : xMem) (l0 : Int32) (l3 : Int32)  (o1 : Int32) (o2 : Int32) (h : fK_makes_51  M l0 l3  = some (r, M')) : xrun none 0 39 51 ([some (.inl l0), some (.inl o1), some (.inl o2), some (.inl l3)]) ([]) M (some (.inl r), M') := by
  unfold fK_makes_51 at h
  refine xr_iload_n (pc' := 52) rfl rfl rfl ?_
  refine xr_iconst (v := 3) (pc' := 53) rfl (by decide) rfl ?_
  rcases xite h with ⟨hc, h⟩ | ⟨hc, h⟩
  · refine xr_icmp_ne_f (pc' := 56) rfl hc rfl ?_
    refine xr_iload_n (pc' := 57) rfl rfl rfl ?_
    refine xr_iconst (v := 5) (pc' := 58) rfl (by decide) rfl ?_
    refine xr_ishl (pc' := 59) rfl rfl ?_
    refine xr_iload_n (pc' := 60) rfl rfl rfl ?_
    refine xr_bipush (v := 27) (pc' := 62) rfl (by decide) rfl ?_
    refine xr_iushr (pc' := 63) rfl rfl ?_
    refine xr_ior (pc' := 64) rfl rfl ?_
    refine xr_istore_n (pc' := 65) rfl rfl rfl ?_
    exact TfK_makes_65   M _ _  _ _ h
  · refine xr_icmp_ne_t (t := 65) rfl hc ?_
    exact TfK_makes_65   M _ _  _ _ h
def fK_makes_45  (M : xMem) (l0 : Int32) (l1 : Int32) (l3 : Int32)  : Option (Int32 × xMem) :=
  fK_makes_51  M l0 (l3 ^^^ (xushr l1 (3 : Int32))) 
set_option maxRecDepth 20000 in
theorem TfK_makes_45 {M' : xMem} {r : Int32}  (M : xMem) (l0 : Int32) (l1 : Int32) (l3 : Int32)  (o2 : Int32) (h : fK_makes_45  M l0 l1 l3  = some (r, M')) : xrun none 0 39 45 ([some (.inl l0), some (.inl l1), some (.inl o2), some (.inl l3)]) ([]) M (some (.inl r), M') := by
  unfold fK_makes_45 at h
  refine xr_iload_n (pc' := 46) rfl rfl rfl ?_
  refine xr_iload_n (pc' := 47) rfl rfl rfl ?_
  refine xr_iconst (v := 3) (pc' := 48) rfl (by decide) rfl ?_
  refine xr_iushr (pc' := 49) rfl rfl ?_
  refine xr_ixor (pc' := 50) rfl rfl ?_
  refine xr_istore_n (pc' := 51) rfl rfl rfl ?_
  exact TfK_makes_51   M _ _  _ _ h
def fK_makes_34  (M : xMem) (l0 : Int32) (l1 : Int32) (s0 : Int32) : Option (Int32 × xMem) :=
  if l0 = (2 : Int32) then (
    fK_makes_45  M l0 l1 s0 )
  else
  if l0 = (3 : Int32) then (
    fK_makes_45  M l0 l1 s0 )
  else
  fK_makes_51  M l0 s0 
set_option maxRecDepth 20000 in
theorem TfK_makes_34 {M' : xMem} {r : Int32}  (M : xMem) (l0 : Int32) (l1 : Int32) (s0 : Int32) (o2 : Int32) (o3 : Option xVal) (h : fK_makes_34  M l0 l1 s0 = some (r, M')) : xrun none 0 39 34 ([some (.inl l0), some (.inl l1), some (.inl o2), o3]) ([.inl s0]) M (some (.inl r), M') := by
  unfold fK_makes_34 at h
  refine xr_istore_n (pc' := 35) rfl rfl rfl ?_
  refine xr_iload_n (pc' := 36) rfl rfl rfl ?_
  refine xr_iconst (v := 2) (pc' := 37) rfl (by decide) rfl ?_
  rcases xite h with ⟨hc, h⟩ | ⟨hc, h⟩
  · refine xr_icmp_eq_t (t := 45) rfl hc ?_
    exact TfK_makes_45   M _ _ _  _ h
  · refine xr_icmp_eq_f (pc' := 40) rfl hc rfl ?_
    refine xr_iload_n (pc' := 41) rfl rfl rfl ?_
    refine xr_iconst (v := 3) (pc' := 42) rfl (by decide) rfl ?_
    rcases xite h with ⟨hc, h⟩ | ⟨hc, h⟩
    · refine xr_icmp_ne_f (pc' := 45) rfl hc rfl ?_
      exact TfK_makes_45   M _ _ _  _ h
    · refine xr_icmp_ne_t (t := 51) rfl hc ?_
      exact TfK_makes_51   M _ _  _ _ h
def fK_makes_20  (M : xMem) (l0 : Int32) (l1 : Int32) (s0 : Int32) : Option (Int32 × xMem) :=
  if s0 = 0 then (
    fK_makes_34  M l0 l1 (l1 &&& (255 : Int32)))
  else
  fK_makes_34  M l0 l1 (0 : Int32)
set_option maxRecDepth 20000 in
theorem TfK_makes_20 {M' : xMem} {r : Int32}  (M : xMem) (l0 : Int32) (l1 : Int32) (s0 : Int32) (o2 : Option xVal) (o3 : Option xVal) (h : fK_makes_20  M l0 l1 s0 = some (r, M')) : xrun none 0 39 20 ([some (.inl l0), some (.inl l1), o2, o3]) ([.inl s0]) M (some (.inl r), M') := by
  unfold fK_makes_20 at h
  refine xr_istore_n (pc' := 21) rfl rfl rfl ?_
  refine xr_iload_n (pc' := 22) rfl rfl rfl ?_
  rcases xite h with ⟨hc, h⟩ | ⟨hc, h⟩
  · refine xr_if_eq_t (t := 29) rfl hc ?_
    refine xr_iload_n (pc' := 30) rfl rfl rfl ?_
    refine xr_sipush (v := 255) (pc' := 33) rfl (by decide) rfl ?_
    refine xr_iand (pc' := 34) rfl rfl ?_
    exact TfK_makes_34   M _ _ _ _ _ h
  · refine xr_if_eq_f (pc' := 25) rfl hc rfl ?_
    refine xr_iconst (v := 0) (pc' := 26) rfl (by decide) rfl ?_
    refine xr_goto (t := 34) rfl ?_
    exact TfK_makes_34   M _ _ _ _ _ h
def fK_makes_15  (M : xMem) (l0 : Int32) (l1 : Int32)  : Option (Int32 × xMem) :=
  fK_makes_20  M l0 l1 (1 : Int32)
set_option maxRecDepth 20000 in
theorem TfK_makes_15 {M' : xMem} {r : Int32}  (M : xMem) (l0 : Int32) (l1 : Int32)  (o2 : Option xVal) (o3 : Option xVal) (h : fK_makes_15  M l0 l1  = some (r, M')) : xrun none 0 39 15 ([some (.inl l0), some (.inl l1), o2, o3]) ([]) M (some (.inl r), M') := by
  unfold fK_makes_15 at h
  refine xr_iconst (v := 1) (pc' := 16) rfl (by decide) rfl ?_
  refine xr_goto (t := 20) rfl ?_
  exact TfK_makes_20   M _ _ _ _ _ h
def fK_makes (M : xMem) (a0 : Int32) (a1 : Int32) : Option (Int32 × xMem) :=
  if a0 = (1 : Int32) then (
    fK_makes_15  M a0 a1 )
  else
  if a0 = (2 : Int32) then (
    fK_makes_15  M a0 a1 )
  else
  if a0 = (3 : Int32) then (
    fK_makes_15  M a0 a1 )
  else
  fK_makes_20  M a0 a1 (0 : Int32)
set_option maxRecDepth 20000 in
theorem TfK_makes {M M' : xMem} {r : Int32} (a0 : Int32) (a1 : Int32) (h : fK_makes M a0 a1 = some (r, M')) : xrun none 0 39 0 ([some (.inl a0), some (.inl a1), none, none]) ([]) M (some (.inl r), M') := by
  unfold fK_makes at h
  refine xr_iload_n (pc' := 1) rfl rfl rfl ?_
  refine xr_iconst (v := 1) (pc' := 2) rfl (by decide) rfl ?_
  rcases xite h with ⟨hc, h⟩ | ⟨hc, h⟩
  · refine xr_icmp_eq_t (t := 15) rfl hc ?_
    exact TfK_makes_15   M _ _  _ _ h
  · refine xr_icmp_eq_f (pc' := 5) rfl hc rfl ?_
    refine xr_iload_n (pc' := 6) rfl rfl rfl ?_
    refine xr_iconst (v := 2) (pc' := 7) rfl (by decide) rfl ?_
    rcases xite h with ⟨hc, h⟩ | ⟨hc, h⟩
    · refine xr_icmp_eq_t (t := 15) rfl hc ?_
      exact TfK_makes_15   M _ _  _ _ h
    · refine xr_icmp_eq_f (pc' := 10) rfl hc rfl ?_
      refine xr_iload_n (pc' := 11) rfl rfl rfl ?_
      refine xr_iconst (v := 3) (pc' := 12) rfl (by decide) rfl ?_
      rcases xite h with ⟨hc, h⟩ | ⟨hc, h⟩
      · refine xr_icmp_ne_f (pc' := 15) rfl hc rfl ?_
        exact TfK_makes_15   M _ _  _ _ h
      · refine xr_icmp_ne_t (t := 19) rfl hc ?_
        refine xr_iconst (v := 0) (pc' := 20) rfl (by decide) rfl ?_
        exact TfK_makes_20   M _ _ _ _ _ h
-- 40: MagazineDepot$Arena.setWord(II)V
def fA_setWord (M : xMem) (this : xId) (a0 : Int32) (a1 : Int32) : Option xMem :=
  if a0 < 0 then (
    some M)
  else
  if (1984 : Int32) ≤ a0 then (
    some M)
  else
  (xgR M (some this) 0 6).bind fun v1 =>
  (xuI M v1 a0 a1).bind fun M2 =>
  some M2
set_option maxRecDepth 20000 in
theorem TfA_setWord {M M' : xMem} (this : xId) (a0 : Int32) (a1 : Int32) (h : fA_setWord M this a0 a1 = some M') : xrun none 0 40 0 ([some (.inr (.inr (some this))), some (.inl a0), some (.inl a1)]) ([]) M (none, M') := by
  unfold fA_setWord at h
  refine xr_iload_n (pc' := 1) rfl rfl rfl ?_
  rcases xite h with ⟨hc, h⟩ | ⟨hc, h⟩
  · refine xr_if_lt_t (t := 18) rfl hc ?_
    obtain rfl := xsome1 h
    exact xr_ret rfl mR_40
  · refine xr_if_lt_f (pc' := 4) rfl hc rfl ?_
    refine xr_iload_n (pc' := 5) rfl rfl rfl ?_
    refine xr_sipush (v := 1984) (pc' := 8) rfl (by decide) rfl ?_
    rcases xite h with ⟨hc, h⟩ | ⟨hc, h⟩
    · refine xr_icmp_ge_t (t := 18) rfl hc ?_
      obtain rfl := xsome1 h
      exact xr_ret rfl mR_40
    · refine xr_icmp_ge_f (pc' := 11) rfl hc rfl ?_
      refine xr_aload_n (pc' := 12) rfl rfl rfl ?_
      obtain ⟨v1, hv1, h⟩ := xbind h
      refine xr_getR (pc' := 15) rfl (by decide) hv1 rfl ?_
      refine xr_iload_n (pc' := 16) rfl rfl rfl ?_
      refine xr_iload_n (pc' := 17) rfl rfl rfl ?_
      obtain ⟨M2, hM2, h⟩ := xbind h
      refine xr_uI (pc' := 18) rfl hM2 rfl ?_
      obtain rfl := xsome1 h
      exact xr_ret rfl mR_40
-- 41: MagazineDepot$Arena.mark(II)V
def fA_mark_95  (M : xMem)  (s0 : Option xId) (s1 : Int32) (s2 : Int64) : Option xMem :=
  (xuL M s0 s1 s2).bind fun M13 =>
  some M13
set_option maxRecDepth 20000 in
theorem TfA_mark_95 {M' : xMem}  (M : xMem)  (s0 : Option xId) (s1 : Int32) (s2 : Int64) (o0 : Option xId) (o1 : Int32) (o2 : Int32) (o3 : Int32) (o4 : Int64) (h : fA_mark_95  M  s0 s1 s2 = some M') : xrun none 0 41 95 ([some (.inr (.inr o0)), some (.inl o1), some (.inl o2), some (.inl o3), some (.inr (.inl o4)), none]) ([.inr (.inl s2), .inl s1, .inr (.inr s0)]) M (none, M') := by
  unfold fA_mark_95 at h
  obtain ⟨M13, hM13, h⟩ := xbind h
  refine xr_uL (pc' := 96) rfl hM13 rfl ?_
  obtain rfl := xsome1 h
  exact xr_ret rfl mR_41
def fA_mark_59  (M : xMem) (l0 : Option xId) (l2 : Int32) (l3 : Int32) (l4 : Int64) (s0 : Option xId) (s1 : Int32) (s2 : Int64) : Option xMem :=
  (xuL M s0 s1 s2).bind fun M7 =>
  (xgR M7 l0 0 5).bind fun v8 =>
  if l2 = (1 : Int32) then (
    (xgR M7 l0 0 5).bind fun v9 =>
    (xaL M7 v9 l3).bind fun v10 =>
    fA_mark_95  M7  v8 l3 (v10 ||| l4))
  else
  (xgR M7 l0 0 5).bind fun v11 =>
  (xaL M7 v11 l3).bind fun v12 =>
  fA_mark_95  M7  v8 l3 (v12 &&& (l4 ^^^ (-1 : Int64)))
set_option maxRecDepth 20000 in
theorem TfA_mark_59 {M' : xMem}  (M : xMem) (l0 : Option xId) (l2 : Int32) (l3 : Int32) (l4 : Int64) (s0 : Option xId) (s1 : Int32) (s2 : Int64) (o1 : Int32) (h : fA_mark_59  M l0 l2 l3 l4 s0 s1 s2 = some M') : xrun none 0 41 59 ([some (.inr (.inr l0)), some (.inl o1), some (.inl l2), some (.inl l3), some (.inr (.inl l4)), none]) ([.inr (.inl s2), .inl s1, .inr (.inr s0)]) M (none, M') := by
  unfold fA_mark_59 at h
  obtain ⟨M7, hM7, h⟩ := xbind h
  refine xr_uL (pc' := 60) rfl hM7 rfl ?_
  refine xr_aload_n (pc' := 61) rfl rfl rfl ?_
  obtain ⟨v8, hv8, h⟩ := xbind h
  refine xr_getR (pc' := 64) rfl (by decide) hv8 rfl ?_
  refine xr_iload_n (pc' := 65) rfl rfl rfl ?_
  refine xr_iload_n (pc' := 66) rfl rfl rfl ?_
  refine xr_iconst (v := 1) (pc' := 67) rfl (by decide) rfl ?_
  rcases xite h with ⟨hc, h⟩ | ⟨hc, h⟩
  · refine xr_icmp_ne_f (pc' := 70) rfl hc rfl ?_
    refine xr_aload_n (pc' := 71) rfl rfl rfl ?_
    obtain ⟨v9, hv9, h⟩ := xbind h
    refine xr_getR (pc' := 74) rfl (by decide) hv9 rfl ?_
    refine xr_iload_n (pc' := 75) rfl rfl rfl ?_
    obtain ⟨v10, hv10, h⟩ := xbind h
    refine xr_aL (pc' := 76) rfl hv10 rfl ?_
    refine xr_lload (pc' := 78) rfl rfl rfl ?_
    refine xr_lor (pc' := 79) rfl rfl ?_
    refine xr_goto (t := 95) rfl ?_
    exact TfA_mark_95   M7  _ _ _ _ _ _ _ _ h
  · refine xr_icmp_ne_t (t := 82) rfl hc ?_
    refine xr_aload_n (pc' := 83) rfl rfl rfl ?_
    obtain ⟨v11, hv11, h⟩ := xbind h
    refine xr_getR (pc' := 86) rfl (by decide) hv11 rfl ?_
    refine xr_iload_n (pc' := 87) rfl rfl rfl ?_
    obtain ⟨v12, hv12, h⟩ := xbind h
    refine xr_aL (pc' := 88) rfl hv12 rfl ?_
    refine xr_lload (pc' := 90) rfl rfl rfl ?_
    refine xr_ldc2_w (v := -1) (pc' := 93) rfl (by decide) rfl ?_
    refine xr_lxor (pc' := 94) rfl rfl ?_
    refine xr_land (pc' := 95) rfl rfl ?_
    exact TfA_mark_95   M7  _ _ _ _ _ _ _ _ h
def fA_mark (M : xMem) (this : xId) (a0 : Int32) (a1 : Int32) : Option xMem :=
  if a0 < 0 then (
    some M)
  else
  if a0 < (1984 : Int32) then (
    let x1 : Int64 := ((1 : Int64) <<< (Int32.toInt64 (a0 - a0 / (62 : Int32) * (62 : Int32)) &&& 63))
    (xgR M (some this) 0 4).bind fun v2 =>
    if a1 = 0 then (
      (xgR M (some this) 0 4).bind fun v3 =>
      (xaL M v3 (a0 / (62 : Int32))).bind fun v4 =>
      fA_mark_59  M (some this) a1 (a0 / (62 : Int32)) x1 v2 (a0 / (62 : Int32)) (v4 ||| x1))
    else
    (xgR M (some this) 0 4).bind fun v5 =>
    (xaL M v5 (a0 / (62 : Int32))).bind fun v6 =>
    fA_mark_59  M (some this) a1 (a0 / (62 : Int32)) x1 v2 (a0 / (62 : Int32)) (v6 &&& (x1 ^^^ (-1 : Int64))))
  else
  some M
set_option maxRecDepth 20000 in
theorem TfA_mark {M M' : xMem} (this : xId) (a0 : Int32) (a1 : Int32) (h : fA_mark M this a0 a1 = some M') : xrun none 0 41 0 ([some (.inr (.inr (some this))), some (.inl a0), some (.inl a1), none, none, none]) ([]) M (none, M') := by
  unfold fA_mark at h
  refine xr_iload_n (pc' := 1) rfl rfl rfl ?_
  rcases xite h with ⟨hc, h⟩ | ⟨hc, h⟩
  · refine xr_if_lt_t (t := 11) rfl hc ?_
    obtain rfl := xsome1 h
    exact xr_ret rfl mR_41
  · refine xr_if_lt_f (pc' := 4) rfl hc rfl ?_
    refine xr_iload_n (pc' := 5) rfl rfl rfl ?_
    refine xr_sipush (v := 1984) (pc' := 8) rfl (by decide) rfl ?_
    rcases xite h with ⟨hc, h⟩ | ⟨hc, h⟩
    · refine xr_icmp_lt_t (t := 12) rfl hc ?_
      refine xr_iload_n (pc' := 13) rfl rfl rfl ?_
      refine xr_bipush (v := 62) (pc' := 15) rfl (by decide) rfl ?_
      refine xr_idiv (pc' := 16) rfl (by decide) rfl ?_
      refine xr_istore_n (pc' := 17) rfl rfl rfl ?_
      refine xr_lconst (v := 1) (pc' := 18) rfl (by decide) rfl ?_
      refine xr_iload_n (pc' := 19) rfl rfl rfl ?_
      refine xr_bipush (v := 62) (pc' := 21) rfl (by decide) rfl ?_
      refine xr_irem (pc' := 22) rfl (by decide) rfl ?_
      refine xr_lshl (pc' := 23) rfl rfl ?_
      refine xr_lstore (pc' := 25) rfl rfl rfl ?_
      refine xr_aload_n (pc' := 26) rfl rfl rfl ?_
      obtain ⟨v2, hv2, h⟩ := xbind h
      refine xr_getR (pc' := 29) rfl (by decide) hv2 rfl ?_
      refine xr_iload_n (pc' := 30) rfl rfl rfl ?_
      refine xr_iload_n (pc' := 31) rfl rfl rfl ?_
      rcases xite h with ⟨hc, h⟩ | ⟨hc, h⟩
      · refine xr_if_ne_f (pc' := 34) rfl hc rfl ?_
        refine xr_aload_n (pc' := 35) rfl rfl rfl ?_
        obtain ⟨v3, hv3, h⟩ := xbind h
        refine xr_getR (pc' := 38) rfl (by decide) hv3 rfl ?_
        refine xr_iload_n (pc' := 39) rfl rfl rfl ?_
        obtain ⟨v4, hv4, h⟩ := xbind h
        refine xr_aL (pc' := 40) rfl hv4 rfl ?_
        refine xr_lload (pc' := 42) rfl rfl rfl ?_
        refine xr_lor (pc' := 43) rfl rfl ?_
        refine xr_goto (t := 59) rfl ?_
        exact TfA_mark_59   M _ _ _ _ _ _ _ _ h
      · refine xr_if_ne_t (t := 46) rfl hc ?_
        refine xr_aload_n (pc' := 47) rfl rfl rfl ?_
        obtain ⟨v5, hv5, h⟩ := xbind h
        refine xr_getR (pc' := 50) rfl (by decide) hv5 rfl ?_
        refine xr_iload_n (pc' := 51) rfl rfl rfl ?_
        obtain ⟨v6, hv6, h⟩ := xbind h
        refine xr_aL (pc' := 52) rfl hv6 rfl ?_
        refine xr_lload (pc' := 54) rfl rfl rfl ?_
        refine xr_ldc2_w (v := -1) (pc' := 57) rfl (by decide) rfl ?_
        refine xr_lxor (pc' := 58) rfl rfl ?_
        refine xr_land (pc' := 59) rfl rfl ?_
        exact TfA_mark_59   M _ _ _ _ _ _ _ _ h
    · refine xr_icmp_lt_f (pc' := 11) rfl hc rfl ?_
      obtain rfl := xsome1 h
      exact xr_ret rfl mR_41
-- 31: MagazineDepot$Depot.takeFree(ILMagazineDepot$Cache;)I
def fD_takeFree_35  (M : xMem) (l0 : Option xId) (l2 : Option xId) (l3 : Int32)  : Option (Int32 × xMem) :=
  (xgR M l0 3 0).bind fun v9 =>
  (xob M v9 0).bind fun u10 =>
  (fA_firstFreeIn M u10 l3).bind fun q11 =>
  (xgR q11.2 l0 3 0).bind fun v12 =>
  (xgI q11.2 l2 2 0).bind fun v13 =>
  (xgR q11.2 l0 3 0).bind fun v14 =>
  (xob q11.2 v14 0).bind fun u15 =>
  (fA_addressOf q11.2 u15 q11.1).bind fun q16 =>
  (fK_makes q16.2 v13 q16.1).bind fun q17 =>
  (xob q17.2 v12 0).bind fun u18 =>
  (fA_setWord q17.2 u18 q11.1 q17.1).bind fun q19 =>
  (xgR q19 l0 3 0).bind fun v20 =>
  (xob q19 v20 0).bind fun u21 =>
  (fA_mark q19 u21 q11.1 (1 : Int32)).bind fun q22 =>
  (xgI q22 l2 2 11).bind fun v23 =>
  (xpI q22 l2 2 11 (v23 + (1 : Int32))).bind fun M24 =>
  some (q11.1, M24)
set_option maxRecDepth 20000 in
theorem TfD_takeFree_35 {M' : xMem} {r : Int32}  (M : xMem) (l0 : Option xId) (l2 : Option xId) (l3 : Int32)  (o1 : Int32) (o4 : Option xVal) (h : fD_takeFree_35  M l0 l2 l3  = some (r, M')) : xrun none 2 31 35 ([some (.inr (.inr l0)), some (.inl o1), some (.inr (.inr l2)), some (.inl l3), o4]) ([]) M (some (.inl r), M') := by
  unfold fD_takeFree_35 at h
  refine xr_aload_n (pc' := 36) rfl rfl rfl ?_
  obtain ⟨v9, hv9, h⟩ := xbind h
  refine xr_getR (pc' := 39) rfl (by decide) hv9 rfl ?_
  refine xr_iload_n (pc' := 40) rfl rfl rfl ?_
  obtain ⟨u10, hu10, h⟩ := xbind h
  obtain ⟨q11, hq11, h⟩ := xbind h
  refine xr_callV (pc' := 43) (C := 0) (As := [_]) (rest := _) rfl hu10 mC_36 mL_36 rfl (Nat.le_of_ble_eq_true rfl) rfl (Nat.le_of_ble_eq_true rfl) (TfA_firstFreeIn _ _ hq11) rfl ?_
  refine xr_istore (pc' := 45) rfl rfl rfl ?_
  refine xr_aload_n (pc' := 46) rfl rfl rfl ?_
  obtain ⟨v12, hv12, h⟩ := xbind h
  refine xr_getR (pc' := 49) rfl (by decide) hv12 rfl ?_
  refine xr_iload (pc' := 51) rfl rfl rfl ?_
  refine xr_aload_n (pc' := 52) rfl rfl rfl ?_
  obtain ⟨v13, hv13, h⟩ := xbind h
  refine xr_getI (pc' := 55) rfl (by decide) hv13 rfl ?_
  refine xr_aload_n (pc' := 56) rfl rfl rfl ?_
  obtain ⟨v14, hv14, h⟩ := xbind h
  refine xr_getR (pc' := 59) rfl (by decide) hv14 rfl ?_
  refine xr_iload (pc' := 61) rfl rfl rfl ?_
  obtain ⟨u15, hu15, h⟩ := xbind h
  obtain ⟨q16, hq16, h⟩ := xbind h
  refine xr_callV (pc' := 64) (C := 0) (As := [_]) (rest := _) rfl hu15 mC_38 mL_38 rfl (Nat.le_of_ble_eq_true rfl) rfl (Nat.le_of_ble_eq_true rfl) (TfA_addressOf _ _ hq16) rfl ?_
  obtain ⟨q17, hq17, h⟩ := xbind h
  refine xr_callS (pc' := 67) (As := [_, _]) (rest := _) rfl (by decide) mL_39 rfl (Nat.le_of_ble_eq_true rfl) rfl (Nat.le_of_ble_eq_true rfl) (TfK_makes _ _ hq17) rfl ?_
  obtain ⟨u18, hu18, h⟩ := xbind h
  obtain ⟨q19, hq19, h⟩ := xbind h
  refine xr_callV (pc' := 70) (C := 0) (As := [_, _]) (rest := _) rfl hu18 mC_40 mL_40 rfl (Nat.le_of_ble_eq_true rfl) rfl (Nat.le_of_ble_eq_true rfl) (TfA_setWord _ _ _ hq19) rfl ?_
  refine xr_aload_n (pc' := 71) rfl rfl rfl ?_
  obtain ⟨v20, hv20, h⟩ := xbind h
  refine xr_getR (pc' := 74) rfl (by decide) hv20 rfl ?_
  refine xr_iload (pc' := 76) rfl rfl rfl ?_
  refine xr_iconst (v := 1) (pc' := 77) rfl (by decide) rfl ?_
  obtain ⟨u21, hu21, h⟩ := xbind h
  obtain ⟨q22, hq22, h⟩ := xbind h
  refine xr_callV (pc' := 80) (C := 0) (As := [_, _]) (rest := _) rfl hu21 mC_41 mL_41 rfl (Nat.le_of_ble_eq_true rfl) rfl (Nat.le_of_ble_eq_true rfl) (TfA_mark _ _ _ hq22) rfl ?_
  refine xr_aload_n (pc' := 81) rfl rfl rfl ?_
  refine xr_dup_a (pc' := 82) rfl rfl ?_
  obtain ⟨v23, hv23, h⟩ := xbind h
  refine xr_getI (pc' := 85) rfl (by decide) hv23 rfl ?_
  refine xr_iconst (v := 1) (pc' := 86) rfl (by decide) rfl ?_
  refine xr_iadd (pc' := 87) rfl rfl ?_
  obtain ⟨M24, hM24, h⟩ := xbind h
  refine xr_putI (pc' := 90) rfl (by decide) hM24 rfl ?_
  refine xr_iload (pc' := 92) rfl rfl rfl ?_
  obtain ⟨rfl, rfl⟩ := xsome2 h
  exact xr_iret rfl mR_31
def fD_takeFree (M : xMem) (this : xId) (a0 : Int32) (a1 : Option xId) : Option (Int32 × xMem) :=
  (xgR M (some this) 3 0).bind fun v1 =>
  (xob M v1 0).bind fun u2 =>
  (fA_firstPageWithFree M u2 a0).bind fun q3 =>
  if q3.1 = (-1 : Int32) then (
    (xgR q3.2 (some this) 3 0).bind fun v4 =>
    (xob q3.2 v4 0).bind fun u5 =>
    (fA_beginSlab q3.2 u5 a0 a1).bind fun q6 =>
    if q6.1 = (-1 : Int32) then (
      some ((-1 : Int32), q6.2))
    else
    (xob q6.2 a1 2).bind fun u7 =>
    (fC_moveColour q6.2 u7 ).bind fun q8 =>
    fD_takeFree_35  q8 (some this) a1 q6.1 )
  else
  fD_takeFree_35  q3.2 (some this) a1 q3.1 
set_option maxRecDepth 20000 in
theorem TfD_takeFree {M M' : xMem} {r : Int32} (this : xId) (a0 : Int32) (a1 : Option xId) (h : fD_takeFree M this a0 a1 = some (r, M')) : xrun none 2 31 0 ([some (.inr (.inr (some this))), some (.inl a0), some (.inr (.inr a1)), none, none]) ([]) M (some (.inl r), M') := by
  unfold fD_takeFree at h
  refine xr_aload_n (pc' := 1) rfl rfl rfl ?_
  obtain ⟨v1, hv1, h⟩ := xbind h
  refine xr_getR (pc' := 4) rfl (by decide) hv1 rfl ?_
  refine xr_iload_n (pc' := 5) rfl rfl rfl ?_
  obtain ⟨u2, hu2, h⟩ := xbind h
  obtain ⟨q3, hq3, h⟩ := xbind h
  refine xr_callV (pc' := 8) (C := 0) (As := [_]) (rest := _) rfl hu2 mC_32 mL_32 rfl (Nat.le_of_ble_eq_true rfl) rfl (Nat.le_of_ble_eq_true rfl) (TfA_firstPageWithFree _ _ hq3) rfl ?_
  refine xr_istore_n (pc' := 9) rfl rfl rfl ?_
  refine xr_iload_n (pc' := 10) rfl rfl rfl ?_
  refine xr_iconst (v := -1) (pc' := 11) rfl (by decide) rfl ?_
  rcases xite h with ⟨hc, h⟩ | ⟨hc, h⟩
  · refine xr_icmp_ne_f (pc' := 14) rfl hc rfl ?_
    refine xr_aload_n (pc' := 15) rfl rfl rfl ?_
    obtain ⟨v4, hv4, h⟩ := xbind h
    refine xr_getR (pc' := 18) rfl (by decide) hv4 rfl ?_
    refine xr_iload_n (pc' := 19) rfl rfl rfl ?_
    refine xr_aload_n (pc' := 20) rfl rfl rfl ?_
    obtain ⟨u5, hu5, h⟩ := xbind h
    obtain ⟨q6, hq6, h⟩ := xbind h
    refine xr_callV (pc' := 23) (C := 0) (As := [_, _]) (rest := _) rfl hu5 mC_33 mL_33 rfl (Nat.le_of_ble_eq_true rfl) rfl (Nat.le_of_ble_eq_true rfl) (TfA_beginSlab _ _ _ hq6) rfl ?_
    refine xr_istore_n (pc' := 24) rfl rfl rfl ?_
    refine xr_iload_n (pc' := 25) rfl rfl rfl ?_
    refine xr_iconst (v := -1) (pc' := 26) rfl (by decide) rfl ?_
    rcases xite h with ⟨hc, h⟩ | ⟨hc, h⟩
    · refine xr_icmp_ne_f (pc' := 29) rfl hc rfl ?_
      refine xr_iconst (v := -1) (pc' := 30) rfl (by decide) rfl ?_
      obtain ⟨rfl, rfl⟩ := xsome2 h
      exact xr_iret rfl mR_31
    · refine xr_icmp_ne_t (t := 31) rfl hc ?_
      refine xr_aload_n (pc' := 32) rfl rfl rfl ?_
      obtain ⟨u7, hu7, h⟩ := xbind h
      obtain ⟨q8, hq8, h⟩ := xbind h
      refine xr_callV (pc' := 35) (C := 2) (As := []) (rest := _) rfl hu7 mC_35 mL_35 rfl (Nat.le_of_ble_eq_true rfl) rfl (Nat.le_of_ble_eq_true rfl) (TfC_moveColour _  hq8) rfl ?_
      exact TfD_takeFree_35   q8 _ _ _  _ _ h
  · refine xr_icmp_ne_t (t := 35) rfl hc ?_
    exact TfD_takeFree_35   q3.2 _ _ _  _ _ h
