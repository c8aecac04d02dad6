/-! shallow functions of the methods (by program, out of the bytecode), and that a run is what they say -/
-- 64: MagazineDepot$Kind.isLock(I)Z
def fK_isLock_10  (M : xMem)   : Option (Int32 × xMem) :=
  some ((1 : Int32), M)
set_option maxRecDepth 20000 in
theorem TfK_isLock_10 {M' : xMem} {r : Int32}  (M : xMem)   (o0 : Int32) (h : fK_isLock_10  M   = some (r, M')) : xrun none 0 64 10 ([some (.inl o0)]) ([]) M (some (.inl r), M') := by
  unfold fK_isLock_10 at h
  refine xr_iconst (v := 1) (pc' := 11) rfl (by decide) rfl ?_
  refine xr_goto (t := 15) rfl ?_
  obtain ⟨rfl, rfl⟩ := xsome2 h
  exact xr_zret rfl mR_64 (by decide)
def fK_isLock (M : xMem) (a0 : Int32) : Option (Int32 × xMem) :=
  if a0 = (4 : Int32) then (
    fK_isLock_10  M  )
  else
  if a0 = (5 : Int32) then (
    fK_isLock_10  M  )
  else
  some ((0 : Int32), M)
set_option maxRecDepth 20000 in
theorem TfK_isLock {M M' : xMem} {r : Int32} (a0 : Int32) (h : fK_isLock M a0 = some (r, M')) : xrun none 0 64 0 ([some (.inl a0)]) ([]) M (some (.inl r), M') := by
  unfold fK_isLock at h
  refine xr_iload_n (pc' := 1) rfl rfl rfl ?_
  refine xr_iconst (v := 4) (pc' := 2) rfl (by decide) rfl ?_
  rcases xite h with ⟨hc, h⟩ | ⟨hc, h⟩
  · refine xr_icmp_eq_t (t := 10) rfl hc ?_
    exact TfK_isLock_10   M   _ h
  · refine xr_icmp_eq_f (pc' := 5) rfl hc rfl ?_
    refine xr_iload_n (pc' := 6) rfl rfl rfl ?_
    refine xr_iconst (v := 5) (pc' := 7) rfl (by decide) rfl ?_
    rcases xite h with ⟨hc, h⟩ | ⟨hc, h⟩
    · refine xr_icmp_ne_f (pc' := 10) rfl hc rfl ?_
      exact TfK_isLock_10   M   _ h
    · refine xr_icmp_ne_t (t := 14) rfl hc ?_
      refine xr_iconst (v := 0) (pc' := 15) rfl (by decide) rfl ?_
      obtain ⟨rfl, rfl⟩ := xsome2 h
      exact xr_zret rfl mR_64 (by decide)
-- 63: MagazineDepot.turnLock(II)I
def fX_turnLock (M : xMem) (this : xId) (a0 : Int32) (a1 : Int32) : Option (Int32 × xMem) :=
  (xgR M (some this) 7 0).bind fun v1 =>
  (xgR M v1 3 0).bind fun v2 =>
  (xob M v2 0).bind fun u3 =>
  (fA_slotOf M u3 a0).bind fun q4 =>
  (xgR q4.2 (some this) 7 0).bind fun v5 =>
  (xgR q4.2 v5 3 0).bind fun v6 =>
  (xob q4.2 v6 0).bind fun u7 =>
  (fA_isLive q4.2 u7 q4.1).bind fun q8 =>
  if q8.1 = 0 then (
    some ((-1 : Int32), q8.2))
  else
  (xgR q8.2 (some this) 7 0).bind fun v9 =>
  (xgR q8.2 (some this) 7 0).bind fun v10 =>
  (xgR q8.2 v10 3 0).bind fun v11 =>
  (xob q8.2 v11 0).bind fun u12 =>
  (fA_cacheOfSlot q8.2 u12 q4.1).bind fun q13 =>
  (xob q13.2 v9 3).bind fun u14 =>
  (fD_cacheAt q13.2 u14 q13.1).bind fun q15 =>
  if q15.1 = none then (
    some ((-5 : Int32), q15.2))
  else
  (xgI q15.2 q15.1 2 0).bind fun v16 =>
  (fK_isLock q15.2 v16).bind fun q17 =>
  if q17.1 = 0 then (
    some ((-5 : Int32), q17.2))
  else
  (xgR q17.2 (some this) 7 0).bind fun v18 =>
  (xgR q17.2 v18 3 0).bind fun v19 =>
  (xob q17.2 v19 0).bind fun u20 =>
  (fA_wordAt q17.2 u20 q4.1).bind fun q21 =>
  if (q21.1 &&& (1 : Int32)) = a1 then (
    some ((0 : Int32), q21.2))
  else
  (xgR q21.2 (some this) 7 0).bind fun v22 =>
  (xgR q21.2 v22 3 0).bind fun v23 =>
  (xob q21.2 v23 0).bind fun u24 =>
  (fA_setWord q21.2 u24 q4.1 (q21.1 ^^^ (1 : Int32))).bind fun q25 =>
  some ((1 : Int32), q25)
set_option maxRecDepth 20000 in
theorem TfX_turnLock {M M' : xMem} {r : Int32} (this : xId) (a0 : Int32) (a1 : Int32) (h : fX_turnLock M this a0 a1 = some (r, M')) : xrun none 2 63 0 ([some (.inr (.inr (some this))), some (.inl a0), some (.inl a1), none, none, none]) ([]) M (some (.inl r), M') := by
  unfold fX_turnLock at h
  refine xr_aload_n (pc' := 1) rfl rfl rfl ?_
  obtain ⟨v1, hv1, h⟩ := xbind h
  refine xr_getR (pc' := 4) rfl (by decide) hv1 rfl ?_
  obtain ⟨v2, hv2, h⟩ := xbind h
  refine xr_getR (pc' := 7) rfl (by decide) hv2 rfl ?_
  refine xr_iload_n (pc' := 8) rfl rfl rfl ?_
  obtain ⟨u3, hu3, h⟩ := xbind h
  obtain ⟨q4, hq4, h⟩ := xbind h
  refine xr_callV (pc' := 11) (C := 0) (As := [_]) (rest := _) rfl hu3 mC_43 mL_43 rfl (Nat.le_of_ble_eq_true rfl) rfl (Nat.le_of_ble_eq_true rfl) (TfA_slotOf _ _ hq4) rfl ?_
  refine xr_istore_n (pc' := 12) rfl rfl rfl ?_
  refine xr_aload_n (pc' := 13) rfl rfl rfl ?_
  obtain ⟨v5, hv5, h⟩ := xbind h
  refine xr_getR (pc' := 16) rfl (by decide) hv5 rfl ?_
  obtain ⟨v6, hv6, h⟩ := xbind h
  refine xr_getR (pc' := 19) rfl (by decide) hv6 rfl ?_
  refine xr_iload_n (pc' := 20) rfl rfl rfl ?_
  obtain ⟨u7, hu7, h⟩ := xbind h
  obtain ⟨q8, hq8, h⟩ := xbind h
  refine xr_callV (pc' := 23) (C := 0) (As := [_]) (rest := _) rfl hu7 mC_45 mL_45 rfl (Nat.le_of_ble_eq_true rfl) rfl (Nat.le_of_ble_eq_true rfl) (TfA_isLive _ _ hq8) rfl ?_
  rcases xite h with ⟨hc, h⟩ | ⟨hc, h⟩
  · refine xr_if_ne_f (pc' := 26) rfl hc rfl ?_
    refine xr_iconst (v := -1) (pc' := 27) rfl (by decide) rfl ?_
    obtain ⟨rfl, rfl⟩ := xsome2 h
    exact xr_iret rfl mR_63
  · refine xr_if_ne_t (t := 28) rfl hc ?_
    refine xr_aload_n (pc' := 29) rfl rfl rfl ?_
    obtain ⟨v9, hv9, h⟩ := xbind h
    refine xr_getR (pc' := 32) rfl (by decide) hv9 rfl ?_
    refine xr_aload_n (pc' := 33) rfl rfl rfl ?_
    obtain ⟨v10, hv10, h⟩ := xbind h
    refine xr_getR (pc' := 36) rfl (by decide) hv10 rfl ?_
    obtain ⟨v11, hv11, h⟩ := xbind h
    refine xr_getR (pc' := 39) rfl (by decide) hv11 rfl ?_
    refine xr_iload_n (pc' := 40) rfl rfl rfl ?_
    obtain ⟨u12, hu12, h⟩ := xbind h
    obtain ⟨q13, hq13, h⟩ := xbind h
    refine xr_callV (pc' := 43) (C := 0) (As := [_]) (rest := _) rfl hu12 mC_48 mL_48 rfl (Nat.le_of_ble_eq_true rfl) rfl (Nat.le_of_ble_eq_true rfl) (TfA_cacheOfSlot _ _ hq13) rfl ?_
    obtain ⟨u14, hu14, h⟩ := xbind h
    obtain ⟨q15, hq15, h⟩ := xbind h
    refine xr_callV (pc' := 46) (C := 3) (As := [_]) (rest := _) rfl hu14 mC_18 mL_18 rfl (Nat.le_of_ble_eq_true rfl) rfl (Nat.le_of_ble_eq_true rfl) (TfD_cacheAt _ _ hq15) rfl ?_
    refine xr_astore (pc' := 48) rfl rfl rfl ?_
    refine xr_aload (pc' := 50) rfl rfl rfl ?_
    rcases xite h with ⟨hc, h⟩ | ⟨hc, h⟩
    · refine xr_ifnull_n (t := 64) rfl hc ?_
      refine xr_bipush (v := -5) (pc' := 66) rfl (by decide) rfl ?_
      obtain ⟨rfl, rfl⟩ := xsome2 h
      exact xr_iret rfl mR_63
    · refine xr_ifnull_s (pc' := 53) rfl hc rfl ?_
      refine xr_aload (pc' := 55) rfl rfl rfl ?_
      obtain ⟨v16, hv16, h⟩ := xbind h
      refine xr_getI (pc' := 58) rfl (by decide) hv16 rfl ?_
      obtain ⟨q17, hq17, h⟩ := xbind h
      refine xr_callS (pc' := 61) (As := [_]) (rest := _) rfl (by decide) mL_64 rfl (Nat.le_of_ble_eq_true rfl) rfl (Nat.le_of_ble_eq_true rfl) (TfK_isLock _ hq17) rfl ?_
      rcases xite h with ⟨hc, h⟩ | ⟨hc, h⟩
      · refine xr_if_ne_f (pc' := 64) rfl hc rfl ?_
        refine xr_bipush (v := -5) (pc' := 66) rfl (by decide) rfl ?_
        obtain ⟨rfl, rfl⟩ := xsome2 h
        exact xr_iret rfl mR_63
      · refine xr_if_ne_t (t := 67) rfl hc ?_
        refine xr_aload_n (pc' := 68) rfl rfl rfl ?_
        obtain ⟨v18, hv18, h⟩ := xbind h
        refine xr_getR (pc' := 71) rfl (by decide) hv18 rfl ?_
        obtain ⟨v19, hv19, h⟩ := xbind h
        refine xr_getR (pc' := 74) rfl (by decide) hv19 rfl ?_
        refine xr_iload_n (pc' := 75) rfl rfl rfl ?_
        obtain ⟨u20, hu20, h⟩ := xbind h
        obtain ⟨q21, hq21, h⟩ := xbind h
        refine xr_callV (pc' := 78) (C := 0) (As := [_]) (rest := _) rfl hu20 mC_49 mL_49 rfl (Nat.le_of_ble_eq_true rfl) rfl (Nat.le_of_ble_eq_true rfl) (TfA_wordAt _ _ hq21) rfl ?_
        refine xr_istore (pc' := 80) rfl rfl rfl ?_
        refine xr_iload (pc' := 82) rfl rfl rfl ?_
        refine xr_iconst (v := 1) (pc' := 83) rfl (by decide) rfl ?_
        refine xr_iand (pc' := 84) rfl rfl ?_
        refine xr_iload_n (pc' := 85) rfl rfl rfl ?_
        rcases xite h with ⟨hc, h⟩ | ⟨hc, h⟩
        · refine xr_icmp_ne_f (pc' := 88) rfl hc rfl ?_
          refine xr_iconst (v := 0) (pc' := 89) rfl (by decide) rfl ?_
          obtain ⟨rfl, rfl⟩ := xsome2 h
          exact xr_iret rfl mR_63
        · refine xr_icmp_ne_t (t := 90) rfl hc ?_
          refine xr_aload_n (pc' := 91) rfl rfl rfl ?_
          obtain ⟨v22, hv22, h⟩ := xbind h
          refine xr_getR (pc' := 94) rfl (by decide) hv22 rfl ?_
          obtain ⟨v23, hv23, h⟩ := xbind h
          refine xr_getR (pc' := 97) rfl (by decide) hv23 rfl ?_
          refine xr_iload_n (pc' := 98) rfl rfl rfl ?_
          refine xr_iload (pc' := 100) rfl rfl rfl ?_
          refine xr_iconst (v := 1) (pc' := 101) rfl (by decide) rfl ?_
          refine xr_ixor (pc' := 102) rfl rfl ?_
          obtain ⟨u24, hu24, h⟩ := xbind h
          obtain ⟨q25, hq25, h⟩ := xbind h
          refine xr_callV (pc' := 105) (C := 0) (As := [_, _]) (rest := _) rfl hu24 mC_40 mL_40 rfl (Nat.le_of_ble_eq_true rfl) rfl (Nat.le_of_ble_eq_true rfl) (TfA_setWord _ _ _ hq25) rfl ?_
          refine xr_iconst (v := 1) (pc' := 106) rfl (by decide) rfl ?_
          obtain ⟨rfl, rfl⟩ := xsome2 h
          exact xr_iret rfl mR_63
-- 62: MagazineDepot.hold(I)I
def fX_hold (M : xMem) (this : xId) (a0 : Int32) : Option (Int32 × xMem) :=
  (xob M (some this) 7).bind fun u1 =>
  (fX_turnLock M u1 a0 (1 : Int32)).bind fun q2 =>
  some (q2.1, q2.2)
set_option maxRecDepth 20000 in
theorem TfX_hold {M M' : xMem} {r : Int32} (this : xId) (a0 : Int32) (h : fX_hold M this a0 = some (r, M')) : xrun none 3 62 0 ([some (.inr (.inr (some this))), some (.inl a0)]) ([]) M (some (.inl r), M') := by
  unfold fX_hold at h
  refine xr_aload_n (pc' := 1) rfl rfl rfl ?_
  refine xr_iload_n (pc' := 2) rfl rfl rfl ?_
  refine xr_iconst (v := 1) (pc' := 3) rfl (by decide) rfl ?_
  obtain ⟨u1, hu1, h⟩ := xbind h
  obtain ⟨q2, hq2, h⟩ := xbind h
  refine xr_callV (pc' := 6) (C := 7) (As := [_, _]) (rest := _) rfl hu1 mC_63 mL_63 rfl (Nat.le_of_ble_eq_true rfl) rfl (Nat.le_of_ble_eq_true rfl) (TfX_turnLock _ _ _ hq2) rfl ?_
  obtain ⟨rfl, rfl⟩ := xsome2 h
  exact xr_iret rfl mR_62
-- 65: MagazineDepot.letGo(I)I
def fX_letGo (M : xMem) (this : xId) (a0 : Int32) : Option (Int32 × xMem) :=
  (xob M (some this) 7).bind fun u1 =>
  (fX_turnLock M u1 a0 (0 : Int32)).bind fun q2 =>
  some (q2.1, q2.2)
set_option maxRecDepth 20000 in
theorem TfX_letGo {M M' : xMem} {r : Int32} (this : xId) (a0 : Int32) (h : fX_letGo M this a0 = some (r, M')) : xrun none 3 65 0 ([some (.inr (.inr (some this))), some (.inl a0)]) ([]) M (some (.inl r), M') := by
  unfold fX_letGo at h
  refine xr_aload_n (pc' := 1) rfl rfl rfl ?_
  refine xr_iload_n (pc' := 2) rfl rfl rfl ?_
  refine xr_iconst (v := 0) (pc' := 3) rfl (by decide) rfl ?_
  obtain ⟨u1, hu1, h⟩ := xbind h
  obtain ⟨q2, hq2, h⟩ := xbind h
  refine xr_callV (pc' := 6) (C := 7) (As := [_, _]) (rest := _) rfl hu1 mC_63 mL_63 rfl (Nat.le_of_ble_eq_true rfl) rfl (Nat.le_of_ble_eq_true rfl) (TfX_turnLock _ _ _ hq2) rfl ?_
  obtain ⟨rfl, rfl⟩ := xsome2 h
  exact xr_iret rfl mR_65
-- 69: MagazineDepot$Pile.get(I)I
def fP_get (M : xMem) (this : xId) (a0 : Int32) : Option (Int32 × xMem) :=
  if a0 < 0 then (
    some ((-1 : Int32), M))
  else
  (xgI M (some this) 4 1).bind fun v1 =>
  if v1 ≤ a0 then (
    some ((-1 : Int32), M))
  else
  (xgR M (some this) 4 0).bind fun v2 =>
  (xaI M v2 a0).bind fun v3 =>
  some (v3, M)
set_option maxRecDepth 20000 in
theorem TfP_get {M M' : xMem} {r : Int32} (this : xId) (a0 : Int32) (h : fP_get M this a0 = some (r, M')) : xrun none 0 69 0 ([some (.inr (.inr (some this))), some (.inl a0)]) ([]) M (some (.inl r), M') := by
  unfold fP_get at h
  refine xr_iload_n (pc' := 1) rfl rfl rfl ?_
  rcases xite h with ⟨hc, h⟩ | ⟨hc, h⟩
  · refine xr_if_lt_t (t := 21) rfl hc ?_
    refine xr_iconst (v := -1) (pc' := 22) rfl (by decide) rfl ?_
    obtain ⟨rfl, rfl⟩ := xsome2 h
    exact xr_iret rfl mR_69
  · refine xr_if_lt_f (pc' := 4) rfl hc rfl ?_
    refine xr_iload_n (pc' := 5) rfl rfl rfl ?_
    refine xr_aload_n (pc' := 6) rfl rfl rfl ?_
    obtain ⟨v1, hv1, h⟩ := xbind h
    refine xr_getI (pc' := 9) rfl (by decide) hv1 rfl ?_
    rcases xite h with ⟨hc, h⟩ | ⟨hc, h⟩
    · refine xr_icmp_ge_t (t := 21) rfl hc ?_
      refine xr_iconst (v := -1) (pc' := 22) rfl (by decide) rfl ?_
      obtain ⟨rfl, rfl⟩ := xsome2 h
      exact xr_iret rfl mR_69
    · refine xr_icmp_ge_f (pc' := 12) rfl hc rfl ?_
      refine xr_aload_n (pc' := 13) rfl rfl rfl ?_
      obtain ⟨v2, hv2, h⟩ := xbind h
      refine xr_getR (pc' := 16) rfl (by decide) hv2 rfl ?_
      refine xr_iload_n (pc' := 17) rfl rfl rfl ?_
      obtain ⟨v3, hv3, h⟩ := xbind h
      refine xr_aI (pc' := 18) rfl hv3 rfl ?_
      refine xr_goto (t := 22) rfl ?_
      obtain ⟨rfl, rfl⟩ := xsome2 h
      exact xr_iret rfl mR_69
-- 70: MagazineDepot$Depot.unmake(LMagazineDepot$Cache;I)V
def fD_unmake_14  : Nat → xMem → Option xId → Option xId → Int32 → Option xId → Int32 → Option xMem
  | 0, _, _, _, _, _, _ => none
  | n + 1, M, l0, l1, l2, l3, l4 =>
    (xgI M l3 4 1).bind fun v3 =>
    if v3 ≤ l4 then (
      (xob M l3 4).bind fun u4 =>
      (fP_clear M u4 ).bind fun q5 =>
      (xgR q5 l0 3 3).bind fun v6 =>
      (xuZ q5 v6 l2 (0 : Int32)).bind fun M7 =>
      (xgI M7 l0 3 5).bind fun v8 =>
      (xpI M7 l0 3 5 (v8 - (1 : Int32))).bind fun M9 =>
      some M9)
    else
    (xob M l3 4).bind fun u10 =>
    (fP_get M u10 l4).bind fun q11 =>
    (xob q11.2 l0 3).bind fun u12 =>
    (fD_endBuffer q11.2 u12 l1 q11.1).bind fun q13 =>
    fD_unmake_14  n q13 l0 l1 l2 l3 (l4 + 1)
set_option maxRecDepth 20000 in
theorem TfD_unmake_14 {M' : xMem}  : ∀ (n : Nat) (M : xMem) (l0 : Option xId) (l1 : Option xId) (l2 : Int32) (l3 : Option xId) (l4 : Int32) , fD_unmake_14  n M l0 l1 l2 l3 l4 = some M' → xrun none 2 70 14 ([some (.inr (.inr l0)), some (.inr (.inr l1)), some (.inl l2), some (.inr (.inr l3)), some (.inl l4)]) ([]) M (none, M') := by
  intro n
  induction n with
  | zero => intro M l0 l1 l2 l3 l4  h; unfold fD_unmake_14 at h; cases h
  | succ n ih =>
    intro M l0 l1 l2 l3 l4  h
    unfold fD_unmake_14 at h
    refine xr_iload (pc' := 16) rfl rfl rfl ?_
    refine xr_aload_n (pc' := 17) rfl rfl rfl ?_
    obtain ⟨v3, hv3, h⟩ := xbind h
    refine xr_getI (pc' := 20) rfl (by decide) hv3 rfl ?_
    rcases xite h with ⟨hc, h⟩ | ⟨hc, h⟩
    · refine xr_icmp_ge_t (t := 40) rfl hc ?_
      refine xr_aload_n (pc' := 41) rfl rfl rfl ?_
      obtain ⟨u4, hu4, h⟩ := xbind h
      obtain ⟨q5, hq5, h⟩ := xbind h
      refine xr_callV (pc' := 44) (C := 4) (As := []) (rest := _) rfl hu4 mC_15 mL_15 rfl (Nat.le_of_ble_eq_true rfl) rfl (Nat.le_of_ble_eq_true rfl) (TfP_clear _  hq5) rfl ?_
      refine xr_aload_n (pc' := 45) rfl rfl rfl ?_
      obtain ⟨v6, hv6, h⟩ := xbind h
      refine xr_getR (pc' := 48) rfl (by decide) hv6 rfl ?_
      refine xr_iload_n (pc' := 49) rfl rfl rfl ?_
      refine xr_iconst (v := 0) (pc' := 50) rfl (by decide) rfl ?_
      obtain ⟨M7, hM7, h⟩ := xbind h
      refine xr_uZ (pc' := 51) rfl hM7 rfl ?_
      refine xr_aload_n (pc' := 52) rfl rfl rfl ?_
      refine xr_dup_a (pc' := 53) rfl rfl ?_
      obtain ⟨v8, hv8, h⟩ := xbind h
      refine xr_getI (pc' := 56) rfl (by decide) hv8 rfl ?_
      refine xr_iconst (v := 1) (pc' := 57) rfl (by decide) rfl ?_
      refine xr_isub (pc' := 58) rfl rfl ?_
      obtain ⟨M9, hM9, h⟩ := xbind h
      refine xr_putI (pc' := 61) rfl (by decide) hM9 rfl ?_
      obtain rfl := xsome1 h
      exact xr_ret rfl mR_70
    · refine xr_icmp_ge_f (pc' := 23) rfl hc rfl ?_
      refine xr_aload_n (pc' := 24) rfl rfl rfl ?_
      refine xr_aload_n (pc' := 25) rfl rfl rfl ?_
      refine xr_aload_n (pc' := 26) rfl rfl rfl ?_
      refine xr_iload (pc' := 28) rfl rfl rfl ?_
      obtain ⟨u10, hu10, h⟩ := xbind h
      obtain ⟨q11, hq11, h⟩ := xbind h
      refine xr_callV (pc' := 31) (C := 4) (As := [_]) (rest := _) rfl hu10 mC_69 mL_69 rfl (Nat.le_of_ble_eq_true rfl) rfl (Nat.le_of_ble_eq_true rfl) (TfP_get _ _ hq11) rfl ?_
      obtain ⟨u12, hu12, h⟩ := xbind h
      obtain ⟨q13, hq13, h⟩ := xbind h
      refine xr_callV (pc' := 34) (C := 3) (As := [_, _]) (rest := _) rfl hu12 mC_56 mL_56 rfl (Nat.le_of_ble_eq_true rfl) rfl (Nat.le_of_ble_eq_true rfl) (TfD_endBuffer _ _ _ hq13) rfl ?_
      refine xr_iinc (c := 1) (pc' := 37) rfl (by decide) rfl rfl rfl ?_
      refine xr_goto (t := 14) rfl ?_
      exact ih q13 _ _ _ _ _  h
def fD_unmake (M : xMem) (this : xId) (a0 : Option xId) (a1 : Int32) : Option xMem :=
  (xob M (some this) 3).bind fun u1 =>
  (fD_magazineAt M u1 a1).bind fun q2 =>
  if q2.1 = none then (
    some q2.2)
  else
  fD_unmake_14  xF q2.2 (some this) a0 a1 q2.1 (0 : Int32)
set_option maxRecDepth 20000 in
theorem TfD_unmake {M M' : xMem} (this : xId) (a0 : Option xId) (a1 : Int32) (h : fD_unmake M this a0 a1 = some M') : xrun none 2 70 0 ([some (.inr (.inr (some this))), some (.inr (.inr a0)), some (.inl a1), none, none]) ([]) M (none, M') := by
  unfold fD_unmake at h
  refine xr_aload_n (pc' := 1) rfl rfl rfl ?_
  refine xr_iload_n (pc' := 2) rfl rfl rfl ?_
  obtain ⟨u1, hu1, h⟩ := xbind h
  obtain ⟨q2, hq2, h⟩ := xbind h
  refine xr_callV (pc' := 5) (C := 3) (As := [_]) (rest := _) rfl hu1 mC_23 mL_23 rfl (Nat.le_of_ble_eq_true rfl) rfl (Nat.le_of_ble_eq_true rfl) (TfD_magazineAt _ _ hq2) rfl ?_
  refine xr_astore_n (pc' := 6) rfl rfl rfl ?_
  refine xr_aload_n (pc' := 7) rfl rfl rfl ?_
  rcases xite h with ⟨hc, h⟩ | ⟨hc, h⟩
  · refine xr_ifnonnull_n (pc' := 10) rfl hc rfl ?_
    obtain rfl := xsome1 h
    exact xr_ret rfl mR_70
  · refine xr_ifnonnull_s (t := 11) rfl hc ?_
    refine xr_iconst (v := 0) (pc' := 12) rfl (by decide) rfl ?_
    refine xr_istore (pc' := 14) rfl rfl rfl ?_
    exact TfD_unmake_14   xF q2.2 _ _ _ _ _  h
-- 71: MagazineDepot$Pile.dropFirst(I)V
def fP_dropFirst (M : xMem) (this : xId) (a0 : Int32) : Option xMem :=
  (xgI M (some this) 4 1).bind fun v1 =>
  let x2 : Int32 := (if (0 : Int32) < (if v1 < a0 then v1 else a0) then (if v1 < a0 then v1 else a0) else (0 : Int32))
  (xgR M (some this) 4 0).bind fun v3 =>
  (xgR M (some this) 4 0).bind fun v4 =>
  (xgI M (some this) 4 1).bind fun v5 =>
  (xcpy M (v5 - x2) (0 : Int32) x2 v4 v3).bind fun M6 =>
  (xgI M6 (some this) 4 1).bind fun v7 =>
  (xpI M6 (some this) 4 1 (v7 - x2)).bind fun M8 =>
  some M8
set_option maxRecDepth 20000 in
theorem TfP_dropFirst {M M' : xMem} (this : xId) (a0 : Int32) (h : fP_dropFirst M this a0 = some M') : xrun none 1 71 0 ([some (.inr (.inr (some this))), some (.inl a0), none]) ([]) M (none, M') := by
  unfold fP_dropFirst at h
  refine xr_iconst (v := 0) (pc' := 1) rfl (by decide) rfl ?_
  refine xr_iload_n (pc' := 2) rfl rfl rfl ?_
  refine xr_aload_n (pc' := 3) rfl rfl rfl ?_
  obtain ⟨v1, hv1, h⟩ := xbind h
  refine xr_getI (pc' := 6) rfl (by decide) hv1 rfl ?_
  refine xr_min (pc' := 9) rfl (Nat.le_of_ble_eq_true rfl) (Nat.le_of_ble_eq_true rfl) rfl ?_
  refine xr_max (pc' := 12) rfl (Nat.le_of_ble_eq_true rfl) (Nat.le_of_ble_eq_true rfl) rfl ?_
  refine xr_istore_n (pc' := 13) rfl rfl rfl ?_
  refine xr_aload_n (pc' := 14) rfl rfl rfl ?_
  obtain ⟨v3, hv3, h⟩ := xbind h
  refine xr_getR (pc' := 17) rfl (by decide) hv3 rfl ?_
  refine xr_iload_n (pc' := 18) rfl rfl rfl ?_
  refine xr_aload_n (pc' := 19) rfl rfl rfl ?_
  obtain ⟨v4, hv4, h⟩ := xbind h
  refine xr_getR (pc' := 22) rfl (by decide) hv4 rfl ?_
  refine xr_iconst (v := 0) (pc' := 23) rfl (by decide) rfl ?_
  refine xr_aload_n (pc' := 24) rfl rfl rfl ?_
  obtain ⟨v5, hv5, h⟩ := xbind h
  refine xr_getI (pc' := 27) rfl (by decide) hv5 rfl ?_
  refine xr_iload_n (pc' := 28) rfl rfl rfl ?_
  refine xr_isub (pc' := 29) rfl rfl ?_
  obtain ⟨M6, hM6, h⟩ := xbind h
  refine xr_copy (pc' := 32) rfl hM6 (Nat.le_of_ble_eq_true rfl) (Nat.le_of_ble_eq_true rfl) rfl ?_
  refine xr_aload_n (pc' := 33) rfl rfl rfl ?_
  refine xr_dup_a (pc' := 34) rfl rfl ?_
  obtain ⟨v7, hv7, h⟩ := xbind h
  refine xr_getI (pc' := 37) rfl (by decide) hv7 rfl ?_
  refine xr_iload_n (pc' := 38) rfl rfl rfl ?_
  refine xr_isub (pc' := 39) rfl rfl ?_
  obtain ⟨M8, hM8, h⟩ := xbind h
  refine xr_putI (pc' := 42) rfl (by decide) hM8 rfl ?_
  obtain rfl := xsome1 h
  exact xr_ret rfl mR_71
-- 68: MagazineDepot$Depot.unmakeFirst(LMagazineDepot$Cache;LMagazineDepot$Pile;I)V
def fD_unmakeFirst_35  (M : xMem) (l2 : Option xId) (l3 : Int32)  : Option xMem :=
  (xob M l2 4).bind fun u6 =>
  (fP_dropFirst M u6 l3).bind fun q7 =>
  some q7
set_option maxRecDepth 20000 in
theorem TfD_unmakeFirst_35 {M' : xMem}  (M : xMem) (l2 : Option xId) (l3 : Int32)  (o0 : Option xId) (o1 : Option xId) (o4 : Int32) (h : fD_unmakeFirst_35  M l2 l3  = some M') : xrun none 3 68 35 ([some (.inr (.inr o0)), some (.inr (.inr o1)), some (.inr (.inr l2)), some (.inl l3), some (.inl o4)]) ([]) M (none, M') := by
  unfold fD_unmakeFirst_35 at h
  refine xr_aload_n (pc' := 36) rfl rfl rfl ?_
  refine xr_iload_n (pc' := 37) rfl rfl rfl ?_
  obtain ⟨u6, hu6, h⟩ := xbind h
  obtain ⟨q7, hq7, h⟩ := xbind h
  refine xr_callV (pc' := 40) (C := 4) (As := [_]) (rest := _) rfl hu6 mC_71 mL_71 rfl (Nat.le_of_ble_eq_true rfl) rfl (Nat.le_of_ble_eq_true rfl) (TfP_dropFirst _ _ hq7) rfl ?_
  obtain rfl := xsome1 h
  exact xr_ret rfl mR_68
def fD_unmakeFirst_3  : Nat → xMem → Option xId → Option xId → Option xId → Int32 → Int32 → Option xMem
  | 0, _, _, _, _, _, _ => none
  | n + 1, M, l0, l1, l2, l3, l4 =>
    if l3 ≤ l4 then (
      fD_unmakeFirst_35  M l2 l3 )
    else
    (xgI M l2 4 1).bind fun v1 =>
    if v1 ≤ l4 then (
      fD_unmakeFirst_35  M l2 l3 )
    else
    (xob M l2 4).bind fun u2 =>
    (fP_get M u2 l4).bind fun q3 =>
    (xob q3.2 l0 3).bind fun u4 =>
    (fD_unmake q3.2 u4 l1 q3.1).bind fun q5 =>
    fD_unmakeFirst_3  n q5 l0 l1 l2 l3 (l4 + 1)
set_option maxRecDepth 20000 in
theorem TfD_unmakeFirst_3 {M' : xMem}  : ∀ (n : Nat) (M : xMem) (l0 : Option xId) (l1 : Option xId) (l2 : Option xId) (l3 : Int32) (l4 : Int32) , fD_unmakeFirst_3  n M l0 l1 l2 l3 l4 = some M' → xrun none 3 68 3 ([some (.inr (.inr l0)), some (.inr (.inr l1)), some (.inr (.inr l2)), some (.inl l3), some (.inl l4)]) ([]) M (none, M') := by
  intro n
  induction n with
  | zero => intro M l0 l1 l2 l3 l4  h; unfold fD_unmakeFirst_3 at h; cases h
  | succ n ih =>
    intro M l0 l1 l2 l3 l4  h
    unfold fD_unmakeFirst_3 at h
    refine xr_iload (pc' := 5) rfl rfl rfl ?_
    refine xr_iload_n (pc' := 6) rfl rfl rfl ?_
    rcases xite h with ⟨hc, h⟩ | ⟨hc, h⟩
    · refine xr_icmp_ge_t (t := 35) rfl hc ?_
      exact TfD_unmakeFirst_35   M _ _  _ _ _ h
    · refine xr_icmp_ge_f (pc' := 9) rfl hc rfl ?_
      refine xr_iload (pc' := 11) rfl rfl rfl ?_
      refine xr_aload_n (pc' := 12) rfl rfl rfl ?_
      obtain ⟨v1, hv1, h⟩ := xbind h
      refine xr_getI (pc' := 15) rfl (by decide) hv1 rfl ?_
      rcases xite h with ⟨hc, h⟩ | ⟨hc, h⟩
      · refine xr_icmp_ge_t (t := 35) rfl hc ?_
        exact TfD_unmakeFirst_35   M _ _  _ _ _ h
      · refine xr_icmp_ge_f (pc' := 18) rfl hc rfl ?_
        refine xr_aload_n (pc' := 19) rfl rfl rfl ?_
        refine xr_aload_n (pc' := 20) rfl rfl rfl ?_
        refine xr_aload_n (pc' := 21) rfl rfl rfl ?_
        refine xr_iload (pc' := 23) rfl rfl rfl ?_
        obtain ⟨u2, hu2, h⟩ := xbind h
        obtain ⟨q3, hq3, h⟩ := xbind h
        refine xr_callV (pc' := 26) (C := 4) (As := [_]) (rest := _) rfl hu2 mC_69 mL_69 rfl (Nat.le_of_ble_eq_true rfl) rfl (Nat.le_of_ble_eq_true rfl) (TfP_get _ _ hq3) rfl ?_
        obtain ⟨u4, hu4, h⟩ := xbind h
        obtain ⟨q5, hq5, h⟩ := xbind h
        refine xr_callV (pc' := 29) (C := 3) (As := [_, _]) (rest := _) rfl hu4 mC_70 mL_70 rfl (Nat.le_of_ble_eq_true rfl) rfl (Nat.le_of_ble_eq_true rfl) (TfD_unmake _ _ _ hq5) rfl ?_
        refine xr_iinc (c := 1) (pc' := 32) rfl (by decide) rfl rfl rfl ?_
        refine xr_goto (t := 3) rfl ?_
        exact ih q5 _ _ _ _ _  h
def fD_unmakeFirst (M : xMem) (this : xId) (a0 : Option xId) (a1 : Option xId) (a2 : Int32) : Option xMem :=
  fD_unmakeFirst_3  xF M (some this) a0 a1 a2 (0 : Int32)
set_option maxRecDepth 20000 in
theorem TfD_unmakeFirst {M M' : xMem} (this : xId) (a0 : Option xId) (a1 : Option xId) (a2 : Int32) (h : fD_unmakeFirst M this a0 a1 a2 = some M') : xrun none 3 68 0 ([some (.inr (.inr (some this))), some (.inr (.inr a0)), some (.inr (.inr a1)), some (.inl a2), none]) ([]) M (none, M') := by
  unfold fD_unmakeFirst at h
  refine xr_iconst (v := 0) (pc' := 1) rfl (by decide) rfl ?_
  refine xr_istore (pc' := 3) rfl rfl rfl ?_
  exact TfD_unmakeFirst_3   xF M _ _ _ _ _  h
-- 73: MagazineDepot$Cache.followVisits()Z
def fC_followVisits_55  (M : xMem) (l0 : Option xId) (s0 : Option xId) (s1 : Int32) : Option (Int32 × xMem) :=
  (xpI M s0 2 7 s1).bind fun M9 =>
  (xgI M9 l0 2 7).bind fun v10 =>
  if (3 : Int32) ≤ v10 then (
    (xpI M9 l0 2 7 (0 : Int32)).bind fun M11 =>
    (xgI M11 l0 2 4).bind fun v12 =>
    if (1 : Int32) < v12 then (
      (xgI M11 l0 2 4).bind fun v13 =>
      (xpI M11 l0 2 4 (v13 - (1 : Int32))).bind fun M14 =>
      some ((1 : Int32), M14))
    else
    some ((0 : Int32), M11))
  else
  some ((0 : Int32), M9)
set_option maxRecDepth 20000 in
theorem TfC_followVisits_55 {M' : xMem} {r : Int32}  (M : xMem) (l0 : Option xId) (s0 : Option xId) (s1 : Int32)  (h : fC_followVisits_55  M l0 s0 s1 = some (r, M')) : xrun none 0 73 55 ([some (.inr (.inr l0))]) ([.inl s1, .inr (.inr s0)]) M (some (.inl r), M') := by
  unfold fC_followVisits_55 at h
  obtain ⟨M9, hM9, h⟩ := xbind h
  refine xr_putI (pc' := 58) rfl (by decide) hM9 rfl ?_
  refine xr_aload_n (pc' := 59) rfl rfl rfl ?_
  obtain ⟨v10, hv10, h⟩ := xbind h
  refine xr_getI (pc' := 62) rfl (by decide) hv10 rfl ?_
  refine xr_iconst (v := 3) (pc' := 63) rfl (by decide) rfl ?_
  rcases xite h with ⟨hc, h⟩ | ⟨hc, h⟩
  · refine xr_icmp_ge_t (t := 68) rfl hc ?_
    refine xr_aload_n (pc' := 69) rfl rfl rfl ?_
    refine xr_iconst (v := 0) (pc' := 70) rfl (by decide) rfl ?_
    obtain ⟨M11, hM11, h⟩ := xbind h
    refine xr_putI (pc' := 73) rfl (by decide) hM11 rfl ?_
    refine xr_aload_n (pc' := 74) rfl rfl rfl ?_
    obtain ⟨v12, hv12, h⟩ := xbind h
    refine xr_getI (pc' := 77) rfl (by decide) hv12 rfl ?_
    refine xr_iconst (v := 1) (pc' := 78) rfl (by decide) rfl ?_
    rcases xite h with ⟨hc, h⟩ | ⟨hc, h⟩
    · refine xr_icmp_gt_t (t := 83) rfl hc ?_
      refine xr_aload_n (pc' := 84) rfl rfl rfl ?_
      refine xr_dup_a (pc' := 85) rfl rfl ?_
      obtain ⟨v13, hv13, h⟩ := xbind h
      refine xr_getI (pc' := 88) rfl (by decide) hv13 rfl ?_
      refine xr_iconst (v := 1) (pc' := 89) rfl (by decide) rfl ?_
      refine xr_isub (pc' := 90) rfl rfl ?_
      obtain ⟨M14, hM14, h⟩ := xbind h
      refine xr_putI (pc' := 93) rfl (by decide) hM14 rfl ?_
      refine xr_iconst (v := 1) (pc' := 94) rfl (by decide) rfl ?_
      obtain ⟨rfl, rfl⟩ := xsome2 h
      exact xr_zret rfl mR_73 (by decide)
    · refine xr_icmp_gt_f (pc' := 81) rfl hc rfl ?_
      refine xr_iconst (v := 0) (pc' := 82) rfl (by decide) rfl ?_
      obtain ⟨rfl, rfl⟩ := xsome2 h
      exact xr_zret rfl mR_73 (by decide)
  · refine xr_icmp_ge_f (pc' := 66) rfl hc rfl ?_
    refine xr_iconst (v := 0) (pc' := 67) rfl (by decide) rfl ?_
    obtain ⟨rfl, rfl⟩ := xsome2 h
    exact xr_zret rfl mR_73 (by decide)
def fC_followVisits_37  (M : xMem) (l0 : Option xId)  : Option (Int32 × xMem) :=
  (xgI M l0 2 6).bind fun v7 =>
  if v7 = 0 then (
    (xgI M l0 2 7).bind fun v8 =>
    fC_followVisits_55  M l0 l0 (v8 + (1 : Int32)))
  else
  fC_followVisits_55  M l0 l0 (0 : Int32)
set_option maxRecDepth 20000 in
theorem TfC_followVisits_37 {M' : xMem} {r : Int32}  (M : xMem) (l0 : Option xId)   (h : fC_followVisits_37  M l0  = some (r, M')) : xrun none 0 73 37 ([some (.inr (.inr l0))]) ([]) M (some (.inl r), M') := by
  unfold fC_followVisits_37 at h
  refine xr_aload_n (pc' := 38) rfl rfl rfl ?_
  refine xr_aload_n (pc' := 39) rfl rfl rfl ?_
  obtain ⟨v7, hv7, h⟩ := xbind h
  refine xr_getI (pc' := 42) rfl (by decide) hv7 rfl ?_
  rcases xite h with ⟨hc, h⟩ | ⟨hc, h⟩
  · refine xr_if_ne_f (pc' := 45) rfl hc rfl ?_
    refine xr_aload_n (pc' := 46) rfl rfl rfl ?_
    obtain ⟨v8, hv8, h⟩ := xbind h
    refine xr_getI (pc' := 49) rfl (by decide) hv8 rfl ?_
    refine xr_iconst (v := 1) (pc' := 50) rfl (by decide) rfl ?_
    refine xr_iadd (pc' := 51) rfl rfl ?_
    refine xr_goto (t := 55) rfl ?_
    exact TfC_followVisits_55   M _ _ _  h
  · refine xr_if_ne_t (t := 54) rfl hc ?_
    refine xr_iconst (v := 0) (pc' := 55) rfl (by decide) rfl ?_
    exact TfC_followVisits_55   M _ _ _  h
def fC_followVisits (M : xMem) (this : xId) : Option (Int32 × xMem) :=
  (xgI M (some this) 2 6).bind fun v1 =>
  (xgI M (some this) 2 5).bind fun v2 =>
  if v1 ≤ v2 then (
    fC_followVisits_37  M (some this) )
  else
  (xgI M (some this) 2 4).bind fun v3 =>
  if (8 : Int32) ≤ v3 then (
    fC_followVisits_37  M (some this) )
  else
  (xpI M (some this) 2 7 (0 : Int32)).bind fun M4 =>
  (xgI M4 (some this) 2 4).bind fun v5 =>
  (xpI M4 (some this) 2 4 (v5 + (1 : Int32))).bind fun M6 =>
  some ((1 : Int32), M6)
set_option maxRecDepth 20000 in
theorem TfC_followVisits {M M' : xMem} {r : Int32} (this : xId) (h : fC_followVisits M this = some (r, M')) : xrun none 0 73 0 ([some (.inr (.inr (some this)))]) ([]) M (some (.inl r), M') := by
  unfold fC_followVisits at h
  refine xr_aload_n (pc' := 1) rfl rfl rfl ?_
  obtain ⟨v1, hv1, h⟩ := xbind h
  refine xr_getI (pc' := 4) rfl (by decide) hv1 rfl ?_
  refine xr_aload_n (pc' := 5) rfl rfl rfl ?_
  obtain ⟨v2, hv2, h⟩ := xbind h
  refine xr_getI (pc' := 8) rfl (by decide) hv2 rfl ?_
  rcases xite h with ⟨hc, h⟩ | ⟨hc, h⟩
  · refine xr_icmp_le_t (t := 37) rfl hc ?_
    exact TfC_followVisits_37   M _   h
  · refine xr_icmp_le_f (pc' := 11) rfl hc rfl ?_
    refine xr_aload_n (pc' := 12) rfl rfl rfl ?_
    obtain ⟨v3, hv3, h⟩ := xbind h
    refine xr_getI (pc' := 15) rfl (by decide) hv3 rfl ?_
    refine xr_bipush (v := 8) (pc' := 17) rfl (by decide) rfl ?_
    rcases xite h with ⟨hc, h⟩ | ⟨hc, h⟩
    · refine xr_icmp_ge_t (t := 37) rfl hc ?_
      exact TfC_followVisits_37   M _   h
    · refine xr_icmp_ge_f (pc' := 20) rfl hc rfl ?_
      refine xr_aload_n (pc' := 21) rfl rfl rfl ?_
      refine xr_iconst (v := 0) (pc' := 22) rfl (by decide) rfl ?_
      obtain ⟨M4, hM4, h⟩ := xbind h
      refine xr_putI (pc' := 25) rfl (by decide) hM4 rfl ?_
      refine xr_aload_n (pc' := 26) rfl rfl rfl ?_
      refine xr_dup_a (pc' := 27) rfl rfl ?_
      obtain ⟨v5, hv5, h⟩ := xbind h
      refine xr_getI (pc' := 30) rfl (by decide) hv5 rfl ?_
      refine xr_iconst (v := 1) (pc' := 31) rfl (by decide) rfl ?_
      refine xr_iadd (pc' := 32) rfl rfl ?_
      obtain ⟨M6, hM6, h⟩ := xbind h
      refine xr_putI (pc' := 35) rfl (by decide) hM6 rfl ?_
      refine xr_iconst (v := 1) (pc' := 36) rfl (by decide) rfl ?_
      obtain ⟨rfl, rfl⟩ := xsome2 h
      exact xr_zret rfl mR_73 (by decide)
-- 74: MagazineDepot$Depot.unmakeAll(LMagazineDepot$Cache;)V
def fD_unmakeAll_37  : Nat → xMem → Option xId → Option xId → Int32 → Option xMem
  | 0, _, _, _, _ => none
  | n + 1, M, l0, l1, l2 =>
    if (24 : Int32) ≤ l2 then (
      (xob M l1 2).bind fun u9 =>
      (fC_loseMagazines M u9 ).bind fun q10 =>
      some q10)
    else
    (xgR M l1 2 16).bind fun v11 =>
    (xob M v11 4).bind fun u12 =>
    (fP_get M u12 l2).bind fun q13 =>
    (xob q13.2 l0 3).bind fun u14 =>
    (fD_unmake q13.2 u14 l1 q13.1).bind fun q15 =>
    (xgR q15 l1 2 17).bind fun v16 =>
    (xob q15 v16 4).bind fun u17 =>
    (fP_get q15 u17 l2).bind fun q18 =>
    (xob q18.2 l0 3).bind fun u19 =>
    (fD_unmake q18.2 u19 l1 q18.1).bind fun q20 =>
    fD_unmakeAll_37  n q20 l0 l1 (l2 + 1)
set_option maxRecDepth 20000 in
theorem TfD_unmakeAll_37 {M' : xMem}  : ∀ (n : Nat) (M : xMem) (l0 : Option xId) (l1 : Option xId) (l2 : Int32) , fD_unmakeAll_37  n M l0 l1 l2 = some M' → xrun none 3 74 37 ([some (.inr (.inr l0)), some (.inr (.inr l1)), some (.inl l2)]) ([]) M (none, M') := by
  intro n
  induction n with
  | zero => intro M l0 l1 l2  h; unfold fD_unmakeAll_37 at h; cases h
  | succ n ih =>
    intro M l0 l1 l2  h
    unfold fD_unmakeAll_37 at h
    refine xr_iload_n (pc' := 38) rfl rfl rfl ?_
    refine xr_bipush (v := 24) (pc' := 40) rfl (by decide) rfl ?_
    rcases xite h with ⟨hc, h⟩ | ⟨hc, h⟩
    · refine xr_icmp_ge_t (t := 75) rfl hc ?_
      refine xr_aload_n (pc' := 76) rfl rfl rfl ?_
      obtain ⟨u9, hu9, h⟩ := xbind h
      obtain ⟨q10, hq10, h⟩ := xbind h
      refine xr_callV (pc' := 79) (C := 2) (As := []) (rest := _) rfl hu9 mC_14 mL_14 rfl (Nat.le_of_ble_eq_true rfl) rfl (Nat.le_of_ble_eq_true rfl) (TfC_loseMagazines _  hq10) rfl ?_
      obtain rfl := xsome1 h
      exact xr_ret rfl mR_74
    · refine xr_icmp_ge_f (pc' := 43) rfl hc rfl ?_
      refine xr_aload_n (pc' := 44) rfl rfl rfl ?_
      refine xr_aload_n (pc' := 45) rfl rfl rfl ?_
      refine xr_aload_n (pc' := 46) rfl rfl rfl ?_
      obtain ⟨v11, hv11, h⟩ := xbind h
      refine xr_getR (pc' := 49) rfl (by decide) hv11 rfl ?_
      refine xr_iload_n (pc' := 50) rfl rfl rfl ?_
      obtain ⟨u12, hu12, h⟩ := xbind h
      obtain ⟨q13, hq13, h⟩ := xbind h
      refine xr_callV (pc' := 53) (C := 4) (As := [_]) (rest := _) rfl hu12 mC_69 mL_69 rfl (Nat.le_of_ble_eq_true rfl) rfl (Nat.le_of_ble_eq_true rfl) (TfP_get _ _ hq13) rfl ?_
      obtain ⟨u14, hu14, h⟩ := xbind h
      obtain ⟨q15, hq15, h⟩ := xbind h
      refine xr_callV (pc' := 56) (C := 3) (As := [_, _]) (rest := _) rfl hu14 mC_70 mL_70 rfl (Nat.le_of_ble_eq_true rfl) rfl (Nat.le_of_ble_eq_true rfl) (TfD_unmake _ _ _ hq15) rfl ?_
      refine xr_aload_n (pc' := 57) rfl rfl rfl ?_
      refine xr_aload_n (pc' := 58) rfl rfl rfl ?_
      refine xr_aload_n (pc' := 59) rfl rfl rfl ?_
      obtain ⟨v16, hv16, h⟩ := xbind h
      refine xr_getR (pc' := 62) rfl (by decide) hv16 rfl ?_
      refine xr_iload_n (pc' := 63) rfl rfl rfl ?_
      obtain ⟨u17, hu17, h⟩ := xbind h
      obtain ⟨q18, hq18, h⟩ := xbind h
      refine xr_callV (pc' := 66) (C := 4) (As := [_]) (rest := _) rfl hu17 mC_69 mL_69 rfl (Nat.le_of_ble_eq_true rfl) rfl (Nat.le_of_ble_eq_true rfl) (TfP_get _ _ hq18) rfl ?_
      obtain ⟨u19, hu19, h⟩ := xbind h
      obtain ⟨q20, hq20, h⟩ := xbind h
      refine xr_callV (pc' := 69) (C := 3) (As := [_, _]) (rest := _) rfl hu19 mC_70 mL_70 rfl (Nat.le_of_ble_eq_true rfl) rfl (Nat.le_of_ble_eq_true rfl) (TfD_unmake _ _ _ hq20) rfl ?_
      refine xr_iinc (c := 1) (pc' := 72) rfl (by decide) rfl rfl rfl ?_
      refine xr_goto (t := 37) rfl ?_
      exact ih q20 _ _ _  h
def fD_unmakeAll_2  : Nat → xMem → Option xId → Option xId → Int32 → Option xMem
  | 0, _, _, _, _ => none
  | n + 1, M, l0, l1, l2 =>
    if (4 : Int32) ≤ l2 then (
      fD_unmakeAll_37  xF M l0 l1 (0 : Int32))
    else
    (xgR M l1 2 14).bind fun v1 =>
    (xaI M v1 l2).bind fun v2 =>
    (xob M l0 3).bind fun u3 =>
    (fD_unmake M u3 l1 v2).bind fun q4 =>
    (xgR q4 l1 2 15).bind fun v5 =>
    (xaI q4 v5 l2).bind fun v6 =>
    (xob q4 l0 3).bind fun u7 =>
    (fD_unmake q4 u7 l1 v6).bind fun q8 =>
    fD_unmakeAll_2  n q8 l0 l1 (l2 + 1)
set_option maxRecDepth 20000 in
theorem TfD_unmakeAll_2 {M' : xMem}  : ∀ (n : Nat) (M : xMem) (l0 : Option xId) (l1 : Option xId) (l2 : Int32) , fD_unmakeAll_2  n M l0 l1 l2 = some M' → xrun none 3 74 2 ([some (.inr (.inr l0)), some (.inr (.inr l1)), some (.inl l2)]) ([]) M (none, M') := by
  intro n
  induction n with
  | zero => intro M l0 l1 l2  h; unfold fD_unmakeAll_2 at h; cases h
  | succ n ih =>
    intro M l0 l1 l2  h
    unfold fD_unmakeAll_2 at h
    refine xr_iload_n (pc' := 3) rfl rfl rfl ?_
    refine xr_iconst (v := 4) (pc' := 4) rfl (by decide) rfl ?_
    rcases xite h with ⟨hc, h⟩ | ⟨hc, h⟩
    · refine xr_icmp_ge_t (t := 35) rfl hc ?_
      refine xr_iconst (v := 0) (pc' := 36) rfl (by decide) rfl ?_
      refine xr_istore_n (pc' := 37) rfl rfl rfl ?_
      exact TfD_unmakeAll_37   xF M _ _ _  h
    · refine xr_icmp_ge_f (pc' := 7) rfl hc rfl ?_
      refine xr_aload_n (pc' := 8) rfl rfl rfl ?_
      refine xr_aload_n (pc' := 9) rfl rfl rfl ?_
      refine xr_aload_n (pc' := 10) rfl rfl rfl ?_
      obtain ⟨v1, hv1, h⟩ := xbind h
      refine xr_getR (pc' := 13) rfl (by decide) hv1 rfl ?_
      refine xr_iload_n (pc' := 14) rfl rfl rfl ?_
      obtain ⟨v2, hv2, h⟩ := xbind h
      refine xr_aI (pc' := 15) rfl hv2 rfl ?_
      obtain ⟨u3, hu3, h⟩ := xbind h
      obtain ⟨q4, hq4, h⟩ := xbind h
      refine xr_callV (pc' := 18) (C := 3) (As := [_, _]) (rest := _) rfl hu3 mC_70 mL_70 rfl (Nat.le_of_ble_eq_true rfl) rfl (Nat.le_of_ble_eq_true rfl) (TfD_unmake _ _ _ hq4) rfl ?_
      refine xr_aload_n (pc' := 19) rfl rfl rfl ?_
      refine xr_aload_n (pc' := 20) rfl rfl rfl ?_
      refine xr_aload_n (pc' := 21) rfl rfl rfl ?_
      obtain ⟨v5, hv5, h⟩ := xbind h
      refine xr_getR (pc' := 24) rfl (by decide) hv5 rfl ?_
      refine xr_iload_n (pc' := 25) rfl rfl rfl ?_
      obtain ⟨v6, hv6, h⟩ := xbind h
      refine xr_aI (pc' := 26) rfl hv6 rfl ?_
      obtain ⟨u7, hu7, h⟩ := xbind h
      obtain ⟨q8, hq8, h⟩ := xbind h
      refine xr_callV (pc' := 29) (C := 3) (As := [_, _]) (rest := _) rfl hu7 mC_70 mL_70 rfl (Nat.le_of_ble_eq_true rfl) rfl (Nat.le_of_ble_eq_true rfl) (TfD_unmake _ _ _ hq8) rfl ?_
      refine xr_iinc (c := 1) (pc' := 32) rfl (by decide) rfl rfl rfl ?_
      refine xr_goto (t := 2) rfl ?_
      exact ih q8 _ _ _  h
def fD_unmakeAll (M : xMem) (this : xId) (a0 : Option xId) : Option xMem :=
  fD_unmakeAll_2  xF M (some this) a0 (0 : Int32)
set_option maxRecDepth 20000 in
theorem TfD_unmakeAll {M M' : xMem} (this : xId) (a0 : Option xId) (h : fD_unmakeAll M this a0 = some M') : xrun none 3 74 0 ([some (.inr (.inr (some this))), some (.inr (.inr a0)), none]) ([]) M (none, M') := by
  unfold fD_unmakeAll at h
  refine xr_iconst (v := 0) (pc' := 1) rfl (by decide) rfl ?_
  refine xr_istore_n (pc' := 2) rfl rfl rfl ?_
  exact TfD_unmakeAll_2   xF M _ _ _  h
-- 67: MagazineDepot$Depot.endInterval()I
def fD_endInterval_75  (M : xMem) (l0 : Option xId) (l1 : Int32)  : Option (Int32 × xMem) :=
  (xgI M l0 3 6).bind fun v17 =>
  (xpI M l0 3 6 (v17 + (1 : Int32))).bind fun M18 =>
  (xgI M18 l0 3 5).bind fun v19 =>
  some ((l1 - v19), M18)
set_option maxRecDepth 20000 in
theorem TfD_endInterval_75 {M' : xMem} {r : Int32}  (M : xMem) (l0 : Option xId) (l1 : Int32)  (o2 : Int32) (o3 : Option xVal) (h : fD_endInterval_75  M l0 l1  = some (r, M')) : xrun none 4 67 75 ([some (.inr (.inr l0)), some (.inl l1), some (.inl o2), o3]) ([]) M (some (.inl r), M') := by
  unfold fD_endInterval_75 at h
  refine xr_aload_n (pc' := 76) rfl rfl rfl ?_
  refine xr_dup_a (pc' := 77) rfl rfl ?_
  obtain ⟨v17, hv17, h⟩ := xbind h
  refine xr_getI (pc' := 80) rfl (by decide) hv17 rfl ?_
  refine xr_iconst (v := 1) (pc' := 81) rfl (by decide) rfl ?_
  refine xr_iadd (pc' := 82) rfl rfl ?_
  obtain ⟨M18, hM18, h⟩ := xbind h
  refine xr_putI (pc' := 85) rfl (by decide) hM18 rfl ?_
  refine xr_iload_n (pc' := 86) rfl rfl rfl ?_
  refine xr_aload_n (pc' := 87) rfl rfl rfl ?_
  obtain ⟨v19, hv19, h⟩ := xbind h
  refine xr_getI (pc' := 90) rfl (by decide) hv19 rfl ?_
  refine xr_isub (pc' := 91) rfl rfl ?_
  obtain ⟨rfl, rfl⟩ := xsome2 h
  exact xr_iret rfl mR_67
def fD_endInterval_65 (k7 : xMem → Option xId → Int32 → Int32 → Option (Int32 × xMem)) (M : xMem) (l0 : Option xId) (l1 : Int32) (l2 : Int32) (l3 : Option xId)  : Option (Int32 × xMem) :=
  (xob M l3 2).bind fun u20 =>
  (fC_beginInterval M u20 ).bind fun q21 =>
  k7 q21 l0 l1 (l2 + 1)
set_option maxRecDepth 20000 in
theorem TfD_endInterval_65 {M' : xMem} {r : Int32} (k7 : xMem → Option xId → Int32 → Int32 → Option (Int32 × xMem)) (hk7 : ∀ (M : xMem) (l0 : Option xId) (l1 : Int32) (l2 : Int32) (o3 : Option xVal), k7 M l0 l1 l2 = some (r, M') → xrun none 4 67 7 ([some (.inr (.inr l0)), some (.inl l1), some (.inl l2), o3]) ([]) M (some (.inl r), M')) (M : xMem) (l0 : Option xId) (l1 : Int32) (l2 : Int32) (l3 : Option xId)   (h : fD_endInterval_65 k7 M l0 l1 l2 l3  = some (r, M')) : xrun none 4 67 65 ([some (.inr (.inr l0)), some (.inl l1), some (.inl l2), some (.inr (.inr l3))]) ([]) M (some (.inl r), M') := by
  unfold fD_endInterval_65 at h
  refine xr_aload_n (pc' := 66) rfl rfl rfl ?_
  obtain ⟨u20, hu20, h⟩ := xbind h
  obtain ⟨q21, hq21, h⟩ := xbind h
  refine xr_callV (pc' := 69) (C := 2) (As := []) (rest := _) rfl hu20 mC_16 mL_16 rfl (Nat.le_of_ble_eq_true rfl) rfl (Nat.le_of_ble_eq_true rfl) (TfC_beginInterval _  hq21) rfl ?_
  refine xr_iinc (c := 1) (pc' := 72) rfl (by decide) rfl rfl rfl ?_
  refine xr_goto (t := 7) rfl ?_
  exact hk7 q21 _ _ _ _ h
def fD_endInterval_7  : Nat → xMem → Option xId → Int32 → Int32 → Option (Int32 × xMem)
  | 0, _, _, _, _ => none
  | n + 1, M, l0, l1, l2 =>
    (xgI M l0 3 4).bind fun v2 =>
    if v2 ≤ l2 then (
      fD_endInterval_75  M l0 l1 )
    else
    if (4 : Int32) ≤ l2 then (
      fD_endInterval_75  M l0 l1 )
    else
    (xgR M l0 3 1).bind fun v3 =>
    (xaR M 23 v3 l2).bind fun v4 =>
    (xgR M v4 2 16).bind fun v5 =>
    (xgI M v4 2 8).bind fun v6 =>
    (xob M l0 3).bind fun u7 =>
    (fD_unmakeFirst M u7 v4 v5 v6).bind fun q8 =>
    (xgR q8 v4 2 17).bind fun v9 =>
    (xgI q8 v4 2 9).bind fun v10 =>
    (xob q8 l0 3).bind fun u11 =>
    (fD_unmakeFirst q8 u11 v4 v9 v10).bind fun q12 =>
    (xob q12 v4 2).bind fun u13 =>
    (fC_followVisits q12 u13 ).bind fun q14 =>
    if q14.1 = 0 then (
      fD_endInterval_65 (fun M l0 l1 l2 => fD_endInterval_7  n M l0 l1 l2) q14.2 l0 l1 l2 v4 )
    else
    (xob q14.2 l0 3).bind fun u15 =>
    (fD_unmakeAll q14.2 u15 v4).bind fun q16 =>
    fD_endInterval_65 (fun M l0 l1 l2 => fD_endInterval_7  n M l0 l1 l2) q16 l0 l1 l2 v4 
set_option maxRecDepth 20000 in
theorem TfD_endInterval_7 {M' : xMem} {r : Int32}  : ∀ (n : Nat) (M : xMem) (l0 : Option xId) (l1 : Int32) (l2 : Int32) (o3 : Option xVal), fD_endInterval_7  n M l0 l1 l2 = some (r, M') → xrun none 4 67 7 ([some (.inr (.inr l0)), some (.inl l1), some (.inl l2), o3]) ([]) M (some (.inl r), M') := by
  intro n
  induction n with
  | zero => intro M l0 l1 l2 o3 h; unfold fD_endInterval_7 at h; cases h
  | succ n ih =>
    intro M l0 l1 l2 o3 h
    unfold fD_endInterval_7 at h
    refine xr_iload_n (pc' := 8) rfl rfl rfl ?_
    refine xr_aload_n (pc' := 9) rfl rfl rfl ?_
    obtain ⟨v2, hv2, h⟩ := xbind h
    refine xr_getI (pc' := 12) rfl (by decide) hv2 rfl ?_
    rcases xite h with ⟨hc, h⟩ | ⟨hc, h⟩
    · refine xr_icmp_ge_t (t := 75) rfl hc ?_
      exact TfD_endInterval_75   M _ _  _ _ h
    · refine xr_icmp_ge_f (pc' := 15) rfl hc rfl ?_
      refine xr_iload_n (pc' := 16) rfl rfl rfl ?_
      refine xr_iconst (v := 4) (pc' := 17) rfl (by decide) rfl ?_
      rcases xite h with ⟨hc, h⟩ | ⟨hc, h⟩
      · refine xr_icmp_ge_t (t := 75) rfl hc ?_
        exact TfD_endInterval_75   M _ _  _ _ h
      · refine xr_icmp_ge_f (pc' := 20) rfl hc rfl ?_
        refine xr_aload_n (pc' := 21) rfl rfl rfl ?_
        obtain ⟨v3, hv3, h⟩ := xbind h
        refine xr_getR (pc' := 24) rfl (by decide) hv3 rfl ?_
        refine xr_iload_n (pc' := 25) rfl rfl rfl ?_
        obtain ⟨v4, hv4, h⟩ := xbind h
        refine xr_aR (pc' := 26) rfl hv4 rfl ?_
        refine xr_astore_n (pc' := 27) rfl rfl rfl ?_
        refine xr_aload_n (pc' := 28) rfl rfl rfl ?_
        refine xr_aload_n (pc' := 29) rfl rfl rfl ?_
        refine xr_aload_n (pc' := 30) rfl rfl rfl ?_
        obtain ⟨v5, hv5, h⟩ := xbind h
        refine xr_getR (pc' := 33) rfl (by decide) hv5 rfl ?_
        refine xr_aload_n (pc' := 34) rfl rfl rfl ?_
        obtain ⟨v6, hv6, h⟩ := xbind h
        refine xr_getI (pc' := 37) rfl (by decide) hv6 rfl ?_
        obtain ⟨u7, hu7, h⟩ := xbind h
        obtain ⟨q8, hq8, h⟩ := xbind h
        refine xr_callV (pc' := 40) (C := 3) (As := [_, _, _]) (rest := _) rfl hu7 mC_68 mL_68 rfl (Nat.le_of_ble_eq_true rfl) rfl (Nat.le_of_ble_eq_true rfl) (TfD_unmakeFirst _ _ _ _ hq8) rfl ?_
        refine xr_aload_n (pc' := 41) rfl rfl rfl ?_
        refine xr_aload_n (pc' := 42) rfl rfl rfl ?_
        refine xr_aload_n (pc' := 43) rfl rfl rfl ?_
        obtain ⟨v9, hv9, h⟩ := xbind h
        refine xr_getR (pc' := 46) rfl (by decide) hv9 rfl ?_
        refine xr_aload_n (pc' := 47) rfl rfl rfl ?_
        obtain ⟨v10, hv10, h⟩ := xbind h
        refine xr_getI (pc' := 50) rfl (by decide) hv10 rfl ?_
        obtain ⟨u11, hu11, h⟩ := xbind h
        obtain ⟨q12, hq12, h⟩ := xbind h
        refine xr_callV (pc' := 53) (C := 3) (As := [_, _, _]) (rest := _) rfl hu11 mC_68 mL_68 rfl (Nat.le_of_ble_eq_true rfl) rfl (Nat.le_of_ble_eq_true rfl) (TfD_unmakeFirst _ _ _ _ hq12) rfl ?_
        refine xr_aload_n (pc' := 54) rfl rfl rfl ?_
        obtain ⟨u13, hu13, h⟩ := xbind h
        obtain ⟨q14, hq14, h⟩ := xbind h
        refine xr_callV (pc' := 57) (C := 2) (As := []) (rest := _) rfl hu13 mC_73 mL_73 rfl (Nat.le_of_ble_eq_true rfl) rfl (Nat.le_of_ble_eq_true rfl) (TfC_followVisits _  hq14) rfl ?_
        rcases xite h with ⟨hc, h⟩ | ⟨hc, h⟩
        · refine xr_if_eq_t (t := 65) rfl hc ?_
          exact TfD_endInterval_65 _ (fun M l0 l1 l2 o3 h => ih M l0 l1 l2 o3 h) q14.2 _ _ _ _   h
        · refine xr_if_eq_f (pc' := 60) rfl hc rfl ?_
          refine xr_aload_n (pc' := 61) rfl rfl rfl ?_
          refine xr_aload_n (pc' := 62) rfl rfl rfl ?_
          obtain ⟨u15, hu15, h⟩ := xbind h
          obtain ⟨q16, hq16, h⟩ := xbind h
          refine xr_callV (pc' := 65) (C := 3) (As := [_]) (rest := _) rfl hu15 mC_74 mL_74 rfl (Nat.le_of_ble_eq_true rfl) rfl (Nat.le_of_ble_eq_true rfl) (TfD_unmakeAll _ _ hq16) rfl ?_
          exact TfD_endInterval_65 _ (fun M l0 l1 l2 o3 h => ih M l0 l1 l2 o3 h) q16 _ _ _ _   h
def fD_endInterval (M : xMem) (this : xId) : Option (Int32 × xMem) :=
  (xgI M (some this) 3 5).bind fun v1 =>
  fD_endInterval_7  xF M (some this) v1 (0 : Int32)
set_option maxRecDepth 20000 in
theorem TfD_endInterval {M M' : xMem} {r : Int32} (this : xId) (h : fD_endInterval M this = some (r, M')) : xrun none 4 67 0 ([some (.inr (.inr (some this))), none, none, none]) ([]) M (some (.inl r), M') := by
  unfold fD_endInterval at h
  refine xr_aload_n (pc' := 1) rfl rfl rfl ?_
  obtain ⟨v1, hv1, h⟩ := xbind h
  refine xr_getI (pc' := 4) rfl (by decide) hv1 rfl ?_
  refine xr_istore_n (pc' := 5) rfl rfl rfl ?_
  refine xr_iconst (v := 0) (pc' := 6) rfl (by decide) rfl ?_
  refine xr_istore_n (pc' := 7) rfl rfl rfl ?_
  exact TfD_endInterval_7   xF M _ _ _ _ h
-- 66: MagazineDepot.interval()I
def fX_interval (M : xMem) (this : xId) : Option (Int32 × xMem) :=
  (xgR M (some this) 7 0).bind fun v1 =>
  (xob M v1 3).bind fun u2 =>
  (fD_endInterval M u2 ).bind fun q3 =>
  some (q3.1, q3.2)
set_option maxRecDepth 20000 in
theorem TfX_interval {M M' : xMem} {r : Int32} (this : xId) (h : fX_interval M this = some (r, M')) : xrun none 5 66 0 ([some (.inr (.inr (some this)))]) ([]) M (some (.inl r), M') := by
  unfold fX_interval at h
  refine xr_aload_n (pc' := 1) rfl rfl rfl ?_
  obtain ⟨v1, hv1, h⟩ := xbind h
  refine xr_getR (pc' := 4) rfl (by decide) hv1 rfl ?_
  obtain ⟨u2, hu2, h⟩ := xbind h
  obtain ⟨q3, hq3, h⟩ := xbind h
  refine xr_callV (pc' := 7) (C := 3) (As := []) (rest := _) rfl hu2 mC_67 mL_67 rfl (Nat.le_of_ble_eq_true rfl) rfl (Nat.le_of_ble_eq_true rfl) (TfD_endInterval _  hq3) rfl ?_
  obtain ⟨rfl, rfl⟩ := xsome2 h
  exact xr_iret rfl mR_66
-- 76: MagazineDepot$Depot.unmakeOf(LMagazineDepot$Cache;I)V
def fD_unmakeOf (M : xMem) (this : xId) (a0 : Option xId) (a1 : Int32) : Option xMem :=
  (fX_isProcessor M a1).bind fun q1 =>
  if q1.1 = 0 then (
    some q1.2)
  else
  (xgR q1.2 a0 2 14).bind fun v2 =>
  (xaI q1.2 v2 a1).bind fun v3 =>
  (xob q1.2 (some this) 3).bind fun u4 =>
  (fD_unmake q1.2 u4 a0 v3).bind fun q5 =>
  (xgR q5 a0 2 15).bind fun v6 =>
  (xaI q5 v6 a1).bind fun v7 =>
  (xob q5 (some this) 3).bind fun u8 =>
  (fD_unmake q5 u8 a0 v7).bind fun q9 =>
  (xgR q9 a0 2 14).bind fun v10 =>
  (xuI q9 v10 a1 (-1 : Int32)).bind fun M11 =>
  (xgR M11 a0 2 15).bind fun v12 =>
  (xuI M11 v12 a1 (-1 : Int32)).bind fun M13 =>
  some M13
set_option maxRecDepth 20000 in
theorem TfD_unmakeOf {M M' : xMem} (this : xId) (a0 : Option xId) (a1 : Int32) (h : fD_unmakeOf M this a0 a1 = some M') : xrun none 3 76 0 ([some (.inr (.inr (some this))), some (.inr (.inr a0)), some (.inl a1)]) ([]) M (none, M') := by
  unfold fD_unmakeOf at h
  refine xr_iload_n (pc' := 1) rfl rfl rfl ?_
  obtain ⟨q1, hq1, h⟩ := xbind h
  refine xr_callS (pc' := 4) (As := [_]) (rest := _) rfl (by decide) mL_20 rfl (Nat.le_of_ble_eq_true rfl) rfl (Nat.le_of_ble_eq_true rfl) (TfX_isProcessor _ hq1) rfl ?_
  rcases xite h with ⟨hc, h⟩ | ⟨hc, h⟩
  · refine xr_if_ne_f (pc' := 7) rfl hc rfl ?_
    obtain rfl := xsome1 h
    exact xr_ret rfl mR_76
  · refine xr_if_ne_t (t := 8) rfl hc ?_
    refine xr_aload_n (pc' := 9) rfl rfl rfl ?_
    refine xr_aload_n (pc' := 10) rfl rfl rfl ?_
    refine xr_aload_n (pc' := 11) rfl rfl rfl ?_
    obtain ⟨v2, hv2, h⟩ := xbind h
    refine xr_getR (pc' := 14) rfl (by decide) hv2 rfl ?_
    refine xr_iload_n (pc' := 15) rfl rfl rfl ?_
    obtain ⟨v3, hv3, h⟩ := xbind h
    refine xr_aI (pc' := 16) rfl hv3 rfl ?_
    obtain ⟨u4, hu4, h⟩ := xbind h
    obtain ⟨q5, hq5, h⟩ := xbind h
    refine xr_callV (pc' := 19) (C := 3) (As := [_, _]) (rest := _) rfl hu4 mC_70 mL_70 rfl (Nat.le_of_ble_eq_true rfl) rfl (Nat.le_of_ble_eq_true rfl) (TfD_unmake _ _ _ hq5) rfl ?_
    refine xr_aload_n (pc' := 20) rfl rfl rfl ?_
    refine xr_aload_n (pc' := 21) rfl rfl rfl ?_
    refine xr_aload_n (pc' := 22) rfl rfl rfl ?_
    obtain ⟨v6, hv6, h⟩ := xbind h
    refine xr_getR (pc' := 25) rfl (by decide) hv6 rfl ?_
    refine xr_iload_n (pc' := 26) rfl rfl rfl ?_
    obtain ⟨v7, hv7, h⟩ := xbind h
    refine xr_aI (pc' := 27) rfl hv7 rfl ?_
    obtain ⟨u8, hu8, h⟩ := xbind h
    obtain ⟨q9, hq9, h⟩ := xbind h
    refine xr_callV (pc' := 30) (C := 3) (As := [_, _]) (rest := _) rfl hu8 mC_70 mL_70 rfl (Nat.le_of_ble_eq_true rfl) rfl (Nat.le_of_ble_eq_true rfl) (TfD_unmake _ _ _ hq9) rfl ?_
    refine xr_aload_n (pc' := 31) rfl rfl rfl ?_
    obtain ⟨v10, hv10, h⟩ := xbind h
    refine xr_getR (pc' := 34) rfl (by decide) hv10 rfl ?_
    refine xr_iload_n (pc' := 35) rfl rfl rfl ?_
    refine xr_iconst (v := -1) (pc' := 36) rfl (by decide) rfl ?_
    obtain ⟨M11, hM11, h⟩ := xbind h
    refine xr_uI (pc' := 37) rfl hM11 rfl ?_
    refine xr_aload_n (pc' := 38) rfl rfl rfl ?_
    obtain ⟨v12, hv12, h⟩ := xbind h
    refine xr_getR (pc' := 41) rfl (by decide) hv12 rfl ?_
    refine xr_iload_n (pc' := 42) rfl rfl rfl ?_
    refine xr_iconst (v := -1) (pc' := 43) rfl (by decide) rfl ?_
    obtain ⟨M13, hM13, h⟩ := xbind h
    refine xr_uI (pc' := 44) rfl hM13 rfl ?_
    obtain rfl := xsome1 h
    exact xr_ret rfl mR_76
-- 75: MagazineDepot.drain(II)I
def fX_drain (M : xMem) (this : xId) (a0 : Int32) (a1 : Int32) : Option (Int32 × xMem) :=
  (xgR M (some this) 7 0).bind fun v1 =>
  (xob M v1 3).bind fun u2 =>
  (fD_cacheAt M u2 a0).bind fun q3 =>
  if q3.1 = none then (
    some ((-1 : Int32), q3.2))
  else
  (fX_isProcessor q3.2 a1).bind fun q4 =>
  if q4.1 = 0 then (
    some ((-1 : Int32), q4.2))
  else
  (xgI q4.2 q3.1 2 12).bind fun v5 =>
  (xgR q4.2 (some this) 7 0).bind fun v6 =>
  (xob q4.2 v6 3).bind fun u7 =>
  (fD_unmakeOf q4.2 u7 q3.1 a1).bind fun q8 =>
  (xgI q8 q3.1 2 12).bind fun v9 =>
  some ((v9 - v5), q8)
set_option maxRecDepth 20000 in
theorem TfX_drain {M M' : xMem} {r : Int32} (this : xId) (a0 : Int32) (a1 : Int32) (h : fX_drain M this a0 a1 = some (r, M')) : xrun none 4 75 0 ([some (.inr (.inr (some this))), some (.inl a0), some (.inl a1), none, none]) ([]) M (some (.inl r), M') := by
  unfold fX_drain at h
  refine xr_aload_n (pc' := 1) rfl rfl rfl ?_
  obtain ⟨v1, hv1, h⟩ := xbind h
  refine xr_getR (pc' := 4) rfl (by decide) hv1 rfl ?_
  refine xr_iload_n (pc' := 5) rfl rfl rfl ?_
  obtain ⟨u2, hu2, h⟩ := xbind h
  obtain ⟨q3, hq3, h⟩ := xbind h
  refine xr_callV (pc' := 8) (C := 3) (As := [_]) (rest := _) rfl hu2 mC_18 mL_18 rfl (Nat.le_of_ble_eq_true rfl) rfl (Nat.le_of_ble_eq_true rfl) (TfD_cacheAt _ _ hq3) rfl ?_
  refine xr_astore_n (pc' := 9) rfl rfl rfl ?_
  refine xr_aload_n (pc' := 10) rfl rfl rfl ?_
  rcases xite h with ⟨hc, h⟩ | ⟨hc, h⟩
  · refine xr_ifnull_n (t := 20) rfl hc ?_
    refine xr_iconst (v := -1) (pc' := 21) rfl (by decide) rfl ?_
    obtain ⟨rfl, rfl⟩ := xsome2 h
    exact xr_iret rfl mR_75
  · refine xr_ifnull_s (pc' := 13) rfl hc rfl ?_
    refine xr_iload_n (pc' := 14) rfl rfl rfl ?_
    obtain ⟨q4, hq4, h⟩ := xbind h
    refine xr_callS (pc' := 17) (As := [_]) (rest := _) rfl (by decide) mL_20 rfl (Nat.le_of_ble_eq_true rfl) rfl (Nat.le_of_ble_eq_true rfl) (TfX_isProcessor _ hq4) rfl ?_
    rcases xite h with ⟨hc, h⟩ | ⟨hc, h⟩
    · refine xr_if_ne_f (pc' := 20) rfl hc rfl ?_
      refine xr_iconst (v := -1) (pc' := 21) rfl (by decide) rfl ?_
      obtain ⟨rfl, rfl⟩ := xsome2 h
      exact xr_iret rfl mR_75
    · refine xr_if_ne_t (t := 22) rfl hc ?_
      refine xr_aload_n (pc' := 23) rfl rfl rfl ?_
      obtain ⟨v5, hv5, h⟩ := xbind h
      refine xr_getI (pc' := 26) rfl (by decide) hv5 rfl ?_
      refine xr_istore (pc' := 28) rfl rfl rfl ?_
      refine xr_aload_n (pc' := 29) rfl rfl rfl ?_
      obtain ⟨v6, hv6, h⟩ := xbind h
      refine xr_getR (pc' := 32) rfl (by decide) hv6 rfl ?_
      refine xr_aload_n (pc' := 33) rfl rfl rfl ?_
      refine xr_iload_n (pc' := 34) rfl rfl rfl ?_
      obtain ⟨u7, hu7, h⟩ := xbind h
      obtain ⟨q8, hq8, h⟩ := xbind h
      refine xr_callV (pc' := 37) (C := 3) (As := [_, _]) (rest := _) rfl hu7 mC_76 mL_76 rfl (Nat.le_of_ble_eq_true rfl) rfl (Nat.le_of_ble_eq_true rfl) (TfD_unmakeOf _ _ _ hq8) rfl ?_
      refine xr_aload_n (pc' := 38) rfl rfl rfl ?_
      obtain ⟨v9, hv9, h⟩ := xbind h
      refine xr_getI (pc' := 41) rfl (by decide) hv9 rfl ?_
      refine xr_iload (pc' := 43) rfl rfl rfl ?_
      refine xr_isub (pc' := 44) rfl rfl ?_
      obtain ⟨rfl, rfl⟩ := xsome2 h
      exact xr_iret rfl mR_75
-- 78: MagazineDepot$Arena.freePagesOf(I)I
def fA_freePagesOf_63 (k4 : xMem → Option xId → Int32 → Int32 → Int32 → Option (Int32 × xMem)) (M : xMem) (l0 : Option xId) (l1 : Int32) (l2 : Int32) (l3 : Int32)  : Option (Int32 × xMem) :=
  k4 M l0 l1 l2 (l3 + 1)
set_option maxRecDepth 20000 in
theorem TfA_freePagesOf_63 {M' : xMem} {r : Int32} (k4 : xMem → Option xId → Int32 → Int32 → Int32 → Option (Int32 × xMem)) (hk4 : ∀ (M : xMem) (l0 : Option xId) (l1 : Int32) (l2 : Int32) (l3 : Int32) , k4 M l0 l1 l2 l3 = some (r, M') → xrun none 1 78 4 ([some (.inr (.inr l0)), some (.inl l1), some (.inl l2), some (.inl l3)]) ([]) M (some (.inl r), M')) (M : xMem) (l0 : Option xId) (l1 : Int32) (l2 : Int32) (l3 : Int32)   (h : fA_freePagesOf_63 k4 M l0 l1 l2 l3  = some (r, M')) : xrun none 1 78 63 ([some (.inr (.inr l0)), some (.inl l1), some (.inl l2), some (.inl l3)]) ([]) M (some (.inl r), M') := by
  unfold fA_freePagesOf_63 at h
  refine xr_iinc (c := 1) (pc' := 66) rfl (by decide) rfl rfl rfl ?_
  refine xr_goto (t := 4) rfl ?_
  exact hk4 M _ _ _ _  h
def fA_freePagesOf_4  : Nat → xMem → Option xId → Int32 → Int32 → Int32 → Option (Int32 × xMem)
  | 0, _, _, _, _, _ => none
  | n + 1, M, l0, l1, l2, l3 =>
    if (32 : Int32) ≤ l3 then (
      some (l2, M))
    else
    (xgR M l0 0 0).bind fun v1 =>
    (xaI M v1 l3).bind fun v2 =>
    if v2 = l1 then (
      (xgR M l0 0 4).bind fun v3 =>
      (xaL M v3 l3).bind fun v4 =>
      (xgR M l0 0 3).bind fun v5 =>
      (xaI M v5 l3).bind fun v6 =>
      (fA_allOf M v6).bind fun q7 =>
      if (lg_cmp v4 q7.1) = 0 then (
        (xgR q7.2 l0 0 0).bind fun v8 =>
        (xuI q7.2 v8 l3 (-1 : Int32)).bind fun M9 =>
        (xgR M9 l0 0 3).bind fun v10 =>
        (xuI M9 v10 l3 (0 : Int32)).bind fun M11 =>
        (xgR M11 l0 0 4).bind fun v12 =>
        (xuL M11 v12 l3 (0 : Int64)).bind fun M13 =>
        fA_freePagesOf_63 (fun M l0 l1 l2 l3 => fA_freePagesOf_4  n M l0 l1 l2 l3) M13 l0 l1 (l2 + 1) l3 )
      else
      fA_freePagesOf_63 (fun M l0 l1 l2 l3 => fA_freePagesOf_4  n M l0 l1 l2 l3) q7.2 l0 l1 l2 l3 )
    else
    fA_freePagesOf_63 (fun M l0 l1 l2 l3 => fA_freePagesOf_4  n M l0 l1 l2 l3) M l0 l1 l2 l3 
set_option maxRecDepth 20000 in
theorem TfA_freePagesOf_4 {M' : xMem} {r : Int32}  : ∀ (n : Nat) (M : xMem) (l0 : Option xId) (l1 : Int32) (l2 : Int32) (l3 : Int32) , fA_freePagesOf_4  n M l0 l1 l2 l3 = some (r, M') → xrun none 1 78 4 ([some (.inr (.inr l0)), some (.inl l1), some (.inl l2), some (.inl l3)]) ([]) M (some (.inl r), M') := by
  intro n
  induction n with
  | zero => intro M l0 l1 l2 l3  h; unfold fA_freePagesOf_4 at h; cases h
  | succ n ih =>
    intro M l0 l1 l2 l3  h
    unfold fA_freePagesOf_4 at h
    refine xr_iload_n (pc' := 5) rfl rfl rfl ?_
    refine xr_bipush (v := 32) (pc' := 7) rfl (by decide) rfl ?_
    rcases xite h with ⟨hc, h⟩ | ⟨hc, h⟩
    · refine xr_icmp_ge_t (t := 69) rfl hc ?_
      refine xr_iload_n (pc' := 70) rfl rfl rfl ?_
      obtain ⟨rfl, rfl⟩ := xsome2 h
      exact xr_iret rfl mR_78
    · refine xr_icmp_ge_f (pc' := 10) rfl hc rfl ?_
      refine xr_aload_n (pc' := 11) rfl rfl rfl ?_
      obtain ⟨v1, hv1, h⟩ := xbind h
      refine xr_getR (pc' := 14) rfl (by decide) hv1 rfl ?_
      refine xr_iload_n (pc' := 15) rfl rfl rfl ?_
      obtain ⟨v2, hv2, h⟩ := xbind h
      refine xr_aI (pc' := 16) rfl hv2 rfl ?_
      refine xr_iload_n (pc' := 17) rfl rfl rfl ?_
      rcases xite h with ⟨hc, h⟩ | ⟨hc, h⟩
      · refine xr_icmp_ne_f (pc' := 20) rfl hc rfl ?_
        refine xr_aload_n (pc' := 21) rfl rfl rfl ?_
        obtain ⟨v3, hv3, h⟩ := xbind h
        refine xr_getR (pc' := 24) rfl (by decide) hv3 rfl ?_
        refine xr_iload_n (pc' := 25) rfl rfl rfl ?_
        obtain ⟨v4, hv4, h⟩ := xbind h
        refine xr_aL (pc' := 26) rfl hv4 rfl ?_
        refine xr_aload_n (pc' := 27) rfl rfl rfl ?_
        obtain ⟨v5, hv5, h⟩ := xbind h
        refine xr_getR (pc' := 30) rfl (by decide) hv5 rfl ?_
        refine xr_iload_n (pc' := 31) rfl rfl rfl ?_
        obtain ⟨v6, hv6, h⟩ := xbind h
        refine xr_aI (pc' := 32) rfl hv6 rfl ?_
        obtain ⟨q7, hq7, h⟩ := xbind h
        refine xr_callS (pc' := 35) (As := [_]) (rest := _) rfl (by decide) mL_34 rfl (Nat.le_of_ble_eq_true rfl) rfl (Nat.le_of_ble_eq_true rfl) (TfA_allOf _ hq7) rfl ?_
        refine xr_lcmp (pc' := 36) rfl rfl ?_
        rcases xite h with ⟨hc, h⟩ | ⟨hc, h⟩
        · refine xr_if_ne_f (pc' := 39) rfl hc rfl ?_
          refine xr_aload_n (pc' := 40) rfl rfl rfl ?_
          obtain ⟨v8, hv8, h⟩ := xbind h
          refine xr_getR (pc' := 43) rfl (by decide) hv8 rfl ?_
          refine xr_iload_n (pc' := 44) rfl rfl rfl ?_
          refine xr_iconst (v := -1) (pc' := 45) rfl (by decide) rfl ?_
          obtain ⟨M9, hM9, h⟩ := xbind h
          refine xr_uI (pc' := 46) rfl hM9 rfl ?_
          refine xr_aload_n (pc' := 47) rfl rfl rfl ?_
          obtain ⟨v10, hv10, h⟩ := xbind h
          refine xr_getR (pc' := 50) rfl (by decide) hv10 rfl ?_
          refine xr_iload_n (pc' := 51) rfl rfl rfl ?_
          refine xr_iconst (v := 0) (pc' := 52) rfl (by decide) rfl ?_
          obtain ⟨M11, hM11, h⟩ := xbind h
          refine xr_uI (pc' := 53) rfl hM11 rfl ?_
          refine xr_aload_n (pc' := 54) rfl rfl rfl ?_
          obtain ⟨v12, hv12, h⟩ := xbind h
          refine xr_getR (pc' := 57) rfl (by decide) hv12 rfl ?_
          refine xr_iload_n (pc' := 58) rfl rfl rfl ?_
          refine xr_lconst (v := 0) (pc' := 59) rfl (by decide) rfl ?_
          obtain ⟨M13, hM13, h⟩ := xbind h
          refine xr_uL (pc' := 60) rfl hM13 rfl ?_
          refine xr_iinc (c := 1) (pc' := 63) rfl (by decide) rfl rfl rfl ?_
          exact TfA_freePagesOf_63 _ (fun M l0 l1 l2 l3  h => ih M l0 l1 l2 l3  h) M13 _ _ _ _   h
        · refine xr_if_ne_t (t := 63) rfl hc ?_
          exact TfA_freePagesOf_63 _ (fun M l0 l1 l2 l3  h => ih M l0 l1 l2 l3  h) q7.2 _ _ _ _   h
      · refine xr_icmp_ne_t (t := 63) rfl hc ?_
        exact TfA_freePagesOf_63 _ (fun M l0 l1 l2 l3  h => ih M l0 l1 l2 l3  h) M _ _ _ _   h
def fA_freePagesOf (M : xMem) (this : xId) (a0 : Int32) : Option (Int32 × xMem) :=
  fA_freePagesOf_4  xF M (some this) a0 (0 : Int32) (0 : Int32)
set_option maxRecDepth 20000 in
theorem TfA_freePagesOf {M M' : xMem} {r : Int32} (this : xId) (a0 : Int32) (h : fA_freePagesOf M this a0 = some (r, M')) : xrun none 1 78 0 ([some (.inr (.inr (some this))), some (.inl a0), none, none]) ([]) M (some (.inl r), M') := by
  unfold fA_freePagesOf at h
  refine xr_iconst (v := 0) (pc' := 1) rfl (by decide) rfl ?_
  refine xr_istore_n (pc' := 2) rfl rfl rfl ?_
  refine xr_iconst (v := 0) (pc' := 3) rfl (by decide) rfl ?_
  refine xr_istore_n (pc' := 4) rfl rfl rfl ?_
  exact TfA_freePagesOf_4   xF M _ _ _ _  h
-- 77: MagazineDepot.reap(I)I
def fX_reap (M : xMem) (this : xId) (a0 : Int32) : Option (Int32 × xMem) :=
  (xgR M (some this) 7 0).bind fun v1 =>
  (xob M v1 3).bind fun u2 =>
  (fD_cacheAt M u2 a0).bind fun q3 =>
  if q3.1 = none then (
    some ((-1 : Int32), q3.2))
  else
  (xgR q3.2 (some this) 7 0).bind fun v4 =>
  (xgR q3.2 v4 3 0).bind fun v5 =>
  (xob q3.2 v5 0).bind fun u6 =>
  (fA_freePagesOf q3.2 u6 a0).bind fun q7 =>
  some (q7.1, q7.2)
set_option maxRecDepth 20000 in
theorem TfX_reap {M M' : xMem} {r : Int32} (this : xId) (a0 : Int32) (h : fX_reap M this a0 = some (r, M')) : xrun none 2 77 0 ([some (.inr (.inr (some this))), some (.inl a0)]) ([]) M (some (.inl r), M') := by
  unfold fX_reap at h
  refine xr_aload_n (pc' := 1) rfl rfl rfl ?_
  obtain ⟨v1, hv1, h⟩ := xbind h
  refine xr_getR (pc' := 4) rfl (by decide) hv1 rfl ?_
  refine xr_iload_n (pc' := 5) rfl rfl rfl ?_
  obtain ⟨u2, hu2, h⟩ := xbind h
  obtain ⟨q3, hq3, h⟩ := xbind h
  refine xr_callV (pc' := 8) (C := 3) (As := [_]) (rest := _) rfl hu2 mC_18 mL_18 rfl (Nat.le_of_ble_eq_true rfl) rfl (Nat.le_of_ble_eq_true rfl) (TfD_cacheAt _ _ hq3) rfl ?_
  rcases xite h with ⟨hc, h⟩ | ⟨hc, h⟩
  · refine xr_ifnonnull_n (pc' := 11) rfl hc rfl ?_
    refine xr_iconst (v := -1) (pc' := 12) rfl (by decide) rfl ?_
    refine xr_goto (t := 26) rfl ?_
    obtain ⟨rfl, rfl⟩ := xsome2 h
    exact xr_iret rfl mR_77
  · refine xr_ifnonnull_s (t := 15) rfl hc ?_
    refine xr_aload_n (pc' := 16) rfl rfl rfl ?_
    obtain ⟨v4, hv4, h⟩ := xbind h
    refine xr_getR (pc' := 19) rfl (by decide) hv4 rfl ?_
    obtain ⟨v5, hv5, h⟩ := xbind h
    refine xr_getR (pc' := 22) rfl (by decide) hv5 rfl ?_
    refine xr_iload_n (pc' := 23) rfl rfl rfl ?_
    obtain ⟨u6, hu6, h⟩ := xbind h
    obtain ⟨q7, hq7, h⟩ := xbind h
    refine xr_callV (pc' := 26) (C := 0) (As := [_]) (rest := _) rfl hu6 mC_78 mL_78 rfl (Nat.le_of_ble_eq_true rfl) rfl (Nat.le_of_ble_eq_true rfl) (TfA_freePagesOf _ _ hq7) rfl ?_
    obtain ⟨rfl, rfl⟩ := xsome2 h
    exact xr_iret rfl mR_77
-- 79: MagazineDepot.state(I)I
def fX_state (M : xMem) (this : xId) (a0 : Int32) : Option (Int32 × xMem) :=
  (fX_isByte M a0).bind fun q1 =>
  if q1.1 = 0 then (
    some ((-1 : Int32), q1.2))
  else
  (xgR q1.2 (some this) 7 0).bind fun v2 =>
  (xgR q1.2 v2 3 0).bind fun v3 =>
  (xgR q1.2 (some this) 7 0).bind fun v4 =>
  (xgR q1.2 v4 3 0).bind fun v5 =>
  (xob q1.2 v5 0).bind fun u6 =>
  (fA_slotOf q1.2 u6 a0).bind fun q7 =>
  (xob q7.2 v3 0).bind fun u8 =>
  (fA_stateOf q7.2 u8 q7.1).bind fun q9 =>
  if q9.1 = (-1 : Int32) then (
    some ((-2 : Int32), q9.2))
  else
  some (q9.1, q9.2)
set_option maxRecDepth 20000 in
theorem TfX_state {M M' : xMem} {r : Int32} (this : xId) (a0 : Int32) (h : fX_state M this a0 = some (r, M')) : xrun none 2 79 0 ([some (.inr (.inr (some this))), some (.inl a0), none]) ([]) M (some (.inl r), M') := by
  unfold fX_state at h
  refine xr_iload_n (pc' := 1) rfl rfl rfl ?_
  obtain ⟨q1, hq1, h⟩ := xbind h
  refine xr_callS (pc' := 4) (As := [_]) (rest := _) rfl (by decide) mL_44 rfl (Nat.le_of_ble_eq_true rfl) rfl (Nat.le_of_ble_eq_true rfl) (TfX_isByte _ hq1) rfl ?_
  rcases xite h with ⟨hc, h⟩ | ⟨hc, h⟩
  · refine xr_if_ne_f (pc' := 7) rfl hc rfl ?_
    refine xr_iconst (v := -1) (pc' := 8) rfl (by decide) rfl ?_
    obtain ⟨rfl, rfl⟩ := xsome2 h
    exact xr_iret rfl mR_79
  · refine xr_if_ne_t (t := 9) rfl hc ?_
    refine xr_aload_n (pc' := 10) rfl rfl rfl ?_
    obtain ⟨v2, hv2, h⟩ := xbind h
    refine xr_getR (pc' := 13) rfl (by decide) hv2 rfl ?_
    obtain ⟨v3, hv3, h⟩ := xbind h
    refine xr_getR (pc' := 16) rfl (by decide) hv3 rfl ?_
    refine xr_aload_n (pc' := 17) rfl rfl rfl ?_
    obtain ⟨v4, hv4, h⟩ := xbind h
    refine xr_getR (pc' := 20) rfl (by decide) hv4 rfl ?_
    obtain ⟨v5, hv5, h⟩ := xbind h
    refine xr_getR (pc' := 23) rfl (by decide) hv5 rfl ?_
    refine xr_iload_n (pc' := 24) rfl rfl rfl ?_
    obtain ⟨u6, hu6, h⟩ := xbind h
    obtain ⟨q7, hq7, h⟩ := xbind h
    refine xr_callV (pc' := 27) (C := 0) (As := [_]) (rest := _) rfl hu6 mC_43 mL_43 rfl (Nat.le_of_ble_eq_true rfl) rfl (Nat.le_of_ble_eq_true rfl) (TfA_slotOf _ _ hq7) rfl ?_
    obtain ⟨u8, hu8, h⟩ := xbind h
    obtain ⟨q9, hq9, h⟩ := xbind h
    refine xr_callV (pc' := 30) (C := 0) (As := [_]) (rest := _) rfl hu8 mC_46 mL_46 rfl (Nat.le_of_ble_eq_true rfl) rfl (Nat.le_of_ble_eq_true rfl) (TfA_stateOf _ _ hq9) rfl ?_
    refine xr_istore_n (pc' := 31) rfl rfl rfl ?_
    refine xr_iload_n (pc' := 32) rfl rfl rfl ?_
    refine xr_iconst (v := -1) (pc' := 33) rfl (by decide) rfl ?_
    rcases xite h with ⟨hc, h⟩ | ⟨hc, h⟩
    · refine xr_icmp_ne_f (pc' := 36) rfl hc rfl ?_
      refine xr_bipush (v := -2) (pc' := 38) rfl (by decide) rfl ?_
      refine xr_goto (t := 42) rfl ?_
      obtain ⟨rfl, rfl⟩ := xsome2 h
      exact xr_iret rfl mR_79
    · refine xr_icmp_ne_t (t := 41) rfl hc ?_
      refine xr_iload_n (pc' := 42) rfl rfl rfl ?_
      obtain ⟨rfl, rfl⟩ := xsome2 h
      exact xr_iret rfl mR_79
-- 81: MagazineDepot$Arena.ownerOf(I)I
def fA_ownerOf (M : xMem) (this : xId) (a0 : Int32) : Option (Int32 × xMem) :=
  (fX_isByte M a0).bind fun q1 =>
  if q1.1 = 0 then (
    some ((0 : Int32), q1.2))
  else
  (xgR q1.2 (some this) 0 0).bind fun v2 =>
  (xaI q1.2 v2 (a0 / (1024 : Int32))).bind fun v3 =>
  if v3 = (-1 : Int32) then (
    some ((0 : Int32), q1.2))
  else
  if 0 ≤ ((a0 - a0 / (1024 : Int32) * (1024 : Int32)) - (32 : Int32)) then (
    (xgR q1.2 (some this) 0 1).bind fun v4 =>
    (xaI q1.2 v4 (a0 / (1024 : Int32))).bind fun v5 =>
    if 0 ≤ (((a0 - a0 / (1024 : Int32) * (1024 : Int32)) - (32 : Int32)) - v5) then (
      (xgR q1.2 (some this) 0 2).bind fun v6 =>
      (xaI q1.2 v6 (a0 / (1024 : Int32))).bind fun v7 =>
      if v7 ≤ 0 then (
        some ((3 : Int32), q1.2))
      else
      if v7 = 0 then none else
      (xgR q1.2 (some this) 0 3).bind fun v8 =>
      (xaI q1.2 v8 (a0 / (1024 : Int32))).bind fun v9 =>
      if ((((a0 - a0 / (1024 : Int32) * (1024 : Int32)) - (32 : Int32)) - v5) / v7) < v9 then (
        if v7 = 0 then none else
        (xob q1.2 (some this) 0).bind fun u10 =>
        (fA_stateOf q1.2 u10 (((a0 / (1024 : Int32)) * (62 : Int32)) + ((((a0 - a0 / (1024 : Int32) * (1024 : Int32)) - (32 : Int32)) - v5) / v7))).bind fun q11 =>
        if q11.1 = (1 : Int32) then (
          some ((4 : Int32), q11.2))
        else
        if q11.1 = (2 : Int32) then (
          some ((5 : Int32), q11.2))
        else
        some ((6 : Int32), q11.2))
      else
      some ((3 : Int32), q1.2))
    else
    some ((2 : Int32), q1.2))
  else
  some ((1 : Int32), q1.2)
set_option maxRecDepth 20000 in
theorem TfA_ownerOf {M M' : xMem} {r : Int32} (this : xId) (a0 : Int32) (h : fA_ownerOf M this a0 = some (r, M')) : xrun none 1 81 0 ([some (.inr (.inr (some this))), some (.inl a0), none, none, none, none]) ([]) M (some (.inl r), M') := by
  unfold fA_ownerOf at h
  refine xr_iload_n (pc' := 1) rfl rfl rfl ?_
  obtain ⟨q1, hq1, h⟩ := xbind h
  refine xr_callS (pc' := 4) (As := [_]) (rest := _) rfl (by decide) mL_44 rfl (Nat.le_of_ble_eq_true rfl) rfl (Nat.le_of_ble_eq_true rfl) (TfX_isByte _ hq1) rfl ?_
  rcases xite h with ⟨hc, h⟩ | ⟨hc, h⟩
  · refine xr_if_eq_t (t := 21) rfl hc ?_
    refine xr_iconst (v := 0) (pc' := 22) rfl (by decide) rfl ?_
    obtain ⟨rfl, rfl⟩ := xsome2 h
    exact xr_iret rfl mR_81
  · refine xr_if_eq_f (pc' := 7) rfl hc rfl ?_
    refine xr_aload_n (pc' := 8) rfl rfl rfl ?_
    obtain ⟨v2, hv2, h⟩ := xbind h
    refine xr_getR (pc' := 11) rfl (by decide) hv2 rfl ?_
    refine xr_iload_n (pc' := 12) rfl rfl rfl ?_
    refine xr_sipush (v := 1024) (pc' := 15) rfl (by decide) rfl ?_
    refine xr_idiv (pc' := 16) rfl (by decide) rfl ?_
    obtain ⟨v3, hv3, h⟩ := xbind h
    refine xr_aI (pc' := 17) rfl hv3 rfl ?_
    refine xr_iconst (v := -1) (pc' := 18) rfl (by decide) rfl ?_
    rcases xite h with ⟨hc, h⟩ | ⟨hc, h⟩
    · refine xr_icmp_ne_f (pc' := 21) rfl hc rfl ?_
      refine xr_iconst (v := 0) (pc' := 22) rfl (by decide) rfl ?_
      obtain ⟨rfl, rfl⟩ := xsome2 h
      exact xr_iret rfl mR_81
    · refine xr_icmp_ne_t (t := 23) rfl hc ?_
      refine xr_iload_n (pc' := 24) rfl rfl rfl ?_
      refine xr_sipush (v := 1024) (pc' := 27) rfl (by decide) rfl ?_
      refine xr_idiv (pc' := 28) rfl (by decide) rfl ?_
      refine xr_istore_n (pc' := 29) rfl rfl rfl ?_
      refine xr_iload_n (pc' := 30) rfl rfl rfl ?_
      refine xr_sipush (v := 1024) (pc' := 33) rfl (by decide) rfl ?_
      refine xr_irem (pc' := 34) rfl (by decide) rfl ?_
      refine xr_bipush (v := 32) (pc' := 36) rfl (by decide) rfl ?_
      refine xr_isub (pc' := 37) rfl rfl ?_
      refine xr_istore_n (pc' := 38) rfl rfl rfl ?_
      refine xr_iload_n (pc' := 39) rfl rfl rfl ?_
      rcases xite h with ⟨hc, h⟩ | ⟨hc, h⟩
      · refine xr_if_ge_t (t := 44) rfl hc ?_
        refine xr_iload_n (pc' := 45) rfl rfl rfl ?_
        refine xr_aload_n (pc' := 46) rfl rfl rfl ?_
        obtain ⟨v4, hv4, h⟩ := xbind h
        refine xr_getR (pc' := 49) rfl (by decide) hv4 rfl ?_
        refine xr_iload_n (pc' := 50) rfl rfl rfl ?_
        obtain ⟨v5, hv5, h⟩ := xbind h
        refine xr_aI (pc' := 51) rfl hv5 rfl ?_
        refine xr_isub (pc' := 52) rfl rfl ?_
        refine xr_istore_n (pc' := 53) rfl rfl rfl ?_
        refine xr_iload_n (pc' := 54) rfl rfl rfl ?_
        rcases xite h with ⟨hc, h⟩ | ⟨hc, h⟩
        · refine xr_if_ge_t (t := 59) rfl hc ?_
          refine xr_aload_n (pc' := 60) rfl rfl rfl ?_
          obtain ⟨v6, hv6, h⟩ := xbind h
          refine xr_getR (pc' := 63) rfl (by decide) hv6 rfl ?_
          refine xr_iload_n (pc' := 64) rfl rfl rfl ?_
          obtain ⟨v7, hv7, h⟩ := xbind h
          refine xr_aI (pc' := 65) rfl hv7 rfl ?_
          refine xr_istore (pc' := 67) rfl rfl rfl ?_
          refine xr_iload (pc' := 69) rfl rfl rfl ?_
          rcases xite h with ⟨hc, h⟩ | ⟨hc, h⟩
          · refine xr_if_le_t (t := 85) rfl hc ?_
            refine xr_iconst (v := 3) (pc' := 86) rfl (by decide) rfl ?_
            obtain ⟨rfl, rfl⟩ := xsome2 h
            exact xr_iret rfl mR_81
          · refine xr_if_le_f (pc' := 72) rfl hc rfl ?_
            refine xr_iload_n (pc' := 73) rfl rfl rfl ?_
            refine xr_iload (pc' := 75) rfl rfl rfl ?_
            rcases xite h with ⟨hc, h⟩ | ⟨hc, h⟩
            · cases h
            refine xr_idiv (pc' := 76) rfl hc rfl ?_
            refine xr_aload_n (pc' := 77) rfl rfl rfl ?_
            obtain ⟨v8, hv8, h⟩ := xbind h
            refine xr_getR (pc' := 80) rfl (by decide) hv8 rfl ?_
            refine xr_iload_n (pc' := 81) rfl rfl rfl ?_
            obtain ⟨v9, hv9, h⟩ := xbind h
            refine xr_aI (pc' := 82) rfl hv9 rfl ?_
            rcases xite h with ⟨hc, h⟩ | ⟨hc, h⟩
            · refine xr_icmp_lt_t (t := 87) rfl hc ?_
              refine xr_aload_n (pc' := 88) rfl rfl rfl ?_
              refine xr_iload_n (pc' := 89) rfl rfl rfl ?_
              refine xr_bipush (v := 62) (pc' := 91) rfl (by decide) rfl ?_
              refine xr_imul (pc' := 92) rfl rfl ?_
              refine xr_iload_n (pc' := 93) rfl rfl rfl ?_
              refine xr_iload (pc' := 95) rfl rfl rfl ?_
              rcases xite h with ⟨hc, h⟩ | ⟨hc, h⟩
              · cases h
              refine xr_idiv (pc' := 96) rfl hc rfl ?_
              refine xr_iadd (pc' := 97) rfl rfl ?_
              obtain ⟨u10, hu10, h⟩ := xbind h
              obtain ⟨q11, hq11, h⟩ := xbind h
              refine xr_callV (pc' := 100) (C := 0) (As := [_]) (rest := _) rfl hu10 mC_46 mL_46 rfl (Nat.le_of_ble_eq_true rfl) rfl (Nat.le_of_ble_eq_true rfl) (TfA_stateOf _ _ hq11) rfl ?_
              refine xr_istore (pc' := 102) rfl rfl rfl ?_
              refine xr_iload (pc' := 104) rfl rfl rfl ?_
              refine xr_iconst (v := 1) (pc' := 105) rfl (by decide) rfl ?_
              rcases xite h with ⟨hc, h⟩ | ⟨hc, h⟩
              · refine xr_icmp_ne_f (pc' := 108) rfl hc rfl ?_
                refine xr_iconst (v := 4) (pc' := 109) rfl (by decide) rfl ?_
                refine xr_goto (t := 124) rfl ?_
                obtain ⟨rfl, rfl⟩ := xsome2 h
                exact xr_iret rfl mR_81
              · refine xr_icmp_ne_t (t := 112) rfl hc ?_
                refine xr_iload (pc' := 114) rfl rfl rfl ?_
                refine xr_iconst (v := 2) (pc' := 115) rfl (by decide) rfl ?_
                rcases xite h with ⟨hc, h⟩ | ⟨hc, h⟩
                · refine xr_icmp_ne_f (pc' := 118) rfl hc rfl ?_
                  refine xr_iconst (v := 5) (pc' := 119) rfl (by decide) rfl ?_
                  refine xr_goto (t := 124) rfl ?_
                  obtain ⟨rfl, rfl⟩ := xsome2 h
                  exact xr_iret rfl mR_81
                · refine xr_icmp_ne_t (t := 122) rfl hc ?_
                  refine xr_bipush (v := 6) (pc' := 124) rfl (by decide) rfl ?_
                  obtain ⟨rfl, rfl⟩ := xsome2 h
                  exact xr_iret rfl mR_81
            · refine xr_icmp_lt_f (pc' := 85) rfl hc rfl ?_
              refine xr_iconst (v := 3) (pc' := 86) rfl (by decide) rfl ?_
              obtain ⟨rfl, rfl⟩ := xsome2 h
              exact xr_iret rfl mR_81
        · refine xr_if_ge_f (pc' := 57) rfl hc rfl ?_
          refine xr_iconst (v := 2) (pc' := 58) rfl (by decide) rfl ?_
          obtain ⟨rfl, rfl⟩ := xsome2 h
          exact xr_iret rfl mR_81
      · refine xr_if_ge_f (pc' := 42) rfl hc rfl ?_
        refine xr_iconst (v := 1) (pc' := 43) rfl (by decide) rfl ?_
        obtain ⟨rfl, rfl⟩ := xsome2 h
        exact xr_iret rfl mR_81
-- 80: MagazineDepot.owner(I)I
def fX_owner (M : xMem) (this : xId) (a0 : Int32) : Option (Int32 × xMem) :=
  (fX_isByte M a0).bind fun q1 =>
  if q1.1 = 0 then (
    some ((-1 : Int32), q1.2))
  else
  (xgR q1.2 (some this) 7 0).bind fun v2 =>
  (xgR q1.2 v2 3 0).bind fun v3 =>
  (xob q1.2 v3 0).bind fun u4 =>
  (fA_ownerOf q1.2 u4 a0).bind fun q5 =>
  some (q5.1, q5.2)
set_option maxRecDepth 20000 in
theorem TfX_owner {M M' : xMem} {r : Int32} (this : xId) (a0 : Int32) (h : fX_owner M this a0 = some (r, M')) : xrun none 2 80 0 ([some (.inr (.inr (some this))), some (.inl a0)]) ([]) M (some (.inl r), M') := by
  unfold fX_owner at h
  refine xr_iload_n (pc' := 1) rfl rfl rfl ?_
  obtain ⟨q1, hq1, h⟩ := xbind h
  refine xr_callS (pc' := 4) (As := [_]) (rest := _) rfl (by decide) mL_44 rfl (Nat.le_of_ble_eq_true rfl) rfl (Nat.le_of_ble_eq_true rfl) (TfX_isByte _ hq1) rfl ?_
  rcases xite h with ⟨hc, h⟩ | ⟨hc, h⟩
  · refine xr_if_eq_t (t := 21) rfl hc ?_
    refine xr_iconst (v := -1) (pc' := 22) rfl (by decide) rfl ?_
    obtain ⟨rfl, rfl⟩ := xsome2 h
    exact xr_iret rfl mR_80
  · refine xr_if_eq_f (pc' := 7) rfl hc rfl ?_
    refine xr_aload_n (pc' := 8) rfl rfl rfl ?_
    obtain ⟨v2, hv2, h⟩ := xbind h
    refine xr_getR (pc' := 11) rfl (by decide) hv2 rfl ?_
    obtain ⟨v3, hv3, h⟩ := xbind h
    refine xr_getR (pc' := 14) rfl (by decide) hv3 rfl ?_
    refine xr_iload_n (pc' := 15) rfl rfl rfl ?_
    obtain ⟨u4, hu4, h⟩ := xbind h
    obtain ⟨q5, hq5, h⟩ := xbind h
    refine xr_callV (pc' := 18) (C := 0) (As := [_]) (rest := _) rfl hu4 mC_81 mL_81 rfl (Nat.le_of_ble_eq_true rfl) rfl (Nat.le_of_ble_eq_true rfl) (TfA_ownerOf _ _ hq5) rfl ?_
    refine xr_goto (t := 22) rfl ?_
    obtain ⟨rfl, rfl⟩ := xsome2 h
    exact xr_iret rfl mR_80
-- 84: MagazineDepot$Arena.tailOf(I)I
def fA_tailOf (M : xMem) (this : xId) (a0 : Int32) : Option (Int32 × xMem) :=
  if a0 < 0 then (
    some ((0 : Int32), M))
  else
  if a0 < (32 : Int32) then (
    (xgR M (some this) 0 1).bind fun v1 =>
    (xaI M v1 a0).bind fun v2 =>
    (xgR M (some this) 0 3).bind fun v3 =>
    (xaI M v3 a0).bind fun v4 =>
    (xgR M (some this) 0 2).bind fun v5 =>
    (xaI M v5 a0).bind fun v6 =>
    some ((((992 : Int32) - v2) - (v4 * v6)), M))
  else
  some ((0 : Int32), M)
set_option maxRecDepth 20000 in
theorem TfA_tailOf {M M' : xMem} {r : Int32} (this : xId) (a0 : Int32) (h : fA_tailOf M this a0 = some (r, M')) : xrun none 0 84 0 ([some (.inr (.inr (some this))), some (.inl a0)]) ([]) M (some (.inl r), M') := by
  unfold fA_tailOf at h
  refine xr_iload_n (pc' := 1) rfl rfl rfl ?_
  rcases xite h with ⟨hc, h⟩ | ⟨hc, h⟩
  · refine xr_if_lt_t (t := 10) rfl hc ?_
    refine xr_iconst (v := 0) (pc' := 11) rfl (by decide) rfl ?_
    obtain ⟨rfl, rfl⟩ := xsome2 h
    exact xr_iret rfl mR_84
  · refine xr_if_lt_f (pc' := 4) rfl hc rfl ?_
    refine xr_iload_n (pc' := 5) rfl rfl rfl ?_
    refine xr_bipush (v := 32) (pc' := 7) rfl (by decide) rfl ?_
    rcases xite h with ⟨hc, h⟩ | ⟨hc, h⟩
    · refine xr_icmp_lt_t (t := 12) rfl hc ?_
      refine xr_sipush (v := 992) (pc' := 15) rfl (by decide) rfl ?_
      refine xr_aload_n (pc' := 16) rfl rfl rfl ?_
      obtain ⟨v1, hv1, h⟩ := xbind h
      refine xr_getR (pc' := 19) rfl (by decide) hv1 rfl ?_
      refine xr_iload_n (pc' := 20) rfl rfl rfl ?_
      obtain ⟨v2, hv2, h⟩ := xbind h
      refine xr_aI (pc' := 21) rfl hv2 rfl ?_
      refine xr_isub (pc' := 22) rfl rfl ?_
      refine xr_aload_n (pc' := 23) rfl rfl rfl ?_
      obtain ⟨v3, hv3, h⟩ := xbind h
      refine xr_getR (pc' := 26) rfl (by decide) hv3 rfl ?_
      refine xr_iload_n (pc' := 27) rfl rfl rfl ?_
      obtain ⟨v4, hv4, h⟩ := xbind h
      refine xr_aI (pc' := 28) rfl hv4 rfl ?_
      refine xr_aload_n (pc' := 29) rfl rfl rfl ?_
      obtain ⟨v5, hv5, h⟩ := xbind h
      refine xr_getR (pc' := 32) rfl (by decide) hv5 rfl ?_
      refine xr_iload_n (pc' := 33) rfl rfl rfl ?_
      obtain ⟨v6, hv6, h⟩ := xbind h
      refine xr_aI (pc' := 34) rfl hv6 rfl ?_
      refine xr_imul (pc' := 35) rfl rfl ?_
      refine xr_isub (pc' := 36) rfl rfl ?_
      obtain ⟨rfl, rfl⟩ := xsome2 h
      exact xr_iret rfl mR_84
    · refine xr_icmp_lt_f (pc' := 10) rfl hc rfl ?_
      refine xr_iconst (v := 0) (pc' := 11) rfl (by decide) rfl ?_
      obtain ⟨rfl, rfl⟩ := xsome2 h
      exact xr_iret rfl mR_84
-- 83: MagazineDepot$Arena.bytesIn(II)I
def fA_bytesIn_20  (M : xMem) (l2 : Int32)  : Option (Int32 × xMem) :=
  if l2 = 0 then (
    some ((1024 : Int32), M))
  else
  some ((0 : Int32), M)
set_option maxRecDepth 20000 in
theorem TfA_bytesIn_20 {M' : xMem} {r : Int32}  (M : xMem) (l2 : Int32)  (o0 : Option xId) (o1 : Int32) (h : fA_bytesIn_20  M l2  = some (r, M')) : xrun none 2 83 20 ([some (.inr (.inr o0)), some (.inl o1), some (.inl l2)]) ([]) M (some (.inl r), M') := by
  unfold fA_bytesIn_20 at h
  refine xr_iload_n (pc' := 21) rfl rfl rfl ?_
  rcases xite h with ⟨hc, h⟩ | ⟨hc, h⟩
  · refine xr_if_ne_f (pc' := 24) rfl hc rfl ?_
    refine xr_sipush (v := 1024) (pc' := 27) rfl (by decide) rfl ?_
    refine xr_goto (t := 31) rfl ?_
    obtain ⟨rfl, rfl⟩ := xsome2 h
    exact xr_iret rfl mR_83
  · refine xr_if_ne_t (t := 30) rfl hc ?_
    refine xr_iconst (v := 0) (pc' := 31) rfl (by decide) rfl ?_
    obtain ⟨rfl, rfl⟩ := xsome2 h
    exact xr_iret rfl mR_83
def fA_bytesIn (M : xMem) (this : xId) (a0 : Int32) (a1 : Int32) : Option (Int32 × xMem) :=
  if a0 < 0 then (
    fA_bytesIn_20  M a1 )
  else
  if (32 : Int32) ≤ a0 then (
    fA_bytesIn_20  M a1 )
  else
  (xgR M (some this) 0 0).bind fun v1 =>
  (xaI M v1 a0).bind fun v2 =>
  if v2 = (-1 : Int32) then (
    fA_bytesIn_20  M a1 )
  else
  if a1 = 1 then (
    some ((32 : Int32), M))
  else
  if a1 = 2 then (
    (xgR M (some this) 0 1).bind fun v3 =>
    (xaI M v3 a0).bind fun v4 =>
    some (v4, M))
  else
  if a1 = 3 then (
    (xob M (some this) 0).bind fun u5 =>
    (fA_tailOf M u5 a0).bind fun q6 =>
    some (q6.1, q6.2))
  else
  if a1 = 4 then (
    (xob M (some this) 0).bind fun u7 =>
    (fA_inPage M u7 a0 (1 : Int32)).bind fun q8 =>
    (xgR q8.2 (some this) 0 2).bind fun v9 =>
    (xaI q8.2 v9 a0).bind fun v10 =>
    some ((q8.1 * v10), q8.2))
  else
  if a1 = 5 then (
    (xob M (some this) 0).bind fun u11 =>
    (fA_inPage M u11 a0 (2 : Int32)).bind fun q12 =>
    (xgR q12.2 (some this) 0 2).bind fun v13 =>
    (xaI q12.2 v13 a0).bind fun v14 =>
    some ((q12.1 * v14), q12.2))
  else
  if a1 = 6 then (
    (xob M (some this) 0).bind fun u15 =>
    (fA_inPage M u15 a0 (0 : Int32)).bind fun q16 =>
    (xgR q16.2 (some this) 0 2).bind fun v17 =>
    (xaI q16.2 v17 a0).bind fun v18 =>
    some ((q16.1 * v18), q16.2))
  else
  some ((0 : Int32), M)
set_option maxRecDepth 20000 in
theorem TfA_bytesIn {M M' : xMem} {r : Int32} (this : xId) (a0 : Int32) (a1 : Int32) (h : fA_bytesIn M this a0 a1 = some (r, M')) : xrun none 2 83 0 ([some (.inr (.inr (some this))), some (.inl a0), some (.inl a1)]) ([]) M (some (.inl r), M') := by
  unfold fA_bytesIn at h
  refine xr_iload_n (pc' := 1) rfl rfl rfl ?_
  rcases xite h with ⟨hc, h⟩ | ⟨hc, h⟩
  · refine xr_if_lt_t (t := 20) rfl hc ?_
    exact TfA_bytesIn_20   M _  _ _ h
  · refine xr_if_lt_f (pc' := 4) rfl hc rfl ?_
    refine xr_iload_n (pc' := 5) rfl rfl rfl ?_
    refine xr_bipush (v := 32) (pc' := 7) rfl (by decide) rfl ?_
    rcases xite h with ⟨hc, h⟩ | ⟨hc, h⟩
    · refine xr_icmp_ge_t (t := 20) rfl hc ?_
      exact TfA_bytesIn_20   M _  _ _ h
    · refine xr_icmp_ge_f (pc' := 10) rfl hc rfl ?_
      refine xr_aload_n (pc' := 11) rfl rfl rfl ?_
      obtain ⟨v1, hv1, h⟩ := xbind h
      refine xr_getR (pc' := 14) rfl (by decide) hv1 rfl ?_
      refine xr_iload_n (pc' := 15) rfl rfl rfl ?_
      obtain ⟨v2, hv2, h⟩ := xbind h
      refine xr_aI (pc' := 16) rfl hv2 rfl ?_
      refine xr_iconst (v := -1) (pc' := 17) rfl (by decide) rfl ?_
      rcases xite h with ⟨hc, h⟩ | ⟨hc, h⟩
      · refine xr_icmp_ne_f (pc' := 20) rfl hc rfl ?_
        exact TfA_bytesIn_20   M _  _ _ h
      · refine xr_icmp_ne_t (t := 32) rfl hc ?_
        refine xr_iload_n (pc' := 33) rfl rfl rfl ?_
        rcases xite h with ⟨hc33_1, h⟩ | ⟨hc33_1, h⟩
        · refine xr_tsw_in (t := 72) rfl (by rw [hc33_1]; decide) (by rw [hc33_1]; rfl) (by decide) ?_
          refine xr_bipush (v := 32) (pc' := 74) rfl (by decide) rfl ?_
          obtain ⟨rfl, rfl⟩ := xsome2 h
          exact xr_iret rfl mR_83
        rcases xite h with ⟨hc33_2, h⟩ | ⟨hc33_2, h⟩
        · refine xr_tsw_in (t := 75) rfl (by rw [hc33_2]; decide) (by rw [hc33_2]; rfl) (by decide) ?_
          refine xr_aload_n (pc' := 76) rfl rfl rfl ?_
          obtain ⟨v3, hv3, h⟩ := xbind h
          refine xr_getR (pc' := 79) rfl (by decide) hv3 rfl ?_
          refine xr_iload_n (pc' := 80) rfl rfl rfl ?_
          obtain ⟨v4, hv4, h⟩ := xbind h
          refine xr_aI (pc' := 81) rfl hv4 rfl ?_
          obtain ⟨rfl, rfl⟩ := xsome2 h
          exact xr_iret rfl mR_83
        rcases xite h with ⟨hc33_3, h⟩ | ⟨hc33_3, h⟩
        · refine xr_tsw_in (t := 82) rfl (by rw [hc33_3]; decide) (by rw [hc33_3]; rfl) (by decide) ?_
          refine xr_aload_n (pc' := 83) rfl rfl rfl ?_
          refine xr_iload_n (pc' := 84) rfl rfl rfl ?_
          obtain ⟨u5, hu5, h⟩ := xbind h
          obtain ⟨q6, hq6, h⟩ := xbind h
          refine xr_callV (pc' := 87) (C := 0) (As := [_]) (rest := _) rfl hu5 mC_84 mL_84 rfl (Nat.le_of_ble_eq_true rfl) rfl (Nat.le_of_ble_eq_true rfl) (TfA_tailOf _ _ hq6) rfl ?_
          obtain ⟨rfl, rfl⟩ := xsome2 h
          exact xr_iret rfl mR_83
        rcases xite h with ⟨hc33_4, h⟩ | ⟨hc33_4, h⟩
        · refine xr_tsw_in (t := 88) rfl (by rw [hc33_4]; decide) (by rw [hc33_4]; rfl) (by decide) ?_
          refine xr_aload_n (pc' := 89) rfl rfl rfl ?_
          refine xr_iload_n (pc' := 90) rfl rfl rfl ?_
          refine xr_iconst (v := 1) (pc' := 91) rfl (by decide) rfl ?_
          obtain ⟨u7, hu7, h⟩ := xbind h
          obtain ⟨q8, hq8, h⟩ := xbind h
          refine xr_callV (pc' := 94) (C := 0) (As := [_, _]) (rest := _) rfl hu7 mC_59 mL_59 rfl (Nat.le_of_ble_eq_true rfl) rfl (Nat.le_of_ble_eq_true rfl) (TfA_inPage _ _ _ hq8) rfl ?_
          refine xr_aload_n (pc' := 95) rfl rfl rfl ?_
          obtain ⟨v9, hv9, h⟩ := xbind h
          refine xr_getR (pc' := 98) rfl (by decide) hv9 rfl ?_
          refine xr_iload_n (pc' := 99) rfl rfl rfl ?_
          obtain ⟨v10, hv10, h⟩ := xbind h
          refine xr_aI (pc' := 100) rfl hv10 rfl ?_
          refine xr_imul (pc' := 101) rfl rfl ?_
          obtain ⟨rfl, rfl⟩ := xsome2 h
          exact xr_iret rfl mR_83
        rcases xite h with ⟨hc33_5, h⟩ | ⟨hc33_5, h⟩
        · refine xr_tsw_in (t := 102) rfl (by rw [hc33_5]; decide) (by rw [hc33_5]; rfl) (by decide) ?_
          refine xr_aload_n (pc' := 103) rfl rfl rfl ?_
          refine xr_iload_n (pc' := 104) rfl rfl rfl ?_
          refine xr_iconst (v := 2) (pc' := 105) rfl (by decide) rfl ?_
          obtain ⟨u11, hu11, h⟩ := xbind h
          obtain ⟨q12, hq12, h⟩ := xbind h
          refine xr_callV (pc' := 108) (C := 0) (As := [_, _]) (rest := _) rfl hu11 mC_59 mL_59 rfl (Nat.le_of_ble_eq_true rfl) rfl (Nat.le_of_ble_eq_true rfl) (TfA_inPage _ _ _ hq12) rfl ?_
          refine xr_aload_n (pc' := 109) rfl rfl rfl ?_
          obtain ⟨v13, hv13, h⟩ := xbind h
          refine xr_getR (pc' := 112) rfl (by decide) hv13 rfl ?_
          refine xr_iload_n (pc' := 113) rfl rfl rfl ?_
          obtain ⟨v14, hv14, h⟩ := xbind h
          refine xr_aI (pc' := 114) rfl hv14 rfl ?_
          refine xr_imul (pc' := 115) rfl rfl ?_
          obtain ⟨rfl, rfl⟩ := xsome2 h
          exact xr_iret rfl mR_83
        rcases xite h with ⟨hc33_6, h⟩ | ⟨hc33_6, h⟩
        · refine xr_tsw_in (t := 116) rfl (by rw [hc33_6]; decide) (by rw [hc33_6]; rfl) (by decide) ?_
          refine xr_aload_n (pc' := 117) rfl rfl rfl ?_
          refine xr_iload_n (pc' := 118) rfl rfl rfl ?_
          refine xr_iconst (v := 0) (pc' := 119) rfl (by decide) rfl ?_
          obtain ⟨u15, hu15, h⟩ := xbind h
          obtain ⟨q16, hq16, h⟩ := xbind h
          refine xr_callV (pc' := 122) (C := 0) (As := [_, _]) (rest := _) rfl hu15 mC_59 mL_59 rfl (Nat.le_of_ble_eq_true rfl) rfl (Nat.le_of_ble_eq_true rfl) (TfA_inPage _ _ _ hq16) rfl ?_
          refine xr_aload_n (pc' := 123) rfl rfl rfl ?_
          obtain ⟨v17, hv17, h⟩ := xbind h
          refine xr_getR (pc' := 126) rfl (by decide) hv17 rfl ?_
          refine xr_iload_n (pc' := 127) rfl rfl rfl ?_
          obtain ⟨v18, hv18, h⟩ := xbind h
          refine xr_aI (pc' := 128) rfl hv18 rfl ?_
          refine xr_imul (pc' := 129) rfl rfl ?_
          obtain ⟨rfl, rfl⟩ := xsome2 h
          exact xr_iret rfl mR_83
        have hc33_1 := lv_neT hc33_1 (by decide : (1 : Int32).toInt = 1)
        have hc33_2 := lv_neT hc33_2 (by decide : (2 : Int32).toInt = 2)
        have hc33_3 := lv_neT hc33_3 (by decide : (3 : Int32).toInt = 3)
        have hc33_4 := lv_neT hc33_4 (by decide : (4 : Int32).toInt = 4)
        have hc33_5 := lv_neT hc33_5 (by decide : (5 : Int32).toInt = 5)
        have hc33_6 := lv_neT hc33_6 (by decide : (6 : Int32).toInt = 6)
        refine xr_tsw_out (t := 130) rfl (by omega) (by decide) ?_
        refine xr_iconst (v := 0) (pc' := 131) rfl (by decide) rfl ?_
        obtain ⟨rfl, rfl⟩ := xsome2 h
        exact xr_iret rfl mR_83
-- 82: MagazineDepot.bytes(I)I
def fX_bytes_16  : Nat → xMem → Option xId → Int32 → Int32 → Int32 → Option (Int32 × xMem)
  | 0, _, _, _, _, _ => none
  | n + 1, M, l0, l1, l2, l3 =>
    if (32 : Int32) ≤ l3 then (
      some (l2, M))
    else
    (xgR M l0 7 0).bind fun v1 =>
    (xgR M v1 3 0).bind fun v2 =>
    (xob M v2 0).bind fun u3 =>
    (fA_bytesIn M u3 l3 l1).bind fun q4 =>
    fX_bytes_16  n q4.2 l0 l1 (l2 + q4.1) (l3 + 1)
set_option maxRecDepth 20000 in
theorem TfX_bytes_16 {M' : xMem} {r : Int32}  : ∀ (n : Nat) (M : xMem) (l0 : Option xId) (l1 : Int32) (l2 : Int32) (l3 : Int32) , fX_bytes_16  n M l0 l1 l2 l3 = some (r, M') → xrun none 3 82 16 ([some (.inr (.inr l0)), some (.inl l1), some (.inl l2), some (.inl l3)]) ([]) M (some (.inl r), M') := by
  intro n
  induction n with
  | zero => intro M l0 l1 l2 l3  h; unfold fX_bytes_16 at h; cases h
  | succ n ih =>
    intro M l0 l1 l2 l3  h
    unfold fX_bytes_16 at h
    refine xr_iload_n (pc' := 17) rfl rfl rfl ?_
    refine xr_bipush (v := 32) (pc' := 19) rfl (by decide) rfl ?_
    rcases xite h with ⟨hc, h⟩ | ⟨hc, h⟩
    · refine xr_icmp_ge_t (t := 43) rfl hc ?_
      refine xr_iload_n (pc' := 44) rfl rfl rfl ?_
      obtain ⟨rfl, rfl⟩ := xsome2 h
      exact xr_iret rfl mR_82
    · refine xr_icmp_ge_f (pc' := 22) rfl hc rfl ?_
      refine xr_iload_n (pc' := 23) rfl rfl rfl ?_
      refine xr_aload_n (pc' := 24) rfl rfl rfl ?_
      obtain ⟨v1, hv1, h⟩ := xbind h
      refine xr_getR (pc' := 27) rfl (by decide) hv1 rfl ?_
      obtain ⟨v2, hv2, h⟩ := xbind h
      refine xr_getR (pc' := 30) rfl (by decide) hv2 rfl ?_
      refine xr_iload_n (pc' := 31) rfl rfl rfl ?_
      refine xr_iload_n (pc' := 32) rfl rfl rfl ?_
      obtain ⟨u3, hu3, h⟩ := xbind h
      obtain ⟨q4, hq4, h⟩ := xbind h
      refine xr_callV (pc' := 35) (C := 0) (As := [_, _]) (rest := _) rfl hu3 mC_83 mL_83 rfl (Nat.le_of_ble_eq_true rfl) rfl (Nat.le_of_ble_eq_true rfl) (TfA_bytesIn _ _ _ hq4) rfl ?_
      refine xr_iadd (pc' := 36) rfl rfl ?_
      refine xr_istore_n (pc' := 37) rfl rfl rfl ?_
      refine xr_iinc (c := 1) (pc' := 40) rfl (by decide) rfl rfl rfl ?_
      refine xr_goto (t := 16) rfl ?_
      exact ih q4.2 _ _ _ _  h
def fX_bytes (M : xMem) (this : xId) (a0 : Int32) : Option (Int32 × xMem) :=
  if a0 < 0 then (
    some ((-1 : Int32), M))
  else
  if a0 < (7 : Int32) then (
    fX_bytes_16  xF M (some this) a0 (0 : Int32) (0 : Int32))
  else
  some ((-1 : Int32), M)
set_option maxRecDepth 20000 in
theorem TfX_bytes {M M' : xMem} {r : Int32} (this : xId) (a0 : Int32) (h : fX_bytes M this a0 = some (r, M')) : xrun none 3 82 0 ([some (.inr (.inr (some this))), some (.inl a0), none, none]) ([]) M (some (.inl r), M') := by
  unfold fX_bytes at h
  refine xr_iload_n (pc' := 1) rfl rfl rfl ?_
  rcases xite h with ⟨hc, h⟩ | ⟨hc, h⟩
  · refine xr_if_lt_t (t := 10) rfl hc ?_
    refine xr_iconst (v := -1) (pc' := 11) rfl (by decide) rfl ?_
    obtain ⟨rfl, rfl⟩ := xsome2 h
    exact xr_iret rfl mR_82
  · refine xr_if_lt_f (pc' := 4) rfl hc rfl ?_
    refine xr_iload_n (pc' := 5) rfl rfl rfl ?_
    refine xr_bipush (v := 7) (pc' := 7) rfl (by decide) rfl ?_
    rcases xite h with ⟨hc, h⟩ | ⟨hc, h⟩
    · refine xr_icmp_lt_t (t := 12) rfl hc ?_
      refine xr_iconst (v := 0) (pc' := 13) rfl (by decide) rfl ?_
      refine xr_istore_n (pc' := 14) rfl rfl rfl ?_
      refine xr_iconst (v := 0) (pc' := 15) rfl (by decide) rfl ?_
      refine xr_istore_n (pc' := 16) rfl rfl rfl ?_
      exact TfX_bytes_16   xF M _ _ _ _  h
    · refine xr_icmp_lt_f (pc' := 10) rfl hc rfl ?_
      refine xr_iconst (v := -1) (pc' := 11) rfl (by decide) rfl ?_
      obtain ⟨rfl, rfl⟩ := xsome2 h
      exact xr_iret rfl mR_82
-- 85: MagazineDepot.page(II)I
def fX_page (M : xMem) (this : xId) (a0 : Int32) (a1 : Int32) : Option (Int32 × xMem) :=
  if a0 < 0 then (
    some ((-1 : Int32), M))
  else
  if (32 : Int32) ≤ a0 then (
    some ((-1 : Int32), M))
  else
  if a1 < 0 then (
    some ((-1 : Int32), M))
  else
  if a1 ≤ (4 : Int32) then (
    (xgR M (some this) 7 0).bind fun v1 =>
    (xgR M v1 3 0).bind fun v2 =>
    (xgR M v2 0 0).bind fun v3 =>
    (xaI M v3 a0).bind fun v4 =>
    if v4 = (-1 : Int32) then (
      some ((-2 : Int32), M))
    else
    if a1 = 0 then (
      (xgR M (some this) 7 0).bind fun v5 =>
      (xgR M v5 3 0).bind fun v6 =>
      (xgR M v6 0 0).bind fun v7 =>
      (xaI M v7 a0).bind fun v8 =>
      some (v8, M))
    else
    if a1 = 1 then (
      (xgR M (some this) 7 0).bind fun v9 =>
      (xgR M v9 3 0).bind fun v10 =>
      (xgR M v10 0 1).bind fun v11 =>
      (xaI M v11 a0).bind fun v12 =>
      some (v12, M))
    else
    if a1 = 2 then (
      (xgR M (some this) 7 0).bind fun v13 =>
      (xgR M v13 3 0).bind fun v14 =>
      (xob M v14 0).bind fun u15 =>
      (fA_tailOf M u15 a0).bind fun q16 =>
      some (q16.1, q16.2))
    else
    if a1 = 3 then (
      (xgR M (some this) 7 0).bind fun v17 =>
      (xgR M v17 3 0).bind fun v18 =>
      (xob M v18 0).bind fun u19 =>
      (fA_inPage M u19 a0 (0 : Int32)).bind fun q20 =>
      some (q20.1, q20.2))
    else
    (xgR M (some this) 7 0).bind fun v21 =>
    (xgR M v21 3 0).bind fun v22 =>
    (xob M v22 0).bind fun u23 =>
    (fA_firstFreeIn M u23 a0).bind fun q24 =>
    if q24.1 = (-1 : Int32) then (
      some ((-2 : Int32), q24.2))
    else
    (xgR q24.2 (some this) 7 0).bind fun v25 =>
    (xgR q24.2 v25 3 0).bind fun v26 =>
    (xob q24.2 v26 0).bind fun u27 =>
    (fA_addressOf q24.2 u27 q24.1).bind fun q28 =>
    some (q28.1, q28.2))
  else
  some ((-1 : Int32), M)
set_option maxRecDepth 20000 in
theorem TfX_page {M M' : xMem} {r : Int32} (this : xId) (a0 : Int32) (a1 : Int32) (h : fX_page M this a0 a1 = some (r, M')) : xrun none 2 85 0 ([some (.inr (.inr (some this))), some (.inl a0), some (.inl a1), none]) ([]) M (some (.inl r), M') := by
  unfold fX_page at h
  refine xr_iload_n (pc' := 1) rfl rfl rfl ?_
  rcases xite h with ⟨hc, h⟩ | ⟨hc, h⟩
  · refine xr_if_lt_t (t := 19) rfl hc ?_
    refine xr_iconst (v := -1) (pc' := 20) rfl (by decide) rfl ?_
    obtain ⟨rfl, rfl⟩ := xsome2 h
    exact xr_iret rfl mR_85
  · refine xr_if_lt_f (pc' := 4) rfl hc rfl ?_
    refine xr_iload_n (pc' := 5) rfl rfl rfl ?_
    refine xr_bipush (v := 32) (pc' := 7) rfl (by decide) rfl ?_
    rcases xite h with ⟨hc, h⟩ | ⟨hc, h⟩
    · refine xr_icmp_ge_t (t := 19) rfl hc ?_
      refine xr_iconst (v := -1) (pc' := 20) rfl (by decide) rfl ?_
      obtain ⟨rfl, rfl⟩ := xsome2 h
      exact xr_iret rfl mR_85
    · refine xr_icmp_ge_f (pc' := 10) rfl hc rfl ?_
      refine xr_iload_n (pc' := 11) rfl rfl rfl ?_
      rcases xite h with ⟨hc, h⟩ | ⟨hc, h⟩
      · refine xr_if_lt_t (t := 19) rfl hc ?_
        refine xr_iconst (v := -1) (pc' := 20) rfl (by decide) rfl ?_
        obtain ⟨rfl, rfl⟩ := xsome2 h
        exact xr_iret rfl mR_85
      · refine xr_if_lt_f (pc' := 14) rfl hc rfl ?_
        refine xr_iload_n (pc' := 15) rfl rfl rfl ?_
        refine xr_iconst (v := 4) (pc' := 16) rfl (by decide) rfl ?_
        rcases xite h with ⟨hc, h⟩ | ⟨hc, h⟩
        · refine xr_icmp_le_t (t := 21) rfl hc ?_
          refine xr_aload_n (pc' := 22) rfl rfl rfl ?_
          obtain ⟨v1, hv1, h⟩ := xbind h
          refine xr_getR (pc' := 25) rfl (by decide) hv1 rfl ?_
          obtain ⟨v2, hv2, h⟩ := xbind h
          refine xr_getR (pc' := 28) rfl (by decide) hv2 rfl ?_
          obtain ⟨v3, hv3, h⟩ := xbind h
          refine xr_getR (pc' := 31) rfl (by decide) hv3 rfl ?_
          refine xr_iload_n (pc' := 32) rfl rfl rfl ?_
          obtain ⟨v4, hv4, h⟩ := xbind h
          refine xr_aI (pc' := 33) rfl hv4 rfl ?_
          refine xr_iconst (v := -1) (pc' := 34) rfl (by decide) rfl ?_
          rcases xite h with ⟨hc, h⟩ | ⟨hc, h⟩
          · refine xr_icmp_ne_f (pc' := 37) rfl hc rfl ?_
            refine xr_bipush (v := -2) (pc' := 39) rfl (by decide) rfl ?_
            obtain ⟨rfl, rfl⟩ := xsome2 h
            exact xr_iret rfl mR_85
          · refine xr_icmp_ne_t (t := 40) rfl hc ?_
            refine xr_iload_n (pc' := 41) rfl rfl rfl ?_
            rcases xite h with ⟨hc41_0, h⟩ | ⟨hc41_0, h⟩
            · refine xr_tsw_in (t := 72) rfl (by rw [hc41_0]; decide) (by rw [hc41_0]; rfl) (by decide) ?_
              refine xr_aload_n (pc' := 73) rfl rfl rfl ?_
              obtain ⟨v5, hv5, h⟩ := xbind h
              refine xr_getR (pc' := 76) rfl (by decide) hv5 rfl ?_
              obtain ⟨v6, hv6, h⟩ := xbind h
              refine xr_getR (pc' := 79) rfl (by decide) hv6 rfl ?_
              obtain ⟨v7, hv7, h⟩ := xbind h
              refine xr_getR (pc' := 82) rfl (by decide) hv7 rfl ?_
              refine xr_iload_n (pc' := 83) rfl rfl rfl ?_
              obtain ⟨v8, hv8, h⟩ := xbind h
              refine xr_aI (pc' := 84) rfl hv8 rfl ?_
              obtain ⟨rfl, rfl⟩ := xsome2 h
              exact xr_iret rfl mR_85
            rcases xite h with ⟨hc41_1, h⟩ | ⟨hc41_1, h⟩
            · refine xr_tsw_in (t := 85) rfl (by rw [hc41_1]; decide) (by rw [hc41_1]; rfl) (by decide) ?_
              refine xr_aload_n (pc' := 86) rfl rfl rfl ?_
              obtain ⟨v9, hv9, h⟩ := xbind h
              refine xr_getR (pc' := 89) rfl (by decide) hv9 rfl ?_
              obtain ⟨v10, hv10, h⟩ := xbind h
              refine xr_getR (pc' := 92) rfl (by decide) hv10 rfl ?_
              obtain ⟨v11, hv11, h⟩ := xbind h
              refine xr_getR (pc' := 95) rfl (by decide) hv11 rfl ?_
              refine xr_iload_n (pc' := 96) rfl rfl rfl ?_
              obtain ⟨v12, hv12, h⟩ := xbind h
              refine xr_aI (pc' := 97) rfl hv12 rfl ?_
              obtain ⟨rfl, rfl⟩ := xsome2 h
              exact xr_iret rfl mR_85
            rcases xite h with ⟨hc41_2, h⟩ | ⟨hc41_2, h⟩
            · refine xr_tsw_in (t := 98) rfl (by rw [hc41_2]; decide) (by rw [hc41_2]; rfl) (by decide) ?_
              refine xr_aload_n (pc' := 99) rfl rfl rfl ?_
              obtain ⟨v13, hv13, h⟩ := xbind h
              refine xr_getR (pc' := 102) rfl (by decide) hv13 rfl ?_
              obtain ⟨v14, hv14, h⟩ := xbind h
              refine xr_getR (pc' := 105) rfl (by decide) hv14 rfl ?_
              refine xr_iload_n (pc' := 106) rfl rfl rfl ?_
              obtain ⟨u15, hu15, h⟩ := xbind h
              obtain ⟨q16, hq16, h⟩ := xbind h
              refine xr_callV (pc' := 109) (C := 0) (As := [_]) (rest := _) rfl hu15 mC_84 mL_84 rfl (Nat.le_of_ble_eq_true rfl) rfl (Nat.le_of_ble_eq_true rfl) (TfA_tailOf _ _ hq16) rfl ?_
              obtain ⟨rfl, rfl⟩ := xsome2 h
              exact xr_iret rfl mR_85
            rcases xite h with ⟨hc41_3, h⟩ | ⟨hc41_3, h⟩
            · refine xr_tsw_in (t := 110) rfl (by rw [hc41_3]; decide) (by rw [hc41_3]; rfl) (by decide) ?_
              refine xr_aload_n (pc' := 111) rfl rfl rfl ?_
              obtain ⟨v17, hv17, h⟩ := xbind h
              refine xr_getR (pc' := 114) rfl (by decide) hv17 rfl ?_
              obtain ⟨v18, hv18, h⟩ := xbind h
              refine xr_getR (pc' := 117) rfl (by decide) hv18 rfl ?_
              refine xr_iload_n (pc' := 118) rfl rfl rfl ?_
              refine xr_iconst (v := 0) (pc' := 119) rfl (by decide) rfl ?_
              obtain ⟨u19, hu19, h⟩ := xbind h
              obtain ⟨q20, hq20, h⟩ := xbind h
              refine xr_callV (pc' := 122) (C := 0) (As := [_, _]) (rest := _) rfl hu19 mC_59 mL_59 rfl (Nat.le_of_ble_eq_true rfl) rfl (Nat.le_of_ble_eq_true rfl) (TfA_inPage _ _ _ hq20) rfl ?_
              obtain ⟨rfl, rfl⟩ := xsome2 h
              exact xr_iret rfl mR_85
            have hc41_0 := lv_neT hc41_0 (by decide : (0 : Int32).toInt = 0)
            have hc41_1 := lv_neT hc41_1 (by decide : (1 : Int32).toInt = 1)
            have hc41_2 := lv_neT hc41_2 (by decide : (2 : Int32).toInt = 2)
            have hc41_3 := lv_neT hc41_3 (by decide : (3 : Int32).toInt = 3)
            refine xr_tsw_out (t := 123) rfl (by omega) (by decide) ?_
            refine xr_aload_n (pc' := 124) rfl rfl rfl ?_
            obtain ⟨v21, hv21, h⟩ := xbind h
            refine xr_getR (pc' := 127) rfl (by decide) hv21 rfl ?_
            obtain ⟨v22, hv22, h⟩ := xbind h
            refine xr_getR (pc' := 130) rfl (by decide) hv22 rfl ?_
            refine xr_iload_n (pc' := 131) rfl rfl rfl ?_
            obtain ⟨u23, hu23, h⟩ := xbind h
            obtain ⟨q24, hq24, h⟩ := xbind h
            refine xr_callV (pc' := 134) (C := 0) (As := [_]) (rest := _) rfl hu23 mC_36 mL_36 rfl (Nat.le_of_ble_eq_true rfl) rfl (Nat.le_of_ble_eq_true rfl) (TfA_firstFreeIn _ _ hq24) rfl ?_
            refine xr_istore_n (pc' := 135) rfl rfl rfl ?_
            refine xr_iload_n (pc' := 136) rfl rfl rfl ?_
            refine xr_iconst (v := -1) (pc' := 137) rfl (by decide) rfl ?_
            rcases xite h with ⟨hc, h⟩ | ⟨hc, h⟩
            · refine xr_icmp_ne_f (pc' := 140) rfl hc rfl ?_
              refine xr_bipush (v := -2) (pc' := 142) rfl (by decide) rfl ?_
              refine xr_goto (t := 156) rfl ?_
              obtain ⟨rfl, rfl⟩ := xsome2 h
              exact xr_iret rfl mR_85
            · refine xr_icmp_ne_t (t := 145) rfl hc ?_
              refine xr_aload_n (pc' := 146) rfl rfl rfl ?_
              obtain ⟨v25, hv25, h⟩ := xbind h
              refine xr_getR (pc' := 149) rfl (by decide) hv25 rfl ?_
              obtain ⟨v26, hv26, h⟩ := xbind h
              refine xr_getR (pc' := 152) rfl (by decide) hv26 rfl ?_
              refine xr_iload_n (pc' := 153) rfl rfl rfl ?_
              obtain ⟨u27, hu27, h⟩ := xbind h
              obtain ⟨q28, hq28, h⟩ := xbind h
              refine xr_callV (pc' := 156) (C := 0) (As := [_]) (rest := _) rfl hu27 mC_38 mL_38 rfl (Nat.le_of_ble_eq_true rfl) rfl (Nat.le_of_ble_eq_true rfl) (TfA_addressOf _ _ hq28) rfl ?_
              obtain ⟨rfl, rfl⟩ := xsome2 h
              exact xr_iret rfl mR_85
        · refine xr_icmp_le_f (pc' := 19) rfl hc rfl ?_
          refine xr_iconst (v := -1) (pc' := 20) rfl (by decide) rfl ?_
          obtain ⟨rfl, rfl⟩ := xsome2 h
          exact xr_iret rfl mR_85
