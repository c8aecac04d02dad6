/-! shallow functions of the methods (by program, out of the bytecode), and that a run is what they say -/
-- 147: MagazineDepot$Bins.get(II)I
def fB_get (M : xMem) (this : xId) (a0 : Int32) (a1 : Int32) : Option (Int32 × xMem) :=
  (xob M (some this) 1).bind fun u1 =>
  (fB_hasPlace M u1 a0 a1).bind fun q2 =>
  if q2.1 = 0 then (
    some ((-1 : Int32), q2.2))
  else
  (xgR q2.2 (some this) 1 0).bind fun v3 =>
  (xaR q2.2 25 v3 a0).bind fun v4 =>
  (xaI q2.2 v4 a1).bind fun v5 =>
  some (v5, q2.2)
set_option maxRecDepth 20000 in
theorem TfB_get {M M' : xMem} {r : Int32} (this : xId) (a0 : Int32) (a1 : Int32) (h : fB_get M this a0 a1 = some (r, M')) : xrun none 2 147 0 ([some (.inr (.inr (some this))), some (.inl a0), some (.inl a1)]) ([]) M (some (.inl r), M') := by
  unfold fB_get at h
  refine xr_aload_n (pc' := 1) rfl rfl rfl ?_
  refine xr_iload_n (pc' := 2) rfl rfl rfl ?_
  refine xr_iload_n (pc' := 3) rfl rfl rfl ?_
  obtain ⟨u1, hu1, h⟩ := xbind h
  obtain ⟨q2, hq2, h⟩ := xbind h
  refine xr_callV (pc' := 6) (C := 1) (As := [_, _]) (rest := _) rfl hu1 mC_144 mL_144 rfl (Nat.le_of_ble_eq_true rfl) rfl (Nat.le_of_ble_eq_true rfl) (TfB_hasPlace _ _ _ hq2) rfl ?_
  rcases xite h with ⟨hc, h⟩ | ⟨hc, h⟩
  · refine xr_if_eq_t (t := 20) rfl hc ?_
    refine xr_iconst (v := -1) (pc' := 21) rfl (by decide) rfl ?_
    obtain ⟨rfl, rfl⟩ := xsome2 h
    exact xr_iret rfl mR_147
  · refine xr_if_eq_f (pc' := 9) rfl hc rfl ?_
    refine xr_aload_n (pc' := 10) rfl rfl rfl ?_
    obtain ⟨v3, hv3, h⟩ := xbind h
    refine xr_getR (pc' := 13) rfl (by decide) hv3 rfl ?_
    refine xr_iload_n (pc' := 14) rfl rfl rfl ?_
    obtain ⟨v4, hv4, h⟩ := xbind h
    refine xr_aR (pc' := 15) rfl hv4 rfl ?_
    refine xr_iload_n (pc' := 16) rfl rfl rfl ?_
    obtain ⟨v5, hv5, h⟩ := xbind h
    refine xr_aI (pc' := 17) rfl hv5 rfl ?_
    refine xr_goto (t := 21) rfl ?_
    obtain ⟨rfl, rfl⟩ := xsome2 h
    exact xr_iret rfl mR_147
-- 146: MagazineDepot.at(II)I
def fX_at (M : xMem) (this : xId) (a0 : Int32) (a1 : Int32) : Option (Int32 × xMem) :=
  (xgR M (some this) 7 14).bind fun v1 =>
  (xob M v1 1).bind fun u2 =>
  (fB_isNumber M u2 a0).bind fun q3 =>
  if q3.1 = 0 then (
    some ((-1 : Int32), q3.2))
  else
  (xgR q3.2 (some this) 7 14).bind fun v4 =>
  (xob q3.2 v4 1).bind fun u5 =>
  (fB_isMissing q3.2 u5 a0).bind fun q6 =>
  if q6.1 = 0 then (
    (xgR q6.2 (some this) 7 14).bind fun v7 =>
    (xob q6.2 v7 1).bind fun u8 =>
    (fB_hasPlace q6.2 u8 a0 a1).bind fun q9 =>
    if q9.1 = 0 then (
      some ((-13 : Int32), q9.2))
    else
    (xgR q9.2 (some this) 7 14).bind fun v10 =>
    (xob q9.2 v10 1).bind fun u11 =>
    (fB_get q9.2 u11 a0 a1).bind fun q12 =>
    if q12.1 = (-1 : Int32) then (
      some ((-11 : Int32), q12.2))
    else
    some (q12.1, q12.2))
  else
  some ((-11 : Int32), q6.2)
set_option maxRecDepth 20000 in
theorem TfX_at {M M' : xMem} {r : Int32} (this : xId) (a0 : Int32) (a1 : Int32) (h : fX_at M this a0 a1 = some (r, M')) : xrun none 3 146 0 ([some (.inr (.inr (some this))), some (.inl a0), some (.inl a1), none]) ([]) M (some (.inl r), M') := by
  unfold fX_at at h
  refine xr_aload_n (pc' := 1) rfl rfl rfl ?_
  obtain ⟨v1, hv1, h⟩ := xbind h
  refine xr_getR (pc' := 4) rfl (by decide) hv1 rfl ?_
  refine xr_iload_n (pc' := 5) rfl rfl rfl ?_
  obtain ⟨u2, hu2, h⟩ := xbind h
  obtain ⟨q3, hq3, h⟩ := xbind h
  refine xr_callV (pc' := 8) (C := 1) (As := [_]) (rest := _) rfl hu2 mC_140 mL_140 rfl (Nat.le_of_ble_eq_true rfl) rfl (Nat.le_of_ble_eq_true rfl) (TfB_isNumber _ _ hq3) rfl ?_
  rcases xite h with ⟨hc, h⟩ | ⟨hc, h⟩
  · refine xr_if_ne_f (pc' := 11) rfl hc rfl ?_
    refine xr_iconst (v := -1) (pc' := 12) rfl (by decide) rfl ?_
    obtain ⟨rfl, rfl⟩ := xsome2 h
    exact xr_iret rfl mR_146
  · refine xr_if_ne_t (t := 13) rfl hc ?_
    refine xr_aload_n (pc' := 14) rfl rfl rfl ?_
    obtain ⟨v4, hv4, h⟩ := xbind h
    refine xr_getR (pc' := 17) rfl (by decide) hv4 rfl ?_
    refine xr_iload_n (pc' := 18) rfl rfl rfl ?_
    obtain ⟨u5, hu5, h⟩ := xbind h
    obtain ⟨q6, hq6, h⟩ := xbind h
    refine xr_callV (pc' := 21) (C := 1) (As := [_]) (rest := _) rfl hu5 mC_143 mL_143 rfl (Nat.le_of_ble_eq_true rfl) rfl (Nat.le_of_ble_eq_true rfl) (TfB_isMissing _ _ hq6) rfl ?_
    rcases xite h with ⟨hc, h⟩ | ⟨hc, h⟩
    · refine xr_if_eq_t (t := 27) rfl hc ?_
      refine xr_aload_n (pc' := 28) rfl rfl rfl ?_
      obtain ⟨v7, hv7, h⟩ := xbind h
      refine xr_getR (pc' := 31) rfl (by decide) hv7 rfl ?_
      refine xr_iload_n (pc' := 32) rfl rfl rfl ?_
      refine xr_iload_n (pc' := 33) rfl rfl rfl ?_
      obtain ⟨u8, hu8, h⟩ := xbind h
      obtain ⟨q9, hq9, h⟩ := xbind h
      refine xr_callV (pc' := 36) (C := 1) (As := [_, _]) (rest := _) rfl hu8 mC_144 mL_144 rfl (Nat.le_of_ble_eq_true rfl) rfl (Nat.le_of_ble_eq_true rfl) (TfB_hasPlace _ _ _ hq9) rfl ?_
      rcases xite h with ⟨hc, h⟩ | ⟨hc, h⟩
      · refine xr_if_ne_f (pc' := 39) rfl hc rfl ?_
        refine xr_bipush (v := -13) (pc' := 41) rfl (by decide) rfl ?_
        obtain ⟨rfl, rfl⟩ := xsome2 h
        exact xr_iret rfl mR_146
      · refine xr_if_ne_t (t := 42) rfl hc ?_
        refine xr_aload_n (pc' := 43) rfl rfl rfl ?_
        obtain ⟨v10, hv10, h⟩ := xbind h
        refine xr_getR (pc' := 46) rfl (by decide) hv10 rfl ?_
        refine xr_iload_n (pc' := 47) rfl rfl rfl ?_
        refine xr_iload_n (pc' := 48) rfl rfl rfl ?_
        obtain ⟨u11, hu11, h⟩ := xbind h
        obtain ⟨q12, hq12, h⟩ := xbind h
        refine xr_callV (pc' := 51) (C := 1) (As := [_, _]) (rest := _) rfl hu11 mC_147 mL_147 rfl (Nat.le_of_ble_eq_true rfl) rfl (Nat.le_of_ble_eq_true rfl) (TfB_get _ _ _ hq12) rfl ?_
        refine xr_istore_n (pc' := 52) rfl rfl rfl ?_
        refine xr_iload_n (pc' := 53) rfl rfl rfl ?_
        refine xr_iconst (v := -1) (pc' := 54) rfl (by decide) rfl ?_
        rcases xite h with ⟨hc, h⟩ | ⟨hc, h⟩
        · refine xr_icmp_ne_f (pc' := 57) rfl hc rfl ?_
          refine xr_bipush (v := -11) (pc' := 59) rfl (by decide) rfl ?_
          refine xr_goto (t := 63) rfl ?_
          obtain ⟨rfl, rfl⟩ := xsome2 h
          exact xr_iret rfl mR_146
        · refine xr_icmp_ne_t (t := 62) rfl hc ?_
          refine xr_iload_n (pc' := 63) rfl rfl rfl ?_
          obtain ⟨rfl, rfl⟩ := xsome2 h
          exact xr_iret rfl mR_146
    · refine xr_if_eq_f (pc' := 24) rfl hc rfl ?_
      refine xr_bipush (v := -11) (pc' := 26) rfl (by decide) rfl ?_
      obtain ⟨rfl, rfl⟩ := xsome2 h
      exact xr_iret rfl mR_146
-- 148: MagazineDepot.pour(IIII)I
def fX_pour_34  : Nat → xMem → Option xId → Int32 → Int32 → Int32 → Int32 → Int32 → Option (Int32 × xMem)
  | 0, _, _, _, _, _, _, _ => none
  | n + 1, M, l0, l1, l2, l3, l4, l5 =>
    if l3 ≤ l5 then (
      some (l3, M))
    else
    (xgR M l0 7 0).bind fun v5 =>
    (xgR M v5 3 0).bind fun v6 =>
    (xgR M l0 7 14).bind fun v7 =>
    (xob M v7 1).bind fun u8 =>
    (fB_get M u8 l1 (l2 + l5)).bind fun q9 =>
    (xob q9.2 v6 0).bind fun u10 =>
    (fA_slotOf q9.2 u10 q9.1).bind fun q11 =>
    (xgR q11.2 l0 7 0).bind fun v12 =>
    (xgR q11.2 v12 3 0).bind fun v13 =>
    (xob q11.2 v13 0).bind fun u14 =>
    (fA_isLive q11.2 u14 q11.1).bind fun q15 =>
    if q15.1 = 0 then (
      some (l5, q15.2))
    else
    (xgR q15.2 l0 7 0).bind fun v16 =>
    (xob q15.2 v16 3).bind fun u17 =>
    (fD_isFit q15.2 u17 q11.1).bind fun q18 =>
    if q18.1 = 0 then (
      some (l5, q18.2))
    else
    (xgR q18.2 l0 7 0).bind fun v19 =>
    (xob q18.2 v19 3).bind fun u20 =>
    (fD_giveBy q18.2 u20 q11.1 l4).bind fun q21 =>
    (xgR q21 l0 7 14).bind fun v22 =>
    (xob q21 v22 1).bind fun u23 =>
    (fB_set q21 u23 l1 (l2 + l5) (-1 : Int32)).bind fun q24 =>
    fX_pour_34  n q24 l0 l1 l2 l3 l4 (l5 + 1)
set_option maxRecDepth 20000 in
theorem TfX_pour_34 {M' : xMem} {r : Int32}  : ∀ (n : Nat) (M : xMem) (l0 : Option xId) (l1 : Int32) (l2 : Int32) (l3 : Int32) (l4 : Int32) (l5 : Int32) (o6 : Option xVal), fX_pour_34  n M l0 l1 l2 l3 l4 l5 = some (r, M') → xrun none 4 148 34 ([some (.inr (.inr l0)), some (.inl l1), some (.inl l2), some (.inl l3), some (.inl l4), some (.inl l5), o6]) ([]) M (some (.inl r), M') := by
  intro n
  induction n with
  | zero => intro M l0 l1 l2 l3 l4 l5 o6 h; unfold fX_pour_34 at h; cases h
  | succ n ih =>
    intro M l0 l1 l2 l3 l4 l5 o6 h
    unfold fX_pour_34 at h
    refine xr_iload (pc' := 36) rfl rfl rfl ?_
    refine xr_iload_n (pc' := 37) rfl rfl rfl ?_
    rcases xite h with ⟨hc, h⟩ | ⟨hc, h⟩
    · refine xr_icmp_ge_t (t := 124) rfl hc ?_
      refine xr_iload_n (pc' := 125) rfl rfl rfl ?_
      obtain ⟨rfl, rfl⟩ := xsome2 h
      exact xr_iret rfl mR_148
    · refine xr_icmp_ge_f (pc' := 40) rfl hc rfl ?_
      refine xr_aload_n (pc' := 41) rfl rfl rfl ?_
      obtain ⟨v5, hv5, h⟩ := xbind h
      refine xr_getR (pc' := 44) rfl (by decide) hv5 rfl ?_
      obtain ⟨v6, hv6, h⟩ := xbind h
      refine xr_getR (pc' := 47) rfl (by decide) hv6 rfl ?_
      refine xr_aload_n (pc' := 48) rfl rfl rfl ?_
      obtain ⟨v7, hv7, h⟩ := xbind h
      refine xr_getR (pc' := 51) rfl (by decide) hv7 rfl ?_
      refine xr_iload_n (pc' := 52) rfl rfl rfl ?_
      refine xr_iload_n (pc' := 53) rfl rfl rfl ?_
      refine xr_iload (pc' := 55) rfl rfl rfl ?_
      refine xr_iadd (pc' := 56) rfl rfl ?_
      obtain ⟨u8, hu8, h⟩ := xbind h
      obtain ⟨q9, hq9, h⟩ := xbind h
      refine xr_callV (pc' := 59) (C := 1) (As := [_, _]) (rest := _) rfl hu8 mC_147 mL_147 rfl (Nat.le_of_ble_eq_true rfl) rfl (Nat.le_of_ble_eq_true rfl) (TfB_get _ _ _ hq9) rfl ?_
      obtain ⟨u10, hu10, h⟩ := xbind h
      obtain ⟨q11, hq11, h⟩ := xbind h
      refine xr_callV (pc' := 62) (C := 0) (As := [_]) (rest := _) rfl hu10 mC_43 mL_43 rfl (Nat.le_of_ble_eq_true rfl) rfl (Nat.le_of_ble_eq_true rfl) (TfA_slotOf _ _ hq11) rfl ?_
      refine xr_istore (pc' := 64) rfl rfl rfl ?_
      refine xr_aload_n (pc' := 65) rfl rfl rfl ?_
      obtain ⟨v12, hv12, h⟩ := xbind h
      refine xr_getR (pc' := 68) rfl (by decide) hv12 rfl ?_
      obtain ⟨v13, hv13, h⟩ := xbind h
      refine xr_getR (pc' := 71) rfl (by decide) hv13 rfl ?_
      refine xr_iload (pc' := 73) rfl rfl rfl ?_
      obtain ⟨u14, hu14, h⟩ := xbind h
      obtain ⟨q15, hq15, h⟩ := xbind h
      refine xr_callV (pc' := 76) (C := 0) (As := [_]) (rest := _) rfl hu14 mC_45 mL_45 rfl (Nat.le_of_ble_eq_true rfl) rfl (Nat.le_of_ble_eq_true rfl) (TfA_isLive _ _ hq15) rfl ?_
      rcases xite h with ⟨hc, h⟩ | ⟨hc, h⟩
      · refine xr_if_eq_t (t := 91) rfl hc ?_
        refine xr_iload (pc' := 93) rfl rfl rfl ?_
        obtain ⟨rfl, rfl⟩ := xsome2 h
        exact xr_iret rfl mR_148
      · refine xr_if_eq_f (pc' := 79) rfl hc rfl ?_
        refine xr_aload_n (pc' := 80) rfl rfl rfl ?_
        obtain ⟨v16, hv16, h⟩ := xbind h
        refine xr_getR (pc' := 83) rfl (by decide) hv16 rfl ?_
        refine xr_iload (pc' := 85) rfl rfl rfl ?_
        obtain ⟨u17, hu17, h⟩ := xbind h
        obtain ⟨q18, hq18, h⟩ := xbind h
        refine xr_callV (pc' := 88) (C := 3) (As := [_]) (rest := _) rfl hu17 mC_47 mL_47 rfl (Nat.le_of_ble_eq_true rfl) rfl (Nat.le_of_ble_eq_true rfl) (TfD_isFit _ _ hq18) rfl ?_
        rcases xite h with ⟨hc, h⟩ | ⟨hc, h⟩
        · refine xr_if_ne_f (pc' := 91) rfl hc rfl ?_
          refine xr_iload (pc' := 93) rfl rfl rfl ?_
          obtain ⟨rfl, rfl⟩ := xsome2 h
          exact xr_iret rfl mR_148
        · refine xr_if_ne_t (t := 94) rfl hc ?_
          refine xr_aload_n (pc' := 95) rfl rfl rfl ?_
          obtain ⟨v19, hv19, h⟩ := xbind h
          refine xr_getR (pc' := 98) rfl (by decide) hv19 rfl ?_
          refine xr_iload (pc' := 100) rfl rfl rfl ?_
          refine xr_iload (pc' := 102) rfl rfl rfl ?_
          obtain ⟨u20, hu20, h⟩ := xbind h
          obtain ⟨q21, hq21, h⟩ := xbind h
          refine xr_callV (pc' := 105) (C := 3) (As := [_, _]) (rest := _) rfl hu20 mC_51 mL_51 rfl (Nat.le_of_ble_eq_true rfl) rfl (Nat.le_of_ble_eq_true rfl) (TfD_giveBy _ _ _ hq21) rfl ?_
          refine xr_aload_n (pc' := 106) rfl rfl rfl ?_
          obtain ⟨v22, hv22, h⟩ := xbind h
          refine xr_getR (pc' := 109) rfl (by decide) hv22 rfl ?_
          refine xr_iload_n (pc' := 110) rfl rfl rfl ?_
          refine xr_iload_n (pc' := 111) rfl rfl rfl ?_
          refine xr_iload (pc' := 113) rfl rfl rfl ?_
          refine xr_iadd (pc' := 114) rfl rfl ?_
          refine xr_iconst (v := -1) (pc' := 115) rfl (by decide) rfl ?_
          obtain ⟨u23, hu23, h⟩ := xbind h
          obtain ⟨q24, hq24, h⟩ := xbind h
          refine xr_callV (pc' := 118) (C := 1) (As := [_, _, _]) (rest := _) rfl hu23 mC_145 mL_145 rfl (Nat.le_of_ble_eq_true rfl) rfl (Nat.le_of_ble_eq_true rfl) (TfB_set _ _ _ _ hq24) rfl ?_
          refine xr_iinc (c := 1) (pc' := 121) rfl (by decide) rfl rfl rfl ?_
          refine xr_goto (t := 34) rfl ?_
          exact ih q24 _ _ _ _ _ _ _ h
def fX_pour (M : xMem) (this : xId) (a0 : Int32) (a1 : Int32) (a2 : Int32) (a3 : Int32) : Option (Int32 × xMem) :=
  (xgR M (some this) 7 14).bind fun v1 =>
  (xob M v1 1).bind fun u2 =>
  (fB_isNumber M u2 a0).bind fun q3 =>
  if q3.1 = 0 then (
    some ((-1 : Int32), q3.2))
  else
  if a2 < 0 then (
    some ((-1 : Int32), q3.2))
  else
  if (40 : Int32) < a2 then (
    some ((-1 : Int32), q3.2))
  else
  (fX_isProcessor q3.2 a3).bind fun q4 =>
  if q4.1 = 0 then (
    some ((-1 : Int32), q4.2))
  else
  fX_pour_34  xF q4.2 (some this) a0 a1 a2 a3 (0 : Int32)
set_option maxRecDepth 20000 in
theorem TfX_pour {M M' : xMem} {r : Int32} (this : xId) (a0 : Int32) (a1 : Int32) (a2 : Int32) (a3 : Int32) (h : fX_pour M this a0 a1 a2 a3 = some (r, M')) : xrun none 4 148 0 ([some (.inr (.inr (some this))), some (.inl a0), some (.inl a1), some (.inl a2), some (.inl a3), none, none]) ([]) M (some (.inl r), M') := by
  unfold fX_pour at h
  refine xr_aload_n (pc' := 1) rfl rfl rfl ?_
  obtain ⟨v1, hv1, h⟩ := xbind h
  refine xr_getR (pc' := 4) rfl (by decide) hv1 rfl ?_
  refine xr_iload_n (pc' := 5) rfl rfl rfl ?_
  obtain ⟨u2, hu2, h⟩ := xbind h
  obtain ⟨q3, hq3, h⟩ := xbind h
  refine xr_callV (pc' := 8) (C := 1) (As := [_]) (rest := _) rfl hu2 mC_140 mL_140 rfl (Nat.le_of_ble_eq_true rfl) rfl (Nat.le_of_ble_eq_true rfl) (TfB_isNumber _ _ hq3) rfl ?_
  rcases xite h with ⟨hc, h⟩ | ⟨hc, h⟩
  · refine xr_if_eq_t (t := 29) rfl hc ?_
    refine xr_iconst (v := -1) (pc' := 30) rfl (by decide) rfl ?_
    obtain ⟨rfl, rfl⟩ := xsome2 h
    exact xr_iret rfl mR_148
  · refine xr_if_eq_f (pc' := 11) rfl hc rfl ?_
    refine xr_iload_n (pc' := 12) rfl rfl rfl ?_
    rcases xite h with ⟨hc, h⟩ | ⟨hc, h⟩
    · refine xr_if_lt_t (t := 29) rfl hc ?_
      refine xr_iconst (v := -1) (pc' := 30) rfl (by decide) rfl ?_
      obtain ⟨rfl, rfl⟩ := xsome2 h
      exact xr_iret rfl mR_148
    · refine xr_if_lt_f (pc' := 15) rfl hc rfl ?_
      refine xr_iload_n (pc' := 16) rfl rfl rfl ?_
      refine xr_bipush (v := 40) (pc' := 18) rfl (by decide) rfl ?_
      rcases xite h with ⟨hc, h⟩ | ⟨hc, h⟩
      · refine xr_icmp_gt_t (t := 29) rfl hc ?_
        refine xr_iconst (v := -1) (pc' := 30) rfl (by decide) rfl ?_
        obtain ⟨rfl, rfl⟩ := xsome2 h
        exact xr_iret rfl mR_148
      · refine xr_icmp_gt_f (pc' := 21) rfl hc rfl ?_
        refine xr_iload (pc' := 23) rfl rfl rfl ?_
        obtain ⟨q4, hq4, h⟩ := xbind h
        refine xr_callS (pc' := 26) (As := [_]) (rest := _) rfl (by decide) mL_20 rfl (Nat.le_of_ble_eq_true rfl) rfl (Nat.le_of_ble_eq_true rfl) (TfX_isProcessor _ hq4) rfl ?_
        rcases xite h with ⟨hc, h⟩ | ⟨hc, h⟩
        · refine xr_if_ne_f (pc' := 29) rfl hc rfl ?_
          refine xr_iconst (v := -1) (pc' := 30) rfl (by decide) rfl ?_
          obtain ⟨rfl, rfl⟩ := xsome2 h
          exact xr_iret rfl mR_148
        · refine xr_if_ne_t (t := 31) rfl hc ?_
          refine xr_iconst (v := 0) (pc' := 32) rfl (by decide) rfl ?_
          refine xr_istore (pc' := 34) rfl rfl rfl ?_
          exact TfX_pour_34   xF q4.2 _ _ _ _ _ _ _ h
-- 150: MagazineDepot$Bins.hasSpan(III)Z
def fB_hasSpan (M : xMem) (this : xId) (a0 : Int32) (a1 : Int32) (a2 : Int32) : Option (Int32 × xMem) :=
  (xob M (some this) 1).bind fun u1 =>
  (fB_isNumber M u1 a0).bind fun q2 =>
  if q2.1 = 0 then (
    some ((0 : Int32), q2.2))
  else
  if a1 < 0 then (
    some ((0 : Int32), q2.2))
  else
  if a2 < 0 then (
    some ((0 : Int32), q2.2))
  else
  (xgR q2.2 (some this) 1 1).bind fun v3 =>
  (xaI q2.2 v3 a0).bind fun v4 =>
  if v4 < a1 then (
    some ((0 : Int32), q2.2))
  else
  (xgR q2.2 (some this) 1 1).bind fun v5 =>
  (xaI q2.2 v5 a0).bind fun v6 =>
  if (v6 - a1) < a2 then (
    some ((0 : Int32), q2.2))
  else
  some ((1 : Int32), q2.2)
set_option maxRecDepth 20000 in
theorem TfB_hasSpan {M M' : xMem} {r : Int32} (this : xId) (a0 : Int32) (a1 : Int32) (a2 : Int32) (h : fB_hasSpan M this a0 a1 a2 = some (r, M')) : xrun none 1 150 0 ([some (.inr (.inr (some this))), some (.inl a0), some (.inl a1), some (.inl a2)]) ([]) M (some (.inl r), M') := by
  unfold fB_hasSpan at h
  refine xr_aload_n (pc' := 1) rfl rfl rfl ?_
  refine xr_iload_n (pc' := 2) rfl rfl rfl ?_
  obtain ⟨u1, hu1, h⟩ := xbind h
  obtain ⟨q2, hq2, h⟩ := xbind h
  refine xr_callV (pc' := 5) (C := 1) (As := [_]) (rest := _) rfl hu1 mC_140 mL_140 rfl (Nat.le_of_ble_eq_true rfl) rfl (Nat.le_of_ble_eq_true rfl) (TfB_isNumber _ _ hq2) rfl ?_
  rcases xite h with ⟨hc, h⟩ | ⟨hc, h⟩
  · refine xr_if_eq_t (t := 42) rfl hc ?_
    refine xr_iconst (v := 0) (pc' := 43) rfl (by decide) rfl ?_
    obtain ⟨rfl, rfl⟩ := xsome2 h
    exact xr_zret rfl mR_150 (by decide)
  · refine xr_if_eq_f (pc' := 8) rfl hc rfl ?_
    refine xr_iload_n (pc' := 9) rfl rfl rfl ?_
    rcases xite h with ⟨hc, h⟩ | ⟨hc, h⟩
    · refine xr_if_lt_t (t := 42) rfl hc ?_
      refine xr_iconst (v := 0) (pc' := 43) rfl (by decide) rfl ?_
      obtain ⟨rfl, rfl⟩ := xsome2 h
      exact xr_zret rfl mR_150 (by decide)
    · refine xr_if_lt_f (pc' := 12) rfl hc rfl ?_
      refine xr_iload_n (pc' := 13) rfl rfl rfl ?_
      rcases xite h with ⟨hc, h⟩ | ⟨hc, h⟩
      · refine xr_if_lt_t (t := 42) rfl hc ?_
        refine xr_iconst (v := 0) (pc' := 43) rfl (by decide) rfl ?_
        obtain ⟨rfl, rfl⟩ := xsome2 h
        exact xr_zret rfl mR_150 (by decide)
      · refine xr_if_lt_f (pc' := 16) rfl hc rfl ?_
        refine xr_iload_n (pc' := 17) rfl rfl rfl ?_
        refine xr_aload_n (pc' := 18) rfl rfl rfl ?_
        obtain ⟨v3, hv3, h⟩ := xbind h
        refine xr_getR (pc' := 21) rfl (by decide) hv3 rfl ?_
        refine xr_iload_n (pc' := 22) rfl rfl rfl ?_
        obtain ⟨v4, hv4, h⟩ := xbind h
        refine xr_aI (pc' := 23) rfl hv4 rfl ?_
        rcases xite h with ⟨hc, h⟩ | ⟨hc, h⟩
        · refine xr_icmp_gt_t (t := 42) rfl hc ?_
          refine xr_iconst (v := 0) (pc' := 43) rfl (by decide) rfl ?_
          obtain ⟨rfl, rfl⟩ := xsome2 h
          exact xr_zret rfl mR_150 (by decide)
        · refine xr_icmp_gt_f (pc' := 26) rfl hc rfl ?_
          refine xr_iload_n (pc' := 27) rfl rfl rfl ?_
          refine xr_aload_n (pc' := 28) rfl rfl rfl ?_
          obtain ⟨v5, hv5, h⟩ := xbind h
          refine xr_getR (pc' := 31) rfl (by decide) hv5 rfl ?_
          refine xr_iload_n (pc' := 32) rfl rfl rfl ?_
          obtain ⟨v6, hv6, h⟩ := xbind h
          refine xr_aI (pc' := 33) rfl hv6 rfl ?_
          refine xr_iload_n (pc' := 34) rfl rfl rfl ?_
          refine xr_isub (pc' := 35) rfl rfl ?_
          rcases xite h with ⟨hc, h⟩ | ⟨hc, h⟩
          · refine xr_icmp_gt_t (t := 42) rfl hc ?_
            refine xr_iconst (v := 0) (pc' := 43) rfl (by decide) rfl ?_
            obtain ⟨rfl, rfl⟩ := xsome2 h
            exact xr_zret rfl mR_150 (by decide)
          · refine xr_icmp_gt_f (pc' := 38) rfl hc rfl ?_
            refine xr_iconst (v := 1) (pc' := 39) rfl (by decide) rfl ?_
            refine xr_goto (t := 43) rfl ?_
            obtain ⟨rfl, rfl⟩ := xsome2 h
            exact xr_zret rfl mR_150 (by decide)
-- 151: MagazineDepot$Bins.move(IIIII)V
def fB_move (M : xMem) (this : xId) (a0 : Int32) (a1 : Int32) (a2 : Int32) (a3 : Int32) (a4 : Int32) : Option xMem :=
  (xob M (some this) 1).bind fun u1 =>
  (fB_hasSpan M u1 a0 a1 a4).bind fun q2 =>
  if q2.1 = 0 then (
    some q2.2)
  else
  (xob q2.2 (some this) 1).bind fun u3 =>
  (fB_hasSpan q2.2 u3 a2 a3 a4).bind fun q4 =>
  if q4.1 = 0 then (
    some q4.2)
  else
  (xgR q4.2 (some this) 1 0).bind fun v5 =>
  (xaR q4.2 25 v5 a0).bind fun v6 =>
  (xgR q4.2 (some this) 1 0).bind fun v7 =>
  (xaR q4.2 25 v7 a2).bind fun v8 =>
  (xcpy q4.2 a4 a3 a1 v8 v6).bind fun M9 =>
  some M9
set_option maxRecDepth 20000 in
theorem TfB_move {M M' : xMem} (this : xId) (a0 : Int32) (a1 : Int32) (a2 : Int32) (a3 : Int32) (a4 : Int32) (h : fB_move M this a0 a1 a2 a3 a4 = some M') : xrun none 2 151 0 ([some (.inr (.inr (some this))), some (.inl a0), some (.inl a1), some (.inl a2), some (.inl a3), some (.inl a4)]) ([]) M (none, M') := by
  unfold fB_move at h
  refine xr_aload_n (pc' := 1) rfl rfl rfl ?_
  refine xr_iload_n (pc' := 2) rfl rfl rfl ?_
  refine xr_iload_n (pc' := 3) rfl rfl rfl ?_
  refine xr_iload (pc' := 5) rfl rfl rfl ?_
  obtain ⟨u1, hu1, h⟩ := xbind h
  obtain ⟨q2, hq2, h⟩ := xbind h
  refine xr_callV (pc' := 8) (C := 1) (As := [_, _, _]) (rest := _) rfl hu1 mC_150 mL_150 rfl (Nat.le_of_ble_eq_true rfl) rfl (Nat.le_of_ble_eq_true rfl) (TfB_hasSpan _ _ _ _ hq2) rfl ?_
  rcases xite h with ⟨hc, h⟩ | ⟨hc, h⟩
  · refine xr_if_eq_t (t := 43) rfl hc ?_
    obtain rfl := xsome1 h
    exact xr_ret rfl mR_151
  · refine xr_if_eq_f (pc' := 11) rfl hc rfl ?_
    refine xr_aload_n (pc' := 12) rfl rfl rfl ?_
    refine xr_iload_n (pc' := 13) rfl rfl rfl ?_
    refine xr_iload (pc' := 15) rfl rfl rfl ?_
    refine xr_iload (pc' := 17) rfl rfl rfl ?_
    obtain ⟨u3, hu3, h⟩ := xbind h
    obtain ⟨q4, hq4, h⟩ := xbind h
    refine xr_callV (pc' := 20) (C := 1) (As := [_, _, _]) (rest := _) rfl hu3 mC_150 mL_150 rfl (Nat.le_of_ble_eq_true rfl) rfl (Nat.le_of_ble_eq_true rfl) (TfB_hasSpan _ _ _ _ hq4) rfl ?_
    rcases xite h with ⟨hc, h⟩ | ⟨hc, h⟩
    · refine xr_if_eq_t (t := 43) rfl hc ?_
      obtain rfl := xsome1 h
      exact xr_ret rfl mR_151
    · refine xr_if_eq_f (pc' := 23) rfl hc rfl ?_
      refine xr_aload_n (pc' := 24) rfl rfl rfl ?_
      obtain ⟨v5, hv5, h⟩ := xbind h
      refine xr_getR (pc' := 27) rfl (by decide) hv5 rfl ?_
      refine xr_iload_n (pc' := 28) rfl rfl rfl ?_
      obtain ⟨v6, hv6, h⟩ := xbind h
      refine xr_aR (pc' := 29) rfl hv6 rfl ?_
      refine xr_iload_n (pc' := 30) rfl rfl rfl ?_
      refine xr_aload_n (pc' := 31) rfl rfl rfl ?_
      obtain ⟨v7, hv7, h⟩ := xbind h
      refine xr_getR (pc' := 34) rfl (by decide) hv7 rfl ?_
      refine xr_iload_n (pc' := 35) rfl rfl rfl ?_
      obtain ⟨v8, hv8, h⟩ := xbind h
      refine xr_aR (pc' := 36) rfl hv8 rfl ?_
      refine xr_iload (pc' := 38) rfl rfl rfl ?_
      refine xr_iload (pc' := 40) rfl rfl rfl ?_
      obtain ⟨M9, hM9, h⟩ := xbind h
      refine xr_copy (pc' := 43) rfl hM9 (Nat.le_of_ble_eq_true rfl) (Nat.le_of_ble_eq_true rfl) rfl ?_
      obtain rfl := xsome1 h
      exact xr_ret rfl mR_151
-- 149: MagazineDepot.shift(IIIII)I
def fX_shift (M : xMem) (this : xId) (a0 : Int32) (a1 : Int32) (a2 : Int32) (a3 : Int32) (a4 : Int32) : Option (Int32 × xMem) :=
  (xgR M (some this) 7 14).bind fun v1 =>
  (xob M v1 1).bind fun u2 =>
  (fB_isNumber M u2 a0).bind fun q3 =>
  if q3.1 = 0 then (
    some ((-1 : Int32), q3.2))
  else
  (xgR q3.2 (some this) 7 14).bind fun v4 =>
  (xob q3.2 v4 1).bind fun u5 =>
  (fB_isNumber q3.2 u5 a2).bind fun q6 =>
  if q6.1 = 0 then (
    some ((-1 : Int32), q6.2))
  else
  (xgR q6.2 (some this) 7 14).bind fun v7 =>
  (xob q6.2 v7 1).bind fun u8 =>
  (fB_isMissing q6.2 u8 a0).bind fun q9 =>
  if q9.1 = 0 then (
    (xgR q9.2 (some this) 7 14).bind fun v10 =>
    (xob q9.2 v10 1).bind fun u11 =>
    (fB_isMissing q9.2 u11 a2).bind fun q12 =>
    if q12.1 = 0 then (
      (xgR q12.2 (some this) 7 14).bind fun v13 =>
      (xob q12.2 v13 1).bind fun u14 =>
      (fB_hasSpan q12.2 u14 a0 a1 a4).bind fun q15 =>
      if q15.1 = 0 then (
        some ((-13 : Int32), q15.2))
      else
      (xgR q15.2 (some this) 7 14).bind fun v16 =>
      (xob q15.2 v16 1).bind fun u17 =>
      (fB_hasSpan q15.2 u17 a2 a3 a4).bind fun q18 =>
      if q18.1 = 0 then (
        some ((-13 : Int32), q18.2))
      else
      (xgR q18.2 (some this) 7 14).bind fun v19 =>
      (xob q18.2 v19 1).bind fun u20 =>
      (fB_move q18.2 u20 a0 a1 a2 a3 a4).bind fun q21 =>
      some (a4, q21))
    else
    some ((-11 : Int32), q12.2))
  else
  some ((-11 : Int32), q9.2)
set_option maxRecDepth 20000 in
theorem TfX_shift {M M' : xMem} {r : Int32} (this : xId) (a0 : Int32) (a1 : Int32) (a2 : Int32) (a3 : Int32) (a4 : Int32) (h : fX_shift M this a0 a1 a2 a3 a4 = some (r, M')) : xrun none 3 149 0 ([some (.inr (.inr (some this))), some (.inl a0), some (.inl a1), some (.inl a2), some (.inl a3), some (.inl a4)]) ([]) M (some (.inl r), M') := by
  unfold fX_shift at h
  refine xr_aload_n (pc' := 1) rfl rfl rfl ?_
  obtain ⟨v1, hv1, h⟩ := xbind h
  refine xr_getR (pc' := 4) rfl (by decide) hv1 rfl ?_
  refine xr_iload_n (pc' := 5) rfl rfl rfl ?_
  obtain ⟨u2, hu2, h⟩ := xbind h
  obtain ⟨q3, hq3, h⟩ := xbind h
  refine xr_callV (pc' := 8) (C := 1) (As := [_]) (rest := _) rfl hu2 mC_140 mL_140 rfl (Nat.le_of_ble_eq_true rfl) rfl (Nat.le_of_ble_eq_true rfl) (TfB_isNumber _ _ hq3) rfl ?_
  rcases xite h with ⟨hc, h⟩ | ⟨hc, h⟩
  · refine xr_if_eq_t (t := 22) rfl hc ?_
    refine xr_iconst (v := -1) (pc' := 23) rfl (by decide) rfl ?_
    obtain ⟨rfl, rfl⟩ := xsome2 h
    exact xr_iret rfl mR_149
  · refine xr_if_eq_f (pc' := 11) rfl hc rfl ?_
    refine xr_aload_n (pc' := 12) rfl rfl rfl ?_
    obtain ⟨v4, hv4, h⟩ := xbind h
    refine xr_getR (pc' := 15) rfl (by decide) hv4 rfl ?_
    refine xr_iload_n (pc' := 16) rfl rfl rfl ?_
    obtain ⟨u5, hu5, h⟩ := xbind h
    obtain ⟨q6, hq6, h⟩ := xbind h
    refine xr_callV (pc' := 19) (C := 1) (As := [_]) (rest := _) rfl hu5 mC_140 mL_140 rfl (Nat.le_of_ble_eq_true rfl) rfl (Nat.le_of_ble_eq_true rfl) (TfB_isNumber _ _ hq6) rfl ?_
    rcases xite h with ⟨hc, h⟩ | ⟨hc, h⟩
    · refine xr_if_ne_f (pc' := 22) rfl hc rfl ?_
      refine xr_iconst (v := -1) (pc' := 23) rfl (by decide) rfl ?_
      obtain ⟨rfl, rfl⟩ := xsome2 h
      exact xr_iret rfl mR_149
    · refine xr_if_ne_t (t := 24) rfl hc ?_
      refine xr_aload_n (pc' := 25) rfl rfl rfl ?_
      obtain ⟨v7, hv7, h⟩ := xbind h
      refine xr_getR (pc' := 28) rfl (by decide) hv7 rfl ?_
      refine xr_iload_n (pc' := 29) rfl rfl rfl ?_
      obtain ⟨u8, hu8, h⟩ := xbind h
      obtain ⟨q9, hq9, h⟩ := xbind h
      refine xr_callV (pc' := 32) (C := 1) (As := [_]) (rest := _) rfl hu8 mC_143 mL_143 rfl (Nat.le_of_ble_eq_true rfl) rfl (Nat.le_of_ble_eq_true rfl) (TfB_isMissing _ _ hq9) rfl ?_
      rcases xite h with ⟨hc, h⟩ | ⟨hc, h⟩
      · refine xr_if_ne_f (pc' := 35) rfl hc rfl ?_
        refine xr_aload_n (pc' := 36) rfl rfl rfl ?_
        obtain ⟨v10, hv10, h⟩ := xbind h
        refine xr_getR (pc' := 39) rfl (by decide) hv10 rfl ?_
        refine xr_iload_n (pc' := 40) rfl rfl rfl ?_
        obtain ⟨u11, hu11, h⟩ := xbind h
        obtain ⟨q12, hq12, h⟩ := xbind h
        refine xr_callV (pc' := 43) (C := 1) (As := [_]) (rest := _) rfl hu11 mC_143 mL_143 rfl (Nat.le_of_ble_eq_true rfl) rfl (Nat.le_of_ble_eq_true rfl) (TfB_isMissing _ _ hq12) rfl ?_
        rcases xite h with ⟨hc, h⟩ | ⟨hc, h⟩
        · refine xr_if_eq_t (t := 49) rfl hc ?_
          refine xr_aload_n (pc' := 50) rfl rfl rfl ?_
          obtain ⟨v13, hv13, h⟩ := xbind h
          refine xr_getR (pc' := 53) rfl (by decide) hv13 rfl ?_
          refine xr_iload_n (pc' := 54) rfl rfl rfl ?_
          refine xr_iload_n (pc' := 55) rfl rfl rfl ?_
          refine xr_iload (pc' := 57) rfl rfl rfl ?_
          obtain ⟨u14, hu14, h⟩ := xbind h
          obtain ⟨q15, hq15, h⟩ := xbind h
          refine xr_callV (pc' := 60) (C := 1) (As := [_, _, _]) (rest := _) rfl hu14 mC_150 mL_150 rfl (Nat.le_of_ble_eq_true rfl) rfl (Nat.le_of_ble_eq_true rfl) (TfB_hasSpan _ _ _ _ hq15) rfl ?_
          rcases xite h with ⟨hc, h⟩ | ⟨hc, h⟩
          · refine xr_if_eq_t (t := 78) rfl hc ?_
            refine xr_bipush (v := -13) (pc' := 80) rfl (by decide) rfl ?_
            obtain ⟨rfl, rfl⟩ := xsome2 h
            exact xr_iret rfl mR_149
          · refine xr_if_eq_f (pc' := 63) rfl hc rfl ?_
            refine xr_aload_n (pc' := 64) rfl rfl rfl ?_
            obtain ⟨v16, hv16, h⟩ := xbind h
            refine xr_getR (pc' := 67) rfl (by decide) hv16 rfl ?_
            refine xr_iload_n (pc' := 68) rfl rfl rfl ?_
            refine xr_iload (pc' := 70) rfl rfl rfl ?_
            refine xr_iload (pc' := 72) rfl rfl rfl ?_
            obtain ⟨u17, hu17, h⟩ := xbind h
            obtain ⟨q18, hq18, h⟩ := xbind h
            refine xr_callV (pc' := 75) (C := 1) (As := [_, _, _]) (rest := _) rfl hu17 mC_150 mL_150 rfl (Nat.le_of_ble_eq_true rfl) rfl (Nat.le_of_ble_eq_true rfl) (TfB_hasSpan _ _ _ _ hq18) rfl ?_
            rcases xite h with ⟨hc, h⟩ | ⟨hc, h⟩
            · refine xr_if_ne_f (pc' := 78) rfl hc rfl ?_
              refine xr_bipush (v := -13) (pc' := 80) rfl (by decide) rfl ?_
              obtain ⟨rfl, rfl⟩ := xsome2 h
              exact xr_iret rfl mR_149
            · refine xr_if_ne_t (t := 81) rfl hc ?_
              refine xr_aload_n (pc' := 82) rfl rfl rfl ?_
              obtain ⟨v19, hv19, h⟩ := xbind h
              refine xr_getR (pc' := 85) rfl (by decide) hv19 rfl ?_
              refine xr_iload_n (pc' := 86) rfl rfl rfl ?_
              refine xr_iload_n (pc' := 87) rfl rfl rfl ?_
              refine xr_iload_n (pc' := 88) rfl rfl rfl ?_
              refine xr_iload (pc' := 90) rfl rfl rfl ?_
              refine xr_iload (pc' := 92) rfl rfl rfl ?_
              obtain ⟨u20, hu20, h⟩ := xbind h
              obtain ⟨q21, hq21, h⟩ := xbind h
              refine xr_callV (pc' := 95) (C := 1) (As := [_, _, _, _, _]) (rest := _) rfl hu20 mC_151 mL_151 rfl (Nat.le_of_ble_eq_true rfl) rfl (Nat.le_of_ble_eq_true rfl) (TfB_move _ _ _ _ _ _ hq21) rfl ?_
              refine xr_iload (pc' := 97) rfl rfl rfl ?_
              obtain ⟨rfl, rfl⟩ := xsome2 h
              exact xr_iret rfl mR_149
        · refine xr_if_eq_f (pc' := 46) rfl hc rfl ?_
          refine xr_bipush (v := -11) (pc' := 48) rfl (by decide) rfl ?_
          obtain ⟨rfl, rfl⟩ := xsome2 h
          exact xr_iret rfl mR_149
      · refine xr_if_ne_t (t := 46) rfl hc ?_
        refine xr_bipush (v := -11) (pc' := 48) rfl (by decide) rfl ?_
        obtain ⟨rfl, rfl⟩ := xsome2 h
        exact xr_iret rfl mR_149
-- 153: MagazineDepot.namedCount()I
def fX_namedCount_37 (k13 : xMem → Int32 → Option xId → Int32 → Int32 → Option (Int32 × xMem)) (M : xMem) (l2 : Option xId) (l3 : Int32) (l4 : Int32) (s0 : Int32) (s1 : Int32) : Option (Int32 × xMem) :=
  k13 M (s0 + s1) l2 l3 (l4 + 1)
set_option maxRecDepth 20000 in
theorem TfX_namedCount_37 {M' : xMem} {r : Int32} (k13 : xMem → Int32 → Option xId → Int32 → Int32 → Option (Int32 × xMem)) (hk13 : ∀ (M : xMem) (l1 : Int32) (l2 : Option xId) (l3 : Int32) (l4 : Int32) (o0 : Option xId) (o5 : Option xVal), k13 M l1 l2 l3 l4 = some (r, M') → xrun none 0 153 13 ([some (.inr (.inr o0)), some (.inl l1), some (.inr (.inr l2)), some (.inl l3), some (.inl l4), o5]) ([]) M (some (.inl r), M')) (M : xMem) (l2 : Option xId) (l3 : Int32) (l4 : Int32) (s0 : Int32) (s1 : Int32) (o0 : Option xId) (o1 : Int32) (o5 : Int32) (h : fX_namedCount_37 k13 M l2 l3 l4 s0 s1 = some (r, M')) : xrun none 0 153 37 ([some (.inr (.inr o0)), some (.inl o1), some (.inr (.inr l2)), some (.inl l3), some (.inl l4), some (.inl o5)]) ([.inl s1, .inl s0]) M (some (.inl r), M') := by
  unfold fX_namedCount_37 at h
  refine xr_iadd (pc' := 38) rfl rfl ?_
  refine xr_istore_n (pc' := 39) rfl rfl rfl ?_
  refine xr_iinc (c := 1) (pc' := 42) rfl (by decide) rfl rfl rfl ?_
  refine xr_goto (t := 13) rfl ?_
  exact hk13 M _ _ _ _ _ _ h
def fX_namedCount_13  : Nat → xMem → Int32 → Option xId → Int32 → Int32 → Option (Int32 × xMem)
  | 0, _, _, _, _, _ => none
  | n + 1, M, l1, l2, l3, l4 =>
    if l3 ≤ l4 then (
      some (l1, M))
    else
    (xaI M l2 l4).bind fun v3 =>
    if v3 = (-1 : Int32) then (
      fX_namedCount_37 (fun M l1 l2 l3 l4 => fX_namedCount_13  n M l1 l2 l3 l4) M l2 l3 l4 l1 (0 : Int32))
    else
    fX_namedCount_37 (fun M l1 l2 l3 l4 => fX_namedCount_13  n M l1 l2 l3 l4) M l2 l3 l4 l1 (1 : Int32)
set_option maxRecDepth 20000 in
theorem TfX_namedCount_13 {M' : xMem} {r : Int32}  : ∀ (n : Nat) (M : xMem) (l1 : Int32) (l2 : Option xId) (l3 : Int32) (l4 : Int32) (o0 : Option xId) (o5 : Option xVal), fX_namedCount_13  n M l1 l2 l3 l4 = some (r, M') → xrun none 0 153 13 ([some (.inr (.inr o0)), some (.inl l1), some (.inr (.inr l2)), some (.inl l3), some (.inl l4), o5]) ([]) M (some (.inl r), M') := by
  intro n
  induction n with
  | zero => intro M l1 l2 l3 l4 o0 o5 h; unfold fX_namedCount_13 at h; cases h
  | succ n ih =>
    intro M l1 l2 l3 l4 o0 o5 h
    unfold fX_namedCount_13 at h
    refine xr_iload (pc' := 15) rfl rfl rfl ?_
    refine xr_iload_n (pc' := 16) rfl rfl rfl ?_
    rcases xite h with ⟨hc, h⟩ | ⟨hc, h⟩
    · refine xr_icmp_ge_t (t := 45) rfl hc ?_
      refine xr_iload_n (pc' := 46) rfl rfl rfl ?_
      obtain ⟨rfl, rfl⟩ := xsome2 h
      exact xr_iret rfl mR_153
    · refine xr_icmp_ge_f (pc' := 19) rfl hc rfl ?_
      refine xr_aload_n (pc' := 20) rfl rfl rfl ?_
      refine xr_iload (pc' := 22) rfl rfl rfl ?_
      obtain ⟨v3, hv3, h⟩ := xbind h
      refine xr_aI (pc' := 23) rfl hv3 rfl ?_
      refine xr_istore (pc' := 25) rfl rfl rfl ?_
      refine xr_iload_n (pc' := 26) rfl rfl rfl ?_
      refine xr_iload (pc' := 28) rfl rfl rfl ?_
      refine xr_iconst (v := -1) (pc' := 29) rfl (by decide) rfl ?_
      rcases xite h with ⟨hc, h⟩ | ⟨hc, h⟩
      · refine xr_icmp_ne_f (pc' := 32) rfl hc rfl ?_
        refine xr_iconst (v := 0) (pc' := 33) rfl (by decide) rfl ?_
        refine xr_goto (t := 37) rfl ?_
        exact TfX_namedCount_37 _ (fun M l1 l2 l3 l4 o0 o5 h => ih M l1 l2 l3 l4 o0 o5 h) M _ _ _ _ _ _ _ _ h
      · refine xr_icmp_ne_t (t := 36) rfl hc ?_
        refine xr_iconst (v := 1) (pc' := 37) rfl (by decide) rfl ?_
        exact TfX_namedCount_37 _ (fun M l1 l2 l3 l4 o0 o5 h => ih M l1 l2 l3 l4 o0 o5 h) M _ _ _ _ _ _ _ _ h
def fX_namedCount (M : xMem) (this : xId) : Option (Int32 × xMem) :=
  (xgR M (some this) 7 11).bind fun v1 =>
  (xal M v1).bind fun v2 =>
  fX_namedCount_13  xF M (0 : Int32) v1 v2 (0 : Int32)
set_option maxRecDepth 20000 in
theorem TfX_namedCount {M M' : xMem} {r : Int32} (this : xId) (h : fX_namedCount M this = some (r, M')) : xrun none 0 153 0 ([some (.inr (.inr (some this))), none, none, none, none, none]) ([]) M (some (.inl r), M') := by
  unfold fX_namedCount at h
  refine xr_iconst (v := 0) (pc' := 1) rfl (by decide) rfl ?_
  refine xr_istore_n (pc' := 2) rfl rfl rfl ?_
  refine xr_aload_n (pc' := 3) rfl rfl rfl ?_
  obtain ⟨v1, hv1, h⟩ := xbind h
  refine xr_getR (pc' := 6) rfl (by decide) hv1 rfl ?_
  refine xr_astore_n (pc' := 7) rfl rfl rfl ?_
  refine xr_aload_n (pc' := 8) rfl rfl rfl ?_
  obtain ⟨v2, hv2, h⟩ := xbind h
  refine xr_alen (pc' := 9) rfl hv2 rfl ?_
  refine xr_istore_n (pc' := 10) rfl rfl rfl ?_
  refine xr_iconst (v := 0) (pc' := 11) rfl (by decide) rfl ?_
  refine xr_istore (pc' := 13) rfl rfl rfl ?_
  exact TfX_namedCount_13   xF M _ _ _ _ _ _ h
-- 152: MagazineDepot.count(I)I
def fX_count (M : xMem) (this : xId) (a0 : Int32) : Option (Int32 × xMem) :=
  if a0 = 0 then (
    (xgR M (some this) 7 0).bind fun v1 =>
    (xgI M v1 3 4).bind fun v2 =>
    some (v2, M))
  else
  if a0 = 1 then (
    (xgR M (some this) 7 0).bind fun v3 =>
    (xgI M v3 3 5).bind fun v4 =>
    some (v4, M))
  else
  if a0 = 2 then (
    (xgR M (some this) 7 0).bind fun v5 =>
    (xgR M v5 3 0).bind fun v6 =>
    (xob M v6 0).bind fun u7 =>
    (fA_slabsOf M u7 (-1 : Int32)).bind fun q8 =>
    some (q8.1, q8.2))
  else
  if a0 = 3 then (
    (xgI M (some this) 7 6).bind fun v9 =>
    some (v9, M))
  else
  if a0 = 4 then (
    (xgR M (some this) 7 0).bind fun v10 =>
    (xgI M v10 3 6).bind fun v11 =>
    some (v11, M))
  else
  if a0 = 5 then (
    (xob M (some this) 7).bind fun u12 =>
    (fX_namedCount M u12 ).bind fun q13 =>
    some (q13.1, q13.2))
  else
  if a0 = 6 then (
    (xgR M (some this) 7 0).bind fun v14 =>
    (xgR M v14 3 0).bind fun v15 =>
    (xob M v15 0).bind fun u16 =>
    (fA_howMany M u16 (-1 : Int32) (1 : Int32)).bind fun q17 =>
    some (q17.1, q17.2))
  else
  if a0 = 7 then (
    (xgR M (some this) 7 0).bind fun v18 =>
    (xgR M v18 3 0).bind fun v19 =>
    (xob M v19 0).bind fun u20 =>
    (fA_howMany M u20 (-1 : Int32) (2 : Int32)).bind fun q21 =>
    some (q21.1, q21.2))
  else
  some ((-1 : Int32), M)
set_option maxRecDepth 20000 in
theorem TfX_count {M M' : xMem} {r : Int32} (this : xId) (a0 : Int32) (h : fX_count M this a0 = some (r, M')) : xrun none 3 152 0 ([some (.inr (.inr (some this))), some (.inl a0)]) ([]) M (some (.inl r), M') := by
  unfold fX_count at h
  refine xr_iload_n (pc' := 1) rfl rfl rfl ?_
  rcases xite h with ⟨hc1_0, h⟩ | ⟨hc1_0, h⟩
  · refine xr_tsw_in (t := 48) rfl (by rw [hc1_0]; decide) (by rw [hc1_0]; rfl) (by decide) ?_
    refine xr_aload_n (pc' := 49) rfl rfl rfl ?_
    obtain ⟨v1, hv1, h⟩ := xbind h
    refine xr_getR (pc' := 52) rfl (by decide) hv1 rfl ?_
    obtain ⟨v2, hv2, h⟩ := xbind h
    refine xr_getI (pc' := 55) rfl (by decide) hv2 rfl ?_
    obtain ⟨rfl, rfl⟩ := xsome2 h
    exact xr_iret rfl mR_152
  rcases xite h with ⟨hc1_1, h⟩ | ⟨hc1_1, h⟩
  · refine xr_tsw_in (t := 56) rfl (by rw [hc1_1]; decide) (by rw [hc1_1]; rfl) (by decide) ?_
    refine xr_aload_n (pc' := 57) rfl rfl rfl ?_
    obtain ⟨v3, hv3, h⟩ := xbind h
    refine xr_getR (pc' := 60) rfl (by decide) hv3 rfl ?_
    obtain ⟨v4, hv4, h⟩ := xbind h
    refine xr_getI (pc' := 63) rfl (by decide) hv4 rfl ?_
    obtain ⟨rfl, rfl⟩ := xsome2 h
    exact xr_iret rfl mR_152
  rcases xite h with ⟨hc1_2, h⟩ | ⟨hc1_2, h⟩
  · refine xr_tsw_in (t := 64) rfl (by rw [hc1_2]; decide) (by rw [hc1_2]; rfl) (by decide) ?_
    refine xr_aload_n (pc' := 65) rfl rfl rfl ?_
    obtain ⟨v5, hv5, h⟩ := xbind h
    refine xr_getR (pc' := 68) rfl (by decide) hv5 rfl ?_
    obtain ⟨v6, hv6, h⟩ := xbind h
    refine xr_getR (pc' := 71) rfl (by decide) hv6 rfl ?_
    refine xr_iconst (v := -1) (pc' := 72) rfl (by decide) rfl ?_
    obtain ⟨u7, hu7, h⟩ := xbind h
    obtain ⟨q8, hq8, h⟩ := xbind h
    refine xr_callV (pc' := 75) (C := 0) (As := [_]) (rest := _) rfl hu7 mC_88 mL_88 rfl (Nat.le_of_ble_eq_true rfl) rfl (Nat.le_of_ble_eq_true rfl) (TfA_slabsOf _ _ hq8) rfl ?_
    obtain ⟨rfl, rfl⟩ := xsome2 h
    exact xr_iret rfl mR_152
  rcases xite h with ⟨hc1_3, h⟩ | ⟨hc1_3, h⟩
  · refine xr_tsw_in (t := 76) rfl (by rw [hc1_3]; decide) (by rw [hc1_3]; rfl) (by decide) ?_
    refine xr_aload_n (pc' := 77) rfl rfl rfl ?_
    obtain ⟨v9, hv9, h⟩ := xbind h
    refine xr_getI (pc' := 80) rfl (by decide) hv9 rfl ?_
    obtain ⟨rfl, rfl⟩ := xsome2 h
    exact xr_iret rfl mR_152
  rcases xite h with ⟨hc1_4, h⟩ | ⟨hc1_4, h⟩
  · refine xr_tsw_in (t := 81) rfl (by rw [hc1_4]; decide) (by rw [hc1_4]; rfl) (by decide) ?_
    refine xr_aload_n (pc' := 82) rfl rfl rfl ?_
    obtain ⟨v10, hv10, h⟩ := xbind h
    refine xr_getR (pc' := 85) rfl (by decide) hv10 rfl ?_
    obtain ⟨v11, hv11, h⟩ := xbind h
    refine xr_getI (pc' := 88) rfl (by decide) hv11 rfl ?_
    obtain ⟨rfl, rfl⟩ := xsome2 h
    exact xr_iret rfl mR_152
  rcases xite h with ⟨hc1_5, h⟩ | ⟨hc1_5, h⟩
  · refine xr_tsw_in (t := 89) rfl (by rw [hc1_5]; decide) (by rw [hc1_5]; rfl) (by decide) ?_
    refine xr_aload_n (pc' := 90) rfl rfl rfl ?_
    obtain ⟨u12, hu12, h⟩ := xbind h
    obtain ⟨q13, hq13, h⟩ := xbind h
    refine xr_callV (pc' := 93) (C := 7) (As := []) (rest := _) rfl hu12 mC_153 mL_153 rfl (Nat.le_of_ble_eq_true rfl) rfl (Nat.le_of_ble_eq_true rfl) (TfX_namedCount _  hq13) rfl ?_
    obtain ⟨rfl, rfl⟩ := xsome2 h
    exact xr_iret rfl mR_152
  rcases xite h with ⟨hc1_6, h⟩ | ⟨hc1_6, h⟩
  · refine xr_tsw_in (t := 94) rfl (by rw [hc1_6]; decide) (by rw [hc1_6]; rfl) (by decide) ?_
    refine xr_aload_n (pc' := 95) rfl rfl rfl ?_
    obtain ⟨v14, hv14, h⟩ := xbind h
    refine xr_getR (pc' := 98) rfl (by decide) hv14 rfl ?_
    obtain ⟨v15, hv15, h⟩ := xbind h
    refine xr_getR (pc' := 101) rfl (by decide) hv15 rfl ?_
    refine xr_iconst (v := -1) (pc' := 102) rfl (by decide) rfl ?_
    refine xr_iconst (v := 1) (pc' := 103) rfl (by decide) rfl ?_
    obtain ⟨u16, hu16, h⟩ := xbind h
    obtain ⟨q17, hq17, h⟩ := xbind h
    refine xr_callV (pc' := 106) (C := 0) (As := [_, _]) (rest := _) rfl hu16 mC_58 mL_58 rfl (Nat.le_of_ble_eq_true rfl) rfl (Nat.le_of_ble_eq_true rfl) (TfA_howMany _ _ _ hq17) rfl ?_
    obtain ⟨rfl, rfl⟩ := xsome2 h
    exact xr_iret rfl mR_152
  rcases xite h with ⟨hc1_7, h⟩ | ⟨hc1_7, h⟩
  · refine xr_tsw_in (t := 107) rfl (by rw [hc1_7]; decide) (by rw [hc1_7]; rfl) (by decide) ?_
    refine xr_aload_n (pc' := 108) rfl rfl rfl ?_
    obtain ⟨v18, hv18, h⟩ := xbind h
    refine xr_getR (pc' := 111) rfl (by decide) hv18 rfl ?_
    obtain ⟨v19, hv19, h⟩ := xbind h
    refine xr_getR (pc' := 114) rfl (by decide) hv19 rfl ?_
    refine xr_iconst (v := -1) (pc' := 115) rfl (by decide) rfl ?_
    refine xr_iconst (v := 2) (pc' := 116) rfl (by decide) rfl ?_
    obtain ⟨u20, hu20, h⟩ := xbind h
    obtain ⟨q21, hq21, h⟩ := xbind h
    refine xr_callV (pc' := 119) (C := 0) (As := [_, _]) (rest := _) rfl hu20 mC_58 mL_58 rfl (Nat.le_of_ble_eq_true rfl) rfl (Nat.le_of_ble_eq_true rfl) (TfA_howMany _ _ _ hq21) rfl ?_
    obtain ⟨rfl, rfl⟩ := xsome2 h
    exact xr_iret rfl mR_152
  have hc1_0 := lv_neT hc1_0 (by decide : (0 : Int32).toInt = 0)
  have hc1_1 := lv_neT hc1_1 (by decide : (1 : Int32).toInt = 1)
  have hc1_2 := lv_neT hc1_2 (by decide : (2 : Int32).toInt = 2)
  have hc1_3 := lv_neT hc1_3 (by decide : (3 : Int32).toInt = 3)
  have hc1_4 := lv_neT hc1_4 (by decide : (4 : Int32).toInt = 4)
  have hc1_5 := lv_neT hc1_5 (by decide : (5 : Int32).toInt = 5)
  have hc1_6 := lv_neT hc1_6 (by decide : (6 : Int32).toInt = 6)
  have hc1_7 := lv_neT hc1_7 (by decide : (7 : Int32).toInt = 7)
  refine xr_tsw_out (t := 120) rfl (by omega) (by decide) ?_
  refine xr_iconst (v := -1) (pc' := 121) rfl (by decide) rfl ?_
  obtain ⟨rfl, rfl⟩ := xsome2 h
  exact xr_iret rfl mR_152
-- 158: MagazineDepotModel.passes([I)V
def fM_passes_42 (k2 : xMem → Option xId → Option xId → Int32 → Option xMem) (M : xMem) (l0 : Option xId) (l1 : Option xId) (l2 : Int32)  : Option xMem :=
  (xgI M l0 8 34).bind fun v11 =>
  (xpI M l0 8 34 (v11 + (1 : Int32))).bind fun M12 =>
  k2 M12 l0 l1 (l2 + 1)
set_option maxRecDepth 20000 in
theorem TfM_passes_42 {M' : xMem} (k2 : xMem → Option xId → Option xId → Int32 → Option xMem) (hk2 : ∀ (M : xMem) (l0 : Option xId) (l1 : Option xId) (l2 : Int32) , k2 M l0 l1 l2 = some M' → xrun none 0 158 2 ([some (.inr (.inr l0)), some (.inr (.inr l1)), some (.inl l2)]) ([]) M (none, M')) (M : xMem) (l0 : Option xId) (l1 : Option xId) (l2 : Int32)   (h : fM_passes_42 k2 M l0 l1 l2  = some M') : xrun none 0 158 42 ([some (.inr (.inr l0)), some (.inr (.inr l1)), some (.inl l2)]) ([]) M (none, M') := by
  unfold fM_passes_42 at h
  refine xr_aload_n (pc' := 43) rfl rfl rfl ?_
  refine xr_dup_a (pc' := 44) rfl rfl ?_
  obtain ⟨v11, hv11, h⟩ := xbind h
  refine xr_getI (pc' := 47) rfl (by decide) hv11 rfl ?_
  refine xr_iconst (v := 1) (pc' := 48) rfl (by decide) rfl ?_
  refine xr_iadd (pc' := 49) rfl rfl ?_
  obtain ⟨M12, hM12, h⟩ := xbind h
  refine xr_putI (pc' := 52) rfl (by decide) hM12 rfl ?_
  refine xr_iinc (c := 1) (pc' := 55) rfl (by decide) rfl rfl rfl ?_
  refine xr_goto (t := 2) rfl ?_
  exact hk2 M12 _ _ _  h
def fM_passes_2  : Nat → xMem → Option xId → Option xId → Int32 → Option xMem
  | 0, _, _, _, _ => none
  | n + 1, M, l0, l1, l2 =>
    (xal M l1).bind fun v1 =>
    if v1 ≤ l2 then (
      some M)
    else
    (xgI M l0 8 33).bind fun v2 =>
    if v2 = 0 then (
      (xgR M l0 8 30).bind fun v3 =>
      (xgI M l0 8 34).bind fun v4 =>
      (xaI M v3 v4).bind fun v5 =>
      (xuI M l1 l2 v5).bind fun M6 =>
      fM_passes_42 (fun M l0 l1 l2 => fM_passes_2  n M l0 l1 l2) M6 l0 l1 l2 )
    else
    (xgR M l0 8 30).bind fun v7 =>
    (xgI M l0 8 34).bind fun v8 =>
    (xaI M l1 l2).bind fun v9 =>
    (xuI M v7 v8 v9).bind fun M10 =>
    fM_passes_42 (fun M l0 l1 l2 => fM_passes_2  n M l0 l1 l2) M10 l0 l1 l2 
set_option maxRecDepth 20000 in
theorem TfM_passes_2 {M' : xMem}  : ∀ (n : Nat) (M : xMem) (l0 : Option xId) (l1 : Option xId) (l2 : Int32) , fM_passes_2  n M l0 l1 l2 = some M' → xrun none 0 158 2 ([some (.inr (.inr l0)), some (.inr (.inr l1)), some (.inl l2)]) ([]) M (none, M') := by
  intro n
  induction n with
  | zero => intro M l0 l1 l2  h; unfold fM_passes_2 at h; cases h
  | succ n ih =>
    intro M l0 l1 l2  h
    unfold fM_passes_2 at h
    refine xr_iload_n (pc' := 3) rfl rfl rfl ?_
    refine xr_aload_n (pc' := 4) rfl rfl rfl ?_
    obtain ⟨v1, hv1, h⟩ := xbind h
    refine xr_alen (pc' := 5) rfl hv1 rfl ?_
    rcases xite h with ⟨hc, h⟩ | ⟨hc, h⟩
    · refine xr_icmp_ge_t (t := 58) rfl hc ?_
      obtain rfl := xsome1 h
      exact xr_ret rfl mR_158
    · refine xr_icmp_ge_f (pc' := 8) rfl hc rfl ?_
      refine xr_aload_n (pc' := 9) rfl rfl rfl ?_
      obtain ⟨v2, hv2, h⟩ := xbind h
      refine xr_getI (pc' := 12) rfl (by decide) hv2 rfl ?_
      rcases xite h with ⟨hc, h⟩ | ⟨hc, h⟩
      · refine xr_if_eq_t (t := 30) rfl hc ?_
        refine xr_aload_n (pc' := 31) rfl rfl rfl ?_
        refine xr_iload_n (pc' := 32) rfl rfl rfl ?_
        refine xr_aload_n (pc' := 33) rfl rfl rfl ?_
        obtain ⟨v3, hv3, h⟩ := xbind h
        refine xr_getR (pc' := 36) rfl (by decide) hv3 rfl ?_
        refine xr_aload_n (pc' := 37) rfl rfl rfl ?_
        obtain ⟨v4, hv4, h⟩ := xbind h
        refine xr_getI (pc' := 40) rfl (by decide) hv4 rfl ?_
        obtain ⟨v5, hv5, h⟩ := xbind h
        refine xr_aI (pc' := 41) rfl hv5 rfl ?_
        obtain ⟨M6, hM6, h⟩ := xbind h
        refine xr_uI (pc' := 42) rfl hM6 rfl ?_
        exact TfM_passes_42 _ (fun M l0 l1 l2  h => ih M l0 l1 l2  h) M6 _ _ _   h
      · refine xr_if_eq_f (pc' := 15) rfl hc rfl ?_
        refine xr_aload_n (pc' := 16) rfl rfl rfl ?_
        obtain ⟨v7, hv7, h⟩ := xbind h
        refine xr_getR (pc' := 19) rfl (by decide) hv7 rfl ?_
        refine xr_aload_n (pc' := 20) rfl rfl rfl ?_
        obtain ⟨v8, hv8, h⟩ := xbind h
        refine xr_getI (pc' := 23) rfl (by decide) hv8 rfl ?_
        refine xr_aload_n (pc' := 24) rfl rfl rfl ?_
        refine xr_iload_n (pc' := 25) rfl rfl rfl ?_
        obtain ⟨v9, hv9, h⟩ := xbind h
        refine xr_aI (pc' := 26) rfl hv9 rfl ?_
        obtain ⟨M10, hM10, h⟩ := xbind h
        refine xr_uI (pc' := 27) rfl hM10 rfl ?_
        refine xr_goto (t := 42) rfl ?_
        exact TfM_passes_42 _ (fun M l0 l1 l2  h => ih M l0 l1 l2  h) M10 _ _ _   h
def fM_passes (M : xMem) (this : xId) (a0 : Option xId) : Option xMem :=
  fM_passes_2  xF M (some this) a0 (0 : Int32)
set_option maxRecDepth 20000 in
theorem TfM_passes {M M' : xMem} (this : xId) (a0 : Option xId) (h : fM_passes M this a0 = some M') : xrun none 0 158 0 ([some (.inr (.inr (some this))), some (.inr (.inr a0)), none]) ([]) M (none, M') := by
  unfold fM_passes at h
  refine xr_iconst (v := 0) (pc' := 1) rfl (by decide) rfl ?_
  refine xr_istore_n (pc' := 2) rfl rfl rfl ?_
  exact TfM_passes_2   xF M _ _ _  h
-- 157: MagazineDepotModel.passesCaches()V
def fM_passesCaches (M : xMem) (this : xId) : Option xMem :=
  (xgR M (some this) 8 0).bind fun v1 =>
  (xob M (some this) 8).bind fun u2 =>
  (fM_passes M u2 v1).bind fun q3 =>
  (xgR q3 (some this) 8 1).bind fun v4 =>
  (xob q3 (some this) 8).bind fun u5 =>
  (fM_passes q3 u5 v4).bind fun q6 =>
  (xgR q6 (some this) 8 2).bind fun v7 =>
  (xob q6 (some this) 8).bind fun u8 =>
  (fM_passes q6 u8 v7).bind fun q9 =>
  (xgR q9 (some this) 8 3).bind fun v10 =>
  (xob q9 (some this) 8).bind fun u11 =>
  (fM_passes q9 u11 v10).bind fun q12 =>
  (xgR q12 (some this) 8 4).bind fun v13 =>
  (xob q12 (some this) 8).bind fun u14 =>
  (fM_passes q12 u14 v13).bind fun q15 =>
  (xgR q15 (some this) 8 5).bind fun v16 =>
  (xob q15 (some this) 8).bind fun u17 =>
  (fM_passes q15 u17 v16).bind fun q18 =>
  (xgR q18 (some this) 8 6).bind fun v19 =>
  (xob q18 (some this) 8).bind fun u20 =>
  (fM_passes q18 u20 v19).bind fun q21 =>
  (xgR q21 (some this) 8 7).bind fun v22 =>
  (xob q21 (some this) 8).bind fun u23 =>
  (fM_passes q21 u23 v22).bind fun q24 =>
  (xgR q24 (some this) 8 8).bind fun v25 =>
  (xob q24 (some this) 8).bind fun u26 =>
  (fM_passes q24 u26 v25).bind fun q27 =>
  (xgR q27 (some this) 8 9).bind fun v28 =>
  (xob q27 (some this) 8).bind fun u29 =>
  (fM_passes q27 u29 v28).bind fun q30 =>
  (xgR q30 (some this) 8 10).bind fun v31 =>
  (xob q30 (some this) 8).bind fun u32 =>
  (fM_passes q30 u32 v31).bind fun q33 =>
  (xgR q33 (some this) 8 11).bind fun v34 =>
  (xob q33 (some this) 8).bind fun u35 =>
  (fM_passes q33 u35 v34).bind fun q36 =>
  some q36
set_option maxRecDepth 20000 in
theorem TfM_passesCaches {M M' : xMem} (this : xId) (h : fM_passesCaches M this = some M') : xrun none 1 157 0 ([some (.inr (.inr (some this)))]) ([]) M (none, M') := by
  unfold fM_passesCaches at h
  refine xr_aload_n (pc' := 1) rfl rfl rfl ?_
  refine xr_aload_n (pc' := 2) rfl rfl rfl ?_
  obtain ⟨v1, hv1, h⟩ := xbind h
  refine xr_getR (pc' := 5) rfl (by decide) hv1 rfl ?_
  obtain ⟨u2, hu2, h⟩ := xbind h
  obtain ⟨q3, hq3, h⟩ := xbind h
  refine xr_callV (pc' := 8) (C := 8) (As := [_]) (rest := _) rfl hu2 mC_158 mL_158 rfl (Nat.le_of_ble_eq_true rfl) rfl (Nat.le_of_ble_eq_true rfl) (TfM_passes _ _ hq3) rfl ?_
  refine xr_aload_n (pc' := 9) rfl rfl rfl ?_
  refine xr_aload_n (pc' := 10) rfl rfl rfl ?_
  obtain ⟨v4, hv4, h⟩ := xbind h
  refine xr_getR (pc' := 13) rfl (by decide) hv4 rfl ?_
  obtain ⟨u5, hu5, h⟩ := xbind h
  obtain ⟨q6, hq6, h⟩ := xbind h
  refine xr_callV (pc' := 16) (C := 8) (As := [_]) (rest := _) rfl hu5 mC_158 mL_158 rfl (Nat.le_of_ble_eq_true rfl) rfl (Nat.le_of_ble_eq_true rfl) (TfM_passes _ _ hq6) rfl ?_
  refine xr_aload_n (pc' := 17) rfl rfl rfl ?_
  refine xr_aload_n (pc' := 18) rfl rfl rfl ?_
  obtain ⟨v7, hv7, h⟩ := xbind h
  refine xr_getR (pc' := 21) rfl (by decide) hv7 rfl ?_
  obtain ⟨u8, hu8, h⟩ := xbind h
  obtain ⟨q9, hq9, h⟩ := xbind h
  refine xr_callV (pc' := 24) (C := 8) (As := [_]) (rest := _) rfl hu8 mC_158 mL_158 rfl (Nat.le_of_ble_eq_true rfl) rfl (Nat.le_of_ble_eq_true rfl) (TfM_passes _ _ hq9) rfl ?_
  refine xr_aload_n (pc' := 25) rfl rfl rfl ?_
  refine xr_aload_n (pc' := 26) rfl rfl rfl ?_
  obtain ⟨v10, hv10, h⟩ := xbind h
  refine xr_getR (pc' := 29) rfl (by decide) hv10 rfl ?_
  obtain ⟨u11, hu11, h⟩ := xbind h
  obtain ⟨q12, hq12, h⟩ := xbind h
  refine xr_callV (pc' := 32) (C := 8) (As := [_]) (rest := _) rfl hu11 mC_158 mL_158 rfl (Nat.le_of_ble_eq_true rfl) rfl (Nat.le_of_ble_eq_true rfl) (TfM_passes _ _ hq12) rfl ?_
  refine xr_aload_n (pc' := 33) rfl rfl rfl ?_
  refine xr_aload_n (pc' := 34) rfl rfl rfl ?_
  obtain ⟨v13, hv13, h⟩ := xbind h
  refine xr_getR (pc' := 37) rfl (by decide) hv13 rfl ?_
  obtain ⟨u14, hu14, h⟩ := xbind h
  obtain ⟨q15, hq15, h⟩ := xbind h
  refine xr_callV (pc' := 40) (C := 8) (As := [_]) (rest := _) rfl hu14 mC_158 mL_158 rfl (Nat.le_of_ble_eq_true rfl) rfl (Nat.le_of_ble_eq_true rfl) (TfM_passes _ _ hq15) rfl ?_
  refine xr_aload_n (pc' := 41) rfl rfl rfl ?_
  refine xr_aload_n (pc' := 42) rfl rfl rfl ?_
  obtain ⟨v16, hv16, h⟩ := xbind h
  refine xr_getR (pc' := 45) rfl (by decide) hv16 rfl ?_
  obtain ⟨u17, hu17, h⟩ := xbind h
  obtain ⟨q18, hq18, h⟩ := xbind h
  refine xr_callV (pc' := 48) (C := 8) (As := [_]) (rest := _) rfl hu17 mC_158 mL_158 rfl (Nat.le_of_ble_eq_true rfl) rfl (Nat.le_of_ble_eq_true rfl) (TfM_passes _ _ hq18) rfl ?_
  refine xr_aload_n (pc' := 49) rfl rfl rfl ?_
  refine xr_aload_n (pc' := 50) rfl rfl rfl ?_
  obtain ⟨v19, hv19, h⟩ := xbind h
  refine xr_getR (pc' := 53) rfl (by decide) hv19 rfl ?_
  obtain ⟨u20, hu20, h⟩ := xbind h
  obtain ⟨q21, hq21, h⟩ := xbind h
  refine xr_callV (pc' := 56) (C := 8) (As := [_]) (rest := _) rfl hu20 mC_158 mL_158 rfl (Nat.le_of_ble_eq_true rfl) rfl (Nat.le_of_ble_eq_true rfl) (TfM_passes _ _ hq21) rfl ?_
  refine xr_aload_n (pc' := 57) rfl rfl rfl ?_
  refine xr_aload_n (pc' := 58) rfl rfl rfl ?_
  obtain ⟨v22, hv22, h⟩ := xbind h
  refine xr_getR (pc' := 61) rfl (by decide) hv22 rfl ?_
  obtain ⟨u23, hu23, h⟩ := xbind h
  obtain ⟨q24, hq24, h⟩ := xbind h
  refine xr_callV (pc' := 64) (C := 8) (As := [_]) (rest := _) rfl hu23 mC_158 mL_158 rfl (Nat.le_of_ble_eq_true rfl) rfl (Nat.le_of_ble_eq_true rfl) (TfM_passes _ _ hq24) rfl ?_
  refine xr_aload_n (pc' := 65) rfl rfl rfl ?_
  refine xr_aload_n (pc' := 66) rfl rfl rfl ?_
  obtain ⟨v25, hv25, h⟩ := xbind h
  refine xr_getR (pc' := 69) rfl (by decide) hv25 rfl ?_
  obtain ⟨u26, hu26, h⟩ := xbind h
  obtain ⟨q27, hq27, h⟩ := xbind h
  refine xr_callV (pc' := 72) (C := 8) (As := [_]) (rest := _) rfl hu26 mC_158 mL_158 rfl (Nat.le_of_ble_eq_true rfl) rfl (Nat.le_of_ble_eq_true rfl) (TfM_passes _ _ hq27) rfl ?_
  refine xr_aload_n (pc' := 73) rfl rfl rfl ?_
  refine xr_aload_n (pc' := 74) rfl rfl rfl ?_
  obtain ⟨v28, hv28, h⟩ := xbind h
  refine xr_getR (pc' := 77) rfl (by decide) hv28 rfl ?_
  obtain ⟨u29, hu29, h⟩ := xbind h
  obtain ⟨q30, hq30, h⟩ := xbind h
  refine xr_callV (pc' := 80) (C := 8) (As := [_]) (rest := _) rfl hu29 mC_158 mL_158 rfl (Nat.le_of_ble_eq_true rfl) rfl (Nat.le_of_ble_eq_true rfl) (TfM_passes _ _ hq30) rfl ?_
  refine xr_aload_n (pc' := 81) rfl rfl rfl ?_
  refine xr_aload_n (pc' := 82) rfl rfl rfl ?_
  obtain ⟨v31, hv31, h⟩ := xbind h
  refine xr_getR (pc' := 85) rfl (by decide) hv31 rfl ?_
  obtain ⟨u32, hu32, h⟩ := xbind h
  obtain ⟨q33, hq33, h⟩ := xbind h
  refine xr_callV (pc' := 88) (C := 8) (As := [_]) (rest := _) rfl hu32 mC_158 mL_158 rfl (Nat.le_of_ble_eq_true rfl) rfl (Nat.le_of_ble_eq_true rfl) (TfM_passes _ _ hq33) rfl ?_
  refine xr_aload_n (pc' := 89) rfl rfl rfl ?_
  refine xr_aload_n (pc' := 90) rfl rfl rfl ?_
  obtain ⟨v34, hv34, h⟩ := xbind h
  refine xr_getR (pc' := 93) rfl (by decide) hv34 rfl ?_
  obtain ⟨u35, hu35, h⟩ := xbind h
  obtain ⟨q36, hq36, h⟩ := xbind h
  refine xr_callV (pc' := 96) (C := 8) (As := [_]) (rest := _) rfl hu35 mC_158 mL_158 rfl (Nat.le_of_ble_eq_true rfl) rfl (Nat.le_of_ble_eq_true rfl) (TfM_passes _ _ hq36) rfl ?_
  obtain rfl := xsome1 h
  exact xr_ret rfl mR_157
-- 159: MagazineDepotModel.passesMagazines()V
def fM_passesMagazines (M : xMem) (this : xId) : Option xMem :=
  (xgR M (some this) 8 20).bind fun v1 =>
  (xob M (some this) 8).bind fun u2 =>
  (fM_passes M u2 v1).bind fun q3 =>
  (xgR q3 (some this) 8 21).bind fun v4 =>
  (xob q3 (some this) 8).bind fun u5 =>
  (fM_passes q3 u5 v4).bind fun q6 =>
  (xgR q6 (some this) 8 22).bind fun v7 =>
  (xob q6 (some this) 8).bind fun u8 =>
  (fM_passes q6 u8 v7).bind fun q9 =>
  (xgR q9 (some this) 8 23).bind fun v10 =>
  (xob q9 (some this) 8).bind fun u11 =>
  (fM_passes q9 u11 v10).bind fun q12 =>
  (xgR q12 (some this) 8 24).bind fun v13 =>
  (xob q12 (some this) 8).bind fun u14 =>
  (fM_passes q12 u14 v13).bind fun q15 =>
  (xgR q15 (some this) 8 25).bind fun v16 =>
  (xob q15 (some this) 8).bind fun u17 =>
  (fM_passes q15 u17 v16).bind fun q18 =>
  (xgR q18 (some this) 8 26).bind fun v19 =>
  (xob q18 (some this) 8).bind fun u20 =>
  (fM_passes q18 u20 v19).bind fun q21 =>
  (xgR q21 (some this) 8 27).bind fun v22 =>
  (xob q21 (some this) 8).bind fun u23 =>
  (fM_passes q21 u23 v22).bind fun q24 =>
  (xgR q24 (some this) 8 28).bind fun v25 =>
  (xob q24 (some this) 8).bind fun u26 =>
  (fM_passes q24 u26 v25).bind fun q27 =>
  some q27
set_option maxRecDepth 20000 in
theorem TfM_passesMagazines {M M' : xMem} (this : xId) (h : fM_passesMagazines M this = some M') : xrun none 1 159 0 ([some (.inr (.inr (some this)))]) ([]) M (none, M') := by
  unfold fM_passesMagazines at h
  refine xr_aload_n (pc' := 1) rfl rfl rfl ?_
  refine xr_aload_n (pc' := 2) rfl rfl rfl ?_
  obtain ⟨v1, hv1, h⟩ := xbind h
  refine xr_getR (pc' := 5) rfl (by decide) hv1 rfl ?_
  obtain ⟨u2, hu2, h⟩ := xbind h
  obtain ⟨q3, hq3, h⟩ := xbind h
  refine xr_callV (pc' := 8) (C := 8) (As := [_]) (rest := _) rfl hu2 mC_158 mL_158 rfl (Nat.le_of_ble_eq_true rfl) rfl (Nat.le_of_ble_eq_true rfl) (TfM_passes _ _ hq3) rfl ?_
  refine xr_aload_n (pc' := 9) rfl rfl rfl ?_
  refine xr_aload_n (pc' := 10) rfl rfl rfl ?_
  obtain ⟨v4, hv4, h⟩ := xbind h
  refine xr_getR (pc' := 13) rfl (by decide) hv4 rfl ?_
  obtain ⟨u5, hu5, h⟩ := xbind h
  obtain ⟨q6, hq6, h⟩ := xbind h
  refine xr_callV (pc' := 16) (C := 8) (As := [_]) (rest := _) rfl hu5 mC_158 mL_158 rfl (Nat.le_of_ble_eq_true rfl) rfl (Nat.le_of_ble_eq_true rfl) (TfM_passes _ _ hq6) rfl ?_
  refine xr_aload_n (pc' := 17) rfl rfl rfl ?_
  refine xr_aload_n (pc' := 18) rfl rfl rfl ?_
  obtain ⟨v7, hv7, h⟩ := xbind h
  refine xr_getR (pc' := 21) rfl (by decide) hv7 rfl ?_
  obtain ⟨u8, hu8, h⟩ := xbind h
  obtain ⟨q9, hq9, h⟩ := xbind h
  refine xr_callV (pc' := 24) (C := 8) (As := [_]) (rest := _) rfl hu8 mC_158 mL_158 rfl (Nat.le_of_ble_eq_true rfl) rfl (Nat.le_of_ble_eq_true rfl) (TfM_passes _ _ hq9) rfl ?_
  refine xr_aload_n (pc' := 25) rfl rfl rfl ?_
  refine xr_aload_n (pc' := 26) rfl rfl rfl ?_
  obtain ⟨v10, hv10, h⟩ := xbind h
  refine xr_getR (pc' := 29) rfl (by decide) hv10 rfl ?_
  obtain ⟨u11, hu11, h⟩ := xbind h
  obtain ⟨q12, hq12, h⟩ := xbind h
  refine xr_callV (pc' := 32) (C := 8) (As := [_]) (rest := _) rfl hu11 mC_158 mL_158 rfl (Nat.le_of_ble_eq_true rfl) rfl (Nat.le_of_ble_eq_true rfl) (TfM_passes _ _ hq12) rfl ?_
  refine xr_aload_n (pc' := 33) rfl rfl rfl ?_
  refine xr_aload_n (pc' := 34) rfl rfl rfl ?_
  obtain ⟨v13, hv13, h⟩ := xbind h
  refine xr_getR (pc' := 37) rfl (by decide) hv13 rfl ?_
  obtain ⟨u14, hu14, h⟩ := xbind h
  obtain ⟨q15, hq15, h⟩ := xbind h
  refine xr_callV (pc' := 40) (C := 8) (As := [_]) (rest := _) rfl hu14 mC_158 mL_158 rfl (Nat.le_of_ble_eq_true rfl) rfl (Nat.le_of_ble_eq_true rfl) (TfM_passes _ _ hq15) rfl ?_
  refine xr_aload_n (pc' := 41) rfl rfl rfl ?_
  refine xr_aload_n (pc' := 42) rfl rfl rfl ?_
  obtain ⟨v16, hv16, h⟩ := xbind h
  refine xr_getR (pc' := 45) rfl (by decide) hv16 rfl ?_
  obtain ⟨u17, hu17, h⟩ := xbind h
  obtain ⟨q18, hq18, h⟩ := xbind h
  refine xr_callV (pc' := 48) (C := 8) (As := [_]) (rest := _) rfl hu17 mC_158 mL_158 rfl (Nat.le_of_ble_eq_true rfl) rfl (Nat.le_of_ble_eq_true rfl) (TfM_passes _ _ hq18) rfl ?_
  refine xr_aload_n (pc' := 49) rfl rfl rfl ?_
  refine xr_aload_n (pc' := 50) rfl rfl rfl ?_
  obtain ⟨v19, hv19, h⟩ := xbind h
  refine xr_getR (pc' := 53) rfl (by decide) hv19 rfl ?_
  obtain ⟨u20, hu20, h⟩ := xbind h
  obtain ⟨q21, hq21, h⟩ := xbind h
  refine xr_callV (pc' := 56) (C := 8) (As := [_]) (rest := _) rfl hu20 mC_158 mL_158 rfl (Nat.le_of_ble_eq_true rfl) rfl (Nat.le_of_ble_eq_true rfl) (TfM_passes _ _ hq21) rfl ?_
  refine xr_aload_n (pc' := 57) rfl rfl rfl ?_
  refine xr_aload_n (pc' := 58) rfl rfl rfl ?_
  obtain ⟨v22, hv22, h⟩ := xbind h
  refine xr_getR (pc' := 61) rfl (by decide) hv22 rfl ?_
  obtain ⟨u23, hu23, h⟩ := xbind h
  obtain ⟨q24, hq24, h⟩ := xbind h
  refine xr_callV (pc' := 64) (C := 8) (As := [_]) (rest := _) rfl hu23 mC_158 mL_158 rfl (Nat.le_of_ble_eq_true rfl) rfl (Nat.le_of_ble_eq_true rfl) (TfM_passes _ _ hq24) rfl ?_
  refine xr_aload_n (pc' := 65) rfl rfl rfl ?_
  refine xr_aload_n (pc' := 66) rfl rfl rfl ?_
  obtain ⟨v25, hv25, h⟩ := xbind h
  refine xr_getR (pc' := 69) rfl (by decide) hv25 rfl ?_
  obtain ⟨u26, hu26, h⟩ := xbind h
  obtain ⟨q27, hq27, h⟩ := xbind h
  refine xr_callV (pc' := 72) (C := 8) (As := [_]) (rest := _) rfl hu26 mC_158 mL_158 rfl (Nat.le_of_ble_eq_true rfl) rfl (Nat.le_of_ble_eq_true rfl) (TfM_passes _ _ hq27) rfl ?_
  obtain rfl := xsome1 h
  exact xr_ret rfl mR_159
-- 160: MagazineDepotModel.passOne(I)I
def fM_passOne_38  (M : xMem) (l0 : Option xId) (l2 : Int32)  : Option (Int32 × xMem) :=
  (xgI M l0 8 34).bind fun v9 =>
  (xpI M l0 8 34 (v9 + (1 : Int32))).bind fun M10 =>
  some (l2, M10)
set_option maxRecDepth 20000 in
theorem TfM_passOne_38 {M' : xMem} {r : Int32}  (M : xMem) (l0 : Option xId) (l2 : Int32)  (o1 : Int32) (h : fM_passOne_38  M l0 l2  = some (r, M')) : xrun none 0 160 38 ([some (.inr (.inr l0)), some (.inl o1), some (.inl l2)]) ([]) M (some (.inl r), M') := by
  unfold fM_passOne_38 at h
  refine xr_aload_n (pc' := 39) rfl rfl rfl ?_
  refine xr_dup_a (pc' := 40) rfl rfl ?_
  obtain ⟨v9, hv9, h⟩ := xbind h
  refine xr_getI (pc' := 43) rfl (by decide) hv9 rfl ?_
  refine xr_iconst (v := 1) (pc' := 44) rfl (by decide) rfl ?_
  refine xr_iadd (pc' := 45) rfl rfl ?_
  obtain ⟨M10, hM10, h⟩ := xbind h
  refine xr_putI (pc' := 48) rfl (by decide) hM10 rfl ?_
  refine xr_iload_n (pc' := 49) rfl rfl rfl ?_
  obtain ⟨rfl, rfl⟩ := xsome2 h
  exact xr_iret rfl mR_160
def fM_passOne_20  (M : xMem) (l0 : Option xId) (l1 : Int32) (s0 : Int32) : Option (Int32 × xMem) :=
  (xgI M l0 8 33).bind fun v5 =>
  if v5 = 0 then (
    fM_passOne_38  M l0 s0 )
  else
  (xgR M l0 8 30).bind fun v6 =>
  (xgI M l0 8 34).bind fun v7 =>
  (xuI M v6 v7 l1).bind fun M8 =>
  fM_passOne_38  M8 l0 s0 
set_option maxRecDepth 20000 in
theorem TfM_passOne_20 {M' : xMem} {r : Int32}  (M : xMem) (l0 : Option xId) (l1 : Int32) (s0 : Int32) (o2 : Option xVal) (h : fM_passOne_20  M l0 l1 s0 = some (r, M')) : xrun none 0 160 20 ([some (.inr (.inr l0)), some (.inl l1), o2]) ([.inl s0]) M (some (.inl r), M') := by
  unfold fM_passOne_20 at h
  refine xr_istore_n (pc' := 21) rfl rfl rfl ?_
  refine xr_aload_n (pc' := 22) rfl rfl rfl ?_
  obtain ⟨v5, hv5, h⟩ := xbind h
  refine xr_getI (pc' := 25) rfl (by decide) hv5 rfl ?_
  rcases xite h with ⟨hc, h⟩ | ⟨hc, h⟩
  · refine xr_if_eq_t (t := 38) rfl hc ?_
    exact TfM_passOne_38   M _ _  _ h
  · refine xr_if_eq_f (pc' := 28) rfl hc rfl ?_
    refine xr_aload_n (pc' := 29) rfl rfl rfl ?_
    obtain ⟨v6, hv6, h⟩ := xbind h
    refine xr_getR (pc' := 32) rfl (by decide) hv6 rfl ?_
    refine xr_aload_n (pc' := 33) rfl rfl rfl ?_
    obtain ⟨v7, hv7, h⟩ := xbind h
    refine xr_getI (pc' := 36) rfl (by decide) hv7 rfl ?_
    refine xr_iload_n (pc' := 37) rfl rfl rfl ?_
    obtain ⟨M8, hM8, h⟩ := xbind h
    refine xr_uI (pc' := 38) rfl hM8 rfl ?_
    exact TfM_passOne_38   M8 _ _  _ h
def fM_passOne (M : xMem) (this : xId) (a0 : Int32) : Option (Int32 × xMem) :=
  (xgI M (some this) 8 33).bind fun v1 =>
  if v1 = 0 then (
    (xgR M (some this) 8 30).bind fun v2 =>
    (xgI M (some this) 8 34).bind fun v3 =>
    (xaI M v2 v3).bind fun v4 =>
    fM_passOne_20  M (some this) a0 v4)
  else
  fM_passOne_20  M (some this) a0 a0
set_option maxRecDepth 20000 in
theorem TfM_passOne {M M' : xMem} {r : Int32} (this : xId) (a0 : Int32) (h : fM_passOne M this a0 = some (r, M')) : xrun none 0 160 0 ([some (.inr (.inr (some this))), some (.inl a0), none]) ([]) M (some (.inl r), M') := by
  unfold fM_passOne at h
  refine xr_aload_n (pc' := 1) rfl rfl rfl ?_
  obtain ⟨v1, hv1, h⟩ := xbind h
  refine xr_getI (pc' := 4) rfl (by decide) hv1 rfl ?_
  rcases xite h with ⟨hc, h⟩ | ⟨hc, h⟩
  · refine xr_if_eq_t (t := 11) rfl hc ?_
    refine xr_aload_n (pc' := 12) rfl rfl rfl ?_
    obtain ⟨v2, hv2, h⟩ := xbind h
    refine xr_getR (pc' := 15) rfl (by decide) hv2 rfl ?_
    refine xr_aload_n (pc' := 16) rfl rfl rfl ?_
    obtain ⟨v3, hv3, h⟩ := xbind h
    refine xr_getI (pc' := 19) rfl (by decide) hv3 rfl ?_
    obtain ⟨v4, hv4, h⟩ := xbind h
    refine xr_aI (pc' := 20) rfl hv4 rfl ?_
    exact TfM_passOne_20   M _ _ _ _ h
  · refine xr_if_eq_f (pc' := 7) rfl hc rfl ?_
    refine xr_iload_n (pc' := 8) rfl rfl rfl ?_
    refine xr_goto (t := 20) rfl ?_
    exact TfM_passOne_20   M _ _ _ _ h
-- 156: MagazineDepotModel.passesAll(IZ)V
def fM_passesAll_137 (k93 : xMem → Option xId → Int32 → Int32 → Int32 → Option xMem) (M : xMem) (l0 : Option xId) (l1 : Int32) (l2 : Int32) (l3 : Int32)  : Option xMem :=
  k93 M l0 l1 l2 (l3 + 1)
set_option maxRecDepth 20000 in
theorem TfM_passesAll_137 {M' : xMem} (k93 : xMem → Option xId → Int32 → Int32 → Int32 → Option xMem) (hk93 : ∀ (M : xMem) (l0 : Option xId) (l1 : Int32) (l2 : Int32) (l3 : Int32) , k93 M l0 l1 l2 l3 = some M' → xrun none 2 156 93 ([some (.inr (.inr l0)), some (.inl l1), some (.inl l2), some (.inl l3)]) ([]) M (none, M')) (M : xMem) (l0 : Option xId) (l1 : Int32) (l2 : Int32) (l3 : Int32)   (h : fM_passesAll_137 k93 M l0 l1 l2 l3  = some M') : xrun none 2 156 137 ([some (.inr (.inr l0)), some (.inl l1), some (.inl l2), some (.inl l3)]) ([]) M (none, M') := by
  unfold fM_passesAll_137 at h
  refine xr_iinc (c := 1) (pc' := 140) rfl (by decide) rfl rfl rfl ?_
  refine xr_goto (t := 93) rfl ?_
  exact hk93 M _ _ _ _  h
def fM_passesAll_93  : Nat → xMem → Option xId → Int32 → Int32 → Int32 → Option xMem
  | 0, _, _, _, _, _ => none
  | n + 1, M, l0, l1, l2, l3 =>
    if (4 : Int32) ≤ l3 then (
      some M)
    else
    if l2 = 0 then (
      (xgR M l0 8 12).bind fun v30 =>
      (xgR M l0 8 31).bind fun v31 =>
      (xaL M v31 (((4 : Int32) * l1) + l3)).bind fun v32 =>
      (xuL M v30 l3 v32).bind fun M33 =>
      fM_passesAll_137 (fun M l0 l1 l2 l3 => fM_passesAll_93  n M l0 l1 l2 l3) M33 l0 l1 l2 l3 )
    else
    (xgR M l0 8 31).bind fun v34 =>
    (xgR M l0 8 12).bind fun v35 =>
    (xaL M v35 l3).bind fun v36 =>
    (xuL M v34 (((4 : Int32) * l1) + l3) v36).bind fun M37 =>
    fM_passesAll_137 (fun M l0 l1 l2 l3 => fM_passesAll_93  n M l0 l1 l2 l3) M37 l0 l1 l2 l3 
set_option maxRecDepth 20000 in
theorem TfM_passesAll_93 {M' : xMem}  : ∀ (n : Nat) (M : xMem) (l0 : Option xId) (l1 : Int32) (l2 : Int32) (l3 : Int32) , fM_passesAll_93  n M l0 l1 l2 l3 = some M' → xrun none 2 156 93 ([some (.inr (.inr l0)), some (.inl l1), some (.inl l2), some (.inl l3)]) ([]) M (none, M') := by
  intro n
  induction n with
  | zero => intro M l0 l1 l2 l3  h; unfold fM_passesAll_93 at h; cases h
  | succ n ih =>
    intro M l0 l1 l2 l3  h
    unfold fM_passesAll_93 at h
    refine xr_iload_n (pc' := 94) rfl rfl rfl ?_
    refine xr_iconst (v := 4) (pc' := 95) rfl (by decide) rfl ?_
    rcases xite h with ⟨hc, h⟩ | ⟨hc, h⟩
    · refine xr_icmp_ge_t (t := 143) rfl hc ?_
      obtain rfl := xsome1 h
      exact xr_ret rfl mR_156
    · refine xr_icmp_ge_f (pc' := 98) rfl hc rfl ?_
      refine xr_iload_n (pc' := 99) rfl rfl rfl ?_
      rcases xite h with ⟨hc, h⟩ | ⟨hc, h⟩
      · refine xr_if_eq_t (t := 121) rfl hc ?_
        refine xr_aload_n (pc' := 122) rfl rfl rfl ?_
        obtain ⟨v30, hv30, h⟩ := xbind h
        refine xr_getR (pc' := 125) rfl (by decide) hv30 rfl ?_
        refine xr_iload_n (pc' := 126) rfl rfl rfl ?_
        refine xr_aload_n (pc' := 127) rfl rfl rfl ?_
        obtain ⟨v31, hv31, h⟩ := xbind h
        refine xr_getR (pc' := 130) rfl (by decide) hv31 rfl ?_
        refine xr_iconst (v := 4) (pc' := 131) rfl (by decide) rfl ?_
        refine xr_iload_n (pc' := 132) rfl rfl rfl ?_
        refine xr_imul (pc' := 133) rfl rfl ?_
        refine xr_iload_n (pc' := 134) rfl rfl rfl ?_
        refine xr_iadd (pc' := 135) rfl rfl ?_
        obtain ⟨v32, hv32, h⟩ := xbind h
        refine xr_aL (pc' := 136) rfl hv32 rfl ?_
        obtain ⟨M33, hM33, h⟩ := xbind h
        refine xr_uL (pc' := 137) rfl hM33 rfl ?_
        exact TfM_passesAll_137 _ (fun M l0 l1 l2 l3  h => ih M l0 l1 l2 l3  h) M33 _ _ _ _   h
      · refine xr_if_eq_f (pc' := 102) rfl hc rfl ?_
        refine xr_aload_n (pc' := 103) rfl rfl rfl ?_
        obtain ⟨v34, hv34, h⟩ := xbind h
        refine xr_getR (pc' := 106) rfl (by decide) hv34 rfl ?_
        refine xr_iconst (v := 4) (pc' := 107) rfl (by decide) rfl ?_
        refine xr_iload_n (pc' := 108) rfl rfl rfl ?_
        refine xr_imul (pc' := 109) rfl rfl ?_
        refine xr_iload_n (pc' := 110) rfl rfl rfl ?_
        refine xr_iadd (pc' := 111) rfl rfl ?_
        refine xr_aload_n (pc' := 112) rfl rfl rfl ?_
        obtain ⟨v35, hv35, h⟩ := xbind h
        refine xr_getR (pc' := 115) rfl (by decide) hv35 rfl ?_
        refine xr_iload_n (pc' := 116) rfl rfl rfl ?_
        obtain ⟨v36, hv36, h⟩ := xbind h
        refine xr_aL (pc' := 117) rfl hv36 rfl ?_
        obtain ⟨M37, hM37, h⟩ := xbind h
        refine xr_uL (pc' := 118) rfl hM37 rfl ?_
        refine xr_goto (t := 137) rfl ?_
        exact TfM_passesAll_137 _ (fun M l0 l1 l2 l3  h => ih M l0 l1 l2 l3  h) M37 _ _ _ _   h
def fM_passesAll_91  (M : xMem) (l0 : Option xId) (l1 : Int32) (l2 : Int32)  : Option xMem :=
  fM_passesAll_93  xF M l0 l1 l2 (0 : Int32)
set_option maxRecDepth 20000 in
theorem TfM_passesAll_91 {M' : xMem}  (M : xMem) (l0 : Option xId) (l1 : Int32) (l2 : Int32)  (o3 : Option xVal) (h : fM_passesAll_91  M l0 l1 l2  = some M') : xrun none 2 156 91 ([some (.inr (.inr l0)), some (.inl l1), some (.inl l2), o3]) ([]) M (none, M') := by
  unfold fM_passesAll_91 at h
  refine xr_iconst (v := 0) (pc' := 92) rfl (by decide) rfl ?_
  refine xr_istore_n (pc' := 93) rfl rfl rfl ?_
  exact TfM_passesAll_93   xF M _ _ _ _  h
def fM_passesAll (M : xMem) (this : xId) (a0 : Int32) (a1 : Int32) : Option xMem :=
  (xpI M (some this) 8 34 ((4600 : Int32) * a0)).bind fun M1 =>
  (xpZ M1 (some this) 8 33 a1).bind fun M2 =>
  (xob M2 (some this) 8).bind fun u3 =>
  (fM_passesCaches M2 u3 ).bind fun q4 =>
  (xob q4 (some this) 8).bind fun u5 =>
  (fM_passesMagazines q4 u5 ).bind fun q6 =>
  (xgR q6 (some this) 8 16).bind fun v7 =>
  (xob q6 (some this) 8).bind fun u8 =>
  (fM_passes q6 u8 v7).bind fun q9 =>
  (xgR q9 (some this) 8 17).bind fun v10 =>
  (xob q9 (some this) 8).bind fun u11 =>
  (fM_passes q9 u11 v10).bind fun q12 =>
  (xgR q12 (some this) 8 18).bind fun v13 =>
  (xob q12 (some this) 8).bind fun u14 =>
  (fM_passes q12 u14 v13).bind fun q15 =>
  (xgR q15 (some this) 8 19).bind fun v16 =>
  (xob q15 (some this) 8).bind fun u17 =>
  (fM_passes q15 u17 v16).bind fun q18 =>
  (xgI q18 (some this) 8 13).bind fun v19 =>
  (xob q18 (some this) 8).bind fun u20 =>
  (fM_passOne q18 u20 v19).bind fun q21 =>
  (xpI q21.2 (some this) 8 13 q21.1).bind fun M22 =>
  (xgI M22 (some this) 8 14).bind fun v23 =>
  (xob M22 (some this) 8).bind fun u24 =>
  (fM_passOne M22 u24 v23).bind fun q25 =>
  (xpI q25.2 (some this) 8 14 q25.1).bind fun M26 =>
  if a0 = (1 : Int32) then (
    (xgR M26 (some this) 8 29).bind fun v27 =>
    (xob M26 (some this) 8).bind fun u28 =>
    (fM_passes M26 u28 v27).bind fun q29 =>
    fM_passesAll_91  q29 (some this) a0 a1 )
  else
  fM_passesAll_91  M26 (some this) a0 a1 
set_option maxRecDepth 20000 in
theorem TfM_passesAll {M M' : xMem} (this : xId) (a0 : Int32) (a1 : Int32) (h : fM_passesAll M this a0 a1 = some M') : xrun none 2 156 0 ([some (.inr (.inr (some this))), some (.inl a0), some (.inl a1), none]) ([]) M (none, M') := by
  unfold fM_passesAll at h
  refine xr_aload_n (pc' := 1) rfl rfl rfl ?_
  refine xr_sipush (v := 4600) (pc' := 4) rfl (by decide) rfl ?_
  refine xr_iload_n (pc' := 5) rfl rfl rfl ?_
  refine xr_imul (pc' := 6) rfl rfl ?_
  obtain ⟨M1, hM1, h⟩ := xbind h
  refine xr_putI (pc' := 9) rfl (by decide) hM1 rfl ?_
  refine xr_aload_n (pc' := 10) rfl rfl rfl ?_
  refine xr_iload_n (pc' := 11) rfl rfl rfl ?_
  obtain ⟨M2, hM2, h⟩ := xbind h
  refine xr_putZ (pc' := 14) rfl (by decide) hM2 rfl ?_
  refine xr_aload_n (pc' := 15) rfl rfl rfl ?_
  obtain ⟨u3, hu3, h⟩ := xbind h
  obtain ⟨q4, hq4, h⟩ := xbind h
  refine xr_callV (pc' := 18) (C := 8) (As := []) (rest := _) rfl hu3 mC_157 mL_157 rfl (Nat.le_of_ble_eq_true rfl) rfl (Nat.le_of_ble_eq_true rfl) (TfM_passesCaches _  hq4) rfl ?_
  refine xr_aload_n (pc' := 19) rfl rfl rfl ?_
  obtain ⟨u5, hu5, h⟩ := xbind h
  obtain ⟨q6, hq6, h⟩ := xbind h
  refine xr_callV (pc' := 22) (C := 8) (As := []) (rest := _) rfl hu5 mC_159 mL_159 rfl (Nat.le_of_ble_eq_true rfl) rfl (Nat.le_of_ble_eq_true rfl) (TfM_passesMagazines _  hq6) rfl ?_
  refine xr_aload_n (pc' := 23) rfl rfl rfl ?_
  refine xr_aload_n (pc' := 24) rfl rfl rfl ?_
  obtain ⟨v7, hv7, h⟩ := xbind h
  refine xr_getR (pc' := 27) rfl (by decide) hv7 rfl ?_
  obtain ⟨u8, hu8, h⟩ := xbind h
  obtain ⟨q9, hq9, h⟩ := xbind h
  refine xr_callV (pc' := 30) (C := 8) (As := [_]) (rest := _) rfl hu8 mC_158 mL_158 rfl (Nat.le_of_ble_eq_true rfl) rfl (Nat.le_of_ble_eq_true rfl) (TfM_passes _ _ hq9) rfl ?_
  refine xr_aload_n (pc' := 31) rfl rfl rfl ?_
  refine xr_aload_n (pc' := 32) rfl rfl rfl ?_
  obtain ⟨v10, hv10, h⟩ := xbind h
  refine xr_getR (pc' := 35) rfl (by decide) hv10 rfl ?_
  obtain ⟨u11, hu11, h⟩ := xbind h
  obtain ⟨q12, hq12, h⟩ := xbind h
  refine xr_callV (pc' := 38) (C := 8) (As := [_]) (rest := _) rfl hu11 mC_158 mL_158 rfl (Nat.le_of_ble_eq_true rfl) rfl (Nat.le_of_ble_eq_true rfl) (TfM_passes _ _ hq12) rfl ?_
  refine xr_aload_n (pc' := 39) rfl rfl rfl ?_
  refine xr_aload_n (pc' := 40) rfl rfl rfl ?_
  obtain ⟨v13, hv13, h⟩ := xbind h
  refine xr_getR (pc' := 43) rfl (by decide) hv13 rfl ?_
  obtain ⟨u14, hu14, h⟩ := xbind h
  obtain ⟨q15, hq15, h⟩ := xbind h
  refine xr_callV (pc' := 46) (C := 8) (As := [_]) (rest := _) rfl hu14 mC_158 mL_158 rfl (Nat.le_of_ble_eq_true rfl) rfl (Nat.le_of_ble_eq_true rfl) (TfM_passes _ _ hq15) rfl ?_
  refine xr_aload_n (pc' := 47) rfl rfl rfl ?_
  refine xr_aload_n (pc' := 48) rfl rfl rfl ?_
  obtain ⟨v16, hv16, h⟩ := xbind h
  refine xr_getR (pc' := 51) rfl (by decide) hv16 rfl ?_
  obtain ⟨u17, hu17, h⟩ := xbind h
  obtain ⟨q18, hq18, h⟩ := xbind h
  refine xr_callV (pc' := 54) (C := 8) (As := [_]) (rest := _) rfl hu17 mC_158 mL_158 rfl (Nat.le_of_ble_eq_true rfl) rfl (Nat.le_of_ble_eq_true rfl) (TfM_passes _ _ hq18) rfl ?_
  refine xr_aload_n (pc' := 55) rfl rfl rfl ?_
  refine xr_aload_n (pc' := 56) rfl rfl rfl ?_
  refine xr_aload_n (pc' := 57) rfl rfl rfl ?_
  obtain ⟨v19, hv19, h⟩ := xbind h
  refine xr_getI (pc' := 60) rfl (by decide) hv19 rfl ?_
  obtain ⟨u20, hu20, h⟩ := xbind h
  obtain ⟨q21, hq21, h⟩ := xbind h
  refine xr_callV (pc' := 63) (C := 8) (As := [_]) (rest := _) rfl hu20 mC_160 mL_160 rfl (Nat.le_of_ble_eq_true rfl) rfl (Nat.le_of_ble_eq_true rfl) (TfM_passOne _ _ hq21) rfl ?_
  obtain ⟨M22, hM22, h⟩ := xbind h
  refine xr_putI (pc' := 66) rfl (by decide) hM22 rfl ?_
  refine xr_aload_n (pc' := 67) rfl rfl rfl ?_
  refine xr_aload_n (pc' := 68) rfl rfl rfl ?_
  refine xr_aload_n (pc' := 69) rfl rfl rfl ?_
  obtain ⟨v23, hv23, h⟩ := xbind h
  refine xr_getI (pc' := 72) rfl (by decide) hv23 rfl ?_
  obtain ⟨u24, hu24, h⟩ := xbind h
  obtain ⟨q25, hq25, h⟩ := xbind h
  refine xr_callV (pc' := 75) (C := 8) (As := [_]) (rest := _) rfl hu24 mC_160 mL_160 rfl (Nat.le_of_ble_eq_true rfl) rfl (Nat.le_of_ble_eq_true rfl) (TfM_passOne _ _ hq25) rfl ?_
  obtain ⟨M26, hM26, h⟩ := xbind h
  refine xr_putI (pc' := 78) rfl (by decide) hM26 rfl ?_
  refine xr_iload_n (pc' := 79) rfl rfl rfl ?_
  refine xr_iconst (v := 1) (pc' := 80) rfl (by decide) rfl ?_
  rcases xite h with ⟨hc, h⟩ | ⟨hc, h⟩
  · refine xr_icmp_ne_f (pc' := 83) rfl hc rfl ?_
    refine xr_aload_n (pc' := 84) rfl rfl rfl ?_
    refine xr_aload_n (pc' := 85) rfl rfl rfl ?_
    obtain ⟨v27, hv27, h⟩ := xbind h
    refine xr_getR (pc' := 88) rfl (by decide) hv27 rfl ?_
    obtain ⟨u28, hu28, h⟩ := xbind h
    obtain ⟨q29, hq29, h⟩ := xbind h
    refine xr_callV (pc' := 91) (C := 8) (As := [_]) (rest := _) rfl hu28 mC_158 mL_158 rfl (Nat.le_of_ble_eq_true rfl) rfl (Nat.le_of_ble_eq_true rfl) (TfM_passes _ _ hq29) rfl ?_
    exact TfM_passesAll_91   q29 _ _ _  _ h
  · refine xr_icmp_ne_t (t := 91) rfl hc ?_
    exact TfM_passesAll_91   M26 _ _ _  _ h
-- 155: MagazineDepotModel.image()I
def fM_image (M : xMem) (this : xId) : Option (Int32 × xMem) :=
  (xpZ M (some this) 8 32 (1 : Int32)).bind fun M1 =>
  (xob M1 (some this) 8).bind fun u2 =>
  (fM_passesAll M1 u2 (0 : Int32) (1 : Int32)).bind fun q3 =>
  (xgI q3 (some this) 8 13).bind fun v4 =>
  some (v4, q3)
set_option maxRecDepth 20000 in
theorem TfM_image {M M' : xMem} {r : Int32} (this : xId) (h : fM_image M this = some (r, M')) : xrun none 3 155 0 ([some (.inr (.inr (some this)))]) ([]) M (some (.inl r), M') := by
  unfold fM_image at h
  refine xr_aload_n (pc' := 1) rfl rfl rfl ?_
  refine xr_iconst (v := 1) (pc' := 2) rfl (by decide) rfl ?_
  obtain ⟨M1, hM1, h⟩ := xbind h
  refine xr_putZ (pc' := 5) rfl (by decide) hM1 rfl ?_
  refine xr_aload_n (pc' := 6) rfl rfl rfl ?_
  refine xr_iconst (v := 0) (pc' := 7) rfl (by decide) rfl ?_
  refine xr_iconst (v := 1) (pc' := 8) rfl (by decide) rfl ?_
  obtain ⟨u2, hu2, h⟩ := xbind h
  obtain ⟨q3, hq3, h⟩ := xbind h
  refine xr_callV (pc' := 11) (C := 8) (As := [_, _]) (rest := _) rfl hu2 mC_156 mL_156 rfl (Nat.le_of_ble_eq_true rfl) rfl (Nat.le_of_ble_eq_true rfl) (TfM_passesAll _ _ _ hq3) rfl ?_
  refine xr_aload_n (pc' := 12) rfl rfl rfl ?_
  obtain ⟨v4, hv4, h⟩ := xbind h
  refine xr_getI (pc' := 15) rfl (by decide) hv4 rfl ?_
  obtain ⟨rfl, rfl⟩ := xsome2 h
  exact xr_iret rfl mR_155
-- 161: MagazineDepotModel.back()I
def fM_back (M : xMem) (this : xId) : Option (Int32 × xMem) :=
  (xgI M (some this) 8 32).bind fun v1 =>
  if v1 = 0 then (
    some ((-5 : Int32), M))
  else
  (xob M (some this) 8).bind fun u2 =>
  (fM_passesAll M u2 (0 : Int32) (0 : Int32)).bind fun q3 =>
  (xgI q3 (some this) 8 13).bind fun v4 =>
  some (v4, q3)
set_option maxRecDepth 20000 in
theorem TfM_back {M M' : xMem} {r : Int32} (this : xId) (h : fM_back M this = some (r, M')) : xrun none 3 161 0 ([some (.inr (.inr (some this)))]) ([]) M (some (.inl r), M') := by
  unfold fM_back at h
  refine xr_aload_n (pc' := 1) rfl rfl rfl ?_
  obtain ⟨v1, hv1, h⟩ := xbind h
  refine xr_getI (pc' := 4) rfl (by decide) hv1 rfl ?_
  rcases xite h with ⟨hc, h⟩ | ⟨hc, h⟩
  · refine xr_if_ne_f (pc' := 7) rfl hc rfl ?_
    refine xr_bipush (v := -5) (pc' := 9) rfl (by decide) rfl ?_
    obtain ⟨rfl, rfl⟩ := xsome2 h
    exact xr_iret rfl mR_161
  · refine xr_if_ne_t (t := 10) rfl hc ?_
    refine xr_aload_n (pc' := 11) rfl rfl rfl ?_
    refine xr_iconst (v := 0) (pc' := 12) rfl (by decide) rfl ?_
    refine xr_iconst (v := 0) (pc' := 13) rfl (by decide) rfl ?_
    obtain ⟨u2, hu2, h⟩ := xbind h
    obtain ⟨q3, hq3, h⟩ := xbind h
    refine xr_callV (pc' := 16) (C := 8) (As := [_, _]) (rest := _) rfl hu2 mC_156 mL_156 rfl (Nat.le_of_ble_eq_true rfl) rfl (Nat.le_of_ble_eq_true rfl) (TfM_passesAll _ _ _ hq3) rfl ?_
    refine xr_aload_n (pc' := 17) rfl rfl rfl ?_
    obtain ⟨v4, hv4, h⟩ := xbind h
    refine xr_getI (pc' := 20) rfl (by decide) hv4 rfl ?_
    obtain ⟨rfl, rfl⟩ := xsome2 h
    exact xr_iret rfl mR_161
-- 163: MagazineDepotModel.isIn(III)Z
def fM_isIn (M : xMem) (a0 : Int32) (a1 : Int32) (a2 : Int32) : Option (Int32 × xMem) :=
  if a0 < a1 then (
    some ((0 : Int32), M))
  else
  if a2 < a0 then (
    some ((0 : Int32), M))
  else
  some ((1 : Int32), M)
set_option maxRecDepth 20000 in
theorem TfM_isIn {M M' : xMem} {r : Int32} (a0 : Int32) (a1 : Int32) (a2 : Int32) (h : fM_isIn M a0 a1 a2 = some (r, M')) : xrun none 0 163 0 ([some (.inl a0), some (.inl a1), some (.inl a2)]) ([]) M (some (.inl r), M') := by
  unfold fM_isIn at h
  refine xr_iload_n (pc' := 1) rfl rfl rfl ?_
  refine xr_iload_n (pc' := 2) rfl rfl rfl ?_
  rcases xite h with ⟨hc, h⟩ | ⟨hc, h⟩
  · refine xr_icmp_lt_t (t := 14) rfl hc ?_
    refine xr_iconst (v := 0) (pc' := 15) rfl (by decide) rfl ?_
    obtain ⟨rfl, rfl⟩ := xsome2 h
    exact xr_zret rfl mR_163 (by decide)
  · refine xr_icmp_lt_f (pc' := 5) rfl hc rfl ?_
    refine xr_iload_n (pc' := 6) rfl rfl rfl ?_
    refine xr_iload_n (pc' := 7) rfl rfl rfl ?_
    rcases xite h with ⟨hc, h⟩ | ⟨hc, h⟩
    · refine xr_icmp_gt_t (t := 14) rfl hc ?_
      refine xr_iconst (v := 0) (pc' := 15) rfl (by decide) rfl ?_
      obtain ⟨rfl, rfl⟩ := xsome2 h
      exact xr_zret rfl mR_163 (by decide)
    · refine xr_icmp_gt_f (pc' := 10) rfl hc rfl ?_
      refine xr_iconst (v := 1) (pc' := 11) rfl (by decide) rfl ?_
      refine xr_goto (t := 15) rfl ?_
      obtain ⟨rfl, rfl⟩ := xsome2 h
      exact xr_zret rfl mR_163 (by decide)
-- 164: MagazineDepotModel.isEights(III)Z
def fM_isEights (M : xMem) (a0 : Int32) (a1 : Int32) (a2 : Int32) : Option (Int32 × xMem) :=
  (fM_isIn M a0 a1 a2).bind fun q1 =>
  if q1.1 = 0 then (
    some ((0 : Int32), q1.2))
  else
  if (a0 - a0 / (8 : Int32) * (8 : Int32)) = 0 then (
    some ((1 : Int32), q1.2))
  else
  some ((0 : Int32), q1.2)
set_option maxRecDepth 20000 in
theorem TfM_isEights {M M' : xMem} {r : Int32} (a0 : Int32) (a1 : Int32) (a2 : Int32) (h : fM_isEights M a0 a1 a2 = some (r, M')) : xrun none 1 164 0 ([some (.inl a0), some (.inl a1), some (.inl a2)]) ([]) M (some (.inl r), M') := by
  unfold fM_isEights at h
  refine xr_iload_n (pc' := 1) rfl rfl rfl ?_
  refine xr_iload_n (pc' := 2) rfl rfl rfl ?_
  refine xr_iload_n (pc' := 3) rfl rfl rfl ?_
  obtain ⟨q1, hq1, h⟩ := xbind h
  refine xr_callS (pc' := 6) (As := [_, _, _]) (rest := _) rfl (by decide) mL_163 rfl (Nat.le_of_ble_eq_true rfl) rfl (Nat.le_of_ble_eq_true rfl) (TfM_isIn _ _ _ hq1) rfl ?_
  rcases xite h with ⟨hc, h⟩ | ⟨hc, h⟩
  · refine xr_if_eq_t (t := 20) rfl hc ?_
    refine xr_iconst (v := 0) (pc' := 21) rfl (by decide) rfl ?_
    obtain ⟨rfl, rfl⟩ := xsome2 h
    exact xr_zret rfl mR_164 (by decide)
  · refine xr_if_eq_f (pc' := 9) rfl hc rfl ?_
    refine xr_iload_n (pc' := 10) rfl rfl rfl ?_
    refine xr_bipush (v := 8) (pc' := 12) rfl (by decide) rfl ?_
    refine xr_irem (pc' := 13) rfl (by decide) rfl ?_
    rcases xite h with ⟨hc, h⟩ | ⟨hc, h⟩
    · refine xr_if_ne_f (pc' := 16) rfl hc rfl ?_
      refine xr_iconst (v := 1) (pc' := 17) rfl (by decide) rfl ?_
      refine xr_goto (t := 21) rfl ?_
      obtain ⟨rfl, rfl⟩ := xsome2 h
      exact xr_zret rfl mR_164 (by decide)
    · refine xr_if_ne_t (t := 20) rfl hc ?_
      refine xr_iconst (v := 0) (pc' := 21) rfl (by decide) rfl ?_
      obtain ⟨rfl, rfl⟩ := xsome2 h
      exact xr_zret rfl mR_164 (by decide)
-- 162: MagazineDepotModel.cache(III)I
def fM_cache_174  : Nat → xMem → Option xId → Int32 → Int32 → Option (Int32 × xMem)
  | 0, _, _, _, _ => none
  | n + 1, M, l0, l4, l5 =>
    if (4 : Int32) ≤ l5 then (
      (xgI M l0 8 13).bind fun v36 =>
      (xpI M l0 8 13 (v36 + (1 : Int32))).bind fun M37 =>
      some (l4, M37))
    else
    (xgR M l0 8 20).bind fun v38 =>
    (xuI M v38 (((4 : Int32) * l4) + l5) (-9 : Int32)).bind fun M39 =>
    (xgR M39 l0 8 21).bind fun v40 =>
    (xuI M39 v40 (((4 : Int32) * l4) + l5) (-9 : Int32)).bind fun M41 =>
    fM_cache_174  n M41 l0 l4 (l5 + 1)
set_option maxRecDepth 20000 in
theorem TfM_cache_174 {M' : xMem} {r : Int32}  : ∀ (n : Nat) (M : xMem) (l0 : Option xId) (l4 : Int32) (l5 : Int32) (o1 : Int32) (o2 : Int32) (o3 : Int32), fM_cache_174  n M l0 l4 l5 = some (r, M') → xrun none 2 162 174 ([some (.inr (.inr l0)), some (.inl o1), some (.inl o2), some (.inl o3), some (.inl l4), some (.inl l5)]) ([]) M (some (.inl r), M') := by
  intro n
  induction n with
  | zero => intro M l0 l4 l5 o1 o2 o3 h; unfold fM_cache_174 at h; cases h
  | succ n ih =>
    intro M l0 l4 l5 o1 o2 o3 h
    unfold fM_cache_174 at h
    refine xr_iload (pc' := 176) rfl rfl rfl ?_
    refine xr_iconst (v := 4) (pc' := 177) rfl (by decide) rfl ?_
    rcases xite h with ⟨hc, h⟩ | ⟨hc, h⟩
    · refine xr_icmp_ge_t (t := 214) rfl hc ?_
      refine xr_aload_n (pc' := 215) rfl rfl rfl ?_
      refine xr_dup_a (pc' := 216) rfl rfl ?_
      obtain ⟨v36, hv36, h⟩ := xbind h
      refine xr_getI (pc' := 219) rfl (by decide) hv36 rfl ?_
      refine xr_iconst (v := 1) (pc' := 220) rfl (by decide) rfl ?_
      refine xr_iadd (pc' := 221) rfl rfl ?_
      obtain ⟨M37, hM37, h⟩ := xbind h
      refine xr_putI (pc' := 224) rfl (by decide) hM37 rfl ?_
      refine xr_iload (pc' := 226) rfl rfl rfl ?_
      obtain ⟨rfl, rfl⟩ := xsome2 h
      exact xr_iret rfl mR_162
    · refine xr_icmp_ge_f (pc' := 180) rfl hc rfl ?_
      refine xr_aload_n (pc' := 181) rfl rfl rfl ?_
      obtain ⟨v38, hv38, h⟩ := xbind h
      refine xr_getR (pc' := 184) rfl (by decide) hv38 rfl ?_
      refine xr_iconst (v := 4) (pc' := 185) rfl (by decide) rfl ?_
      refine xr_iload (pc' := 187) rfl rfl rfl ?_
      refine xr_imul (pc' := 188) rfl rfl ?_
      refine xr_iload (pc' := 190) rfl rfl rfl ?_
      refine xr_iadd (pc' := 191) rfl rfl ?_
      refine xr_bipush (v := -9) (pc' := 193) rfl (by decide) rfl ?_
      obtain ⟨M39, hM39, h⟩ := xbind h
      refine xr_uI (pc' := 194) rfl hM39 rfl ?_
      refine xr_aload_n (pc' := 195) rfl rfl rfl ?_
      obtain ⟨v40, hv40, h⟩ := xbind h
      refine xr_getR (pc' := 198) rfl (by decide) hv40 rfl ?_
      refine xr_iconst (v := 4) (pc' := 199) rfl (by decide) rfl ?_
      refine xr_iload (pc' := 201) rfl rfl rfl ?_
      refine xr_imul (pc' := 202) rfl rfl ?_
      refine xr_iload (pc' := 204) rfl rfl rfl ?_
      refine xr_iadd (pc' := 205) rfl rfl ?_
      refine xr_bipush (v := -9) (pc' := 207) rfl (by decide) rfl ?_
      obtain ⟨M41, hM41, h⟩ := xbind h
      refine xr_uI (pc' := 208) rfl hM41 rfl ?_
      refine xr_iinc (c := 1) (pc' := 211) rfl (by decide) rfl rfl rfl ?_
      refine xr_goto (t := 174) rfl ?_
      exact ih M41 _ _ _ _ _ _ h
def fM_cache (M : xMem) (this : xId) (a0 : Int32) (a1 : Int32) (a2 : Int32) : Option (Int32 × xMem) :=
  (fM_isIn M a0 (0 : Int32) (5 : Int32)).bind fun q1 =>
  if q1.1 = 0 then (
    some ((-1 : Int32), q1.2))
  else
  (fM_isEights q1.2 a1 (16 : Int32) (400 : Int32)).bind fun q2 =>
  if q2.1 = 0 then (
    some ((-1 : Int32), q2.2))
  else
  (fM_isEights q2.2 a2 (8 : Int32) (64 : Int32)).bind fun q3 =>
  if q3.1 = 0 then (
    some ((-1 : Int32), q3.2))
  else
  (xgI q3.2 (some this) 8 13).bind fun v4 =>
  if v4 = (4 : Int32) then (
    some ((-3 : Int32), q3.2))
  else
  (xgI q3.2 (some this) 8 13).bind fun v5 =>
  (xgR q3.2 (some this) 8 0).bind fun v6 =>
  (xuI q3.2 v6 v5 a0).bind fun M7 =>
  (xgR M7 (some this) 8 1).bind fun v8 =>
  (xuI M7 v8 v5 a1).bind fun M9 =>
  (xgR M9 (some this) 8 2).bind fun v10 =>
  (xuI M9 v10 v5 a2).bind fun M11 =>
  (xgR M11 (some this) 8 3).bind fun v12 =>
  (xuI M11 v12 v5 (2 : Int32)).bind fun M13 =>
  (xgR M13 (some this) 8 4).bind fun v14 =>
  (xuI M13 v14 v5 (4 : Int32)).bind fun M15 =>
  (xgR M15 (some this) 8 5).bind fun v16 =>
  (xuI M15 v16 v5 (0 : Int32)).bind fun M17 =>
  (xgR M17 (some this) 8 6).bind fun v18 =>
  (xuI M17 v18 v5 (0 : Int32)).bind fun M19 =>
  (xgR M19 (some this) 8 7).bind fun v20 =>
  (xuI M19 v20 v5 (0 : Int32)).bind fun M21 =>
  (xgR M21 (some this) 8 8).bind fun v22 =>
  (xuI M21 v22 v5 (0 : Int32)).bind fun M23 =>
  (xgR M23 (some this) 8 9).bind fun v24 =>
  (xuI M23 v24 v5 (0 : Int32)).bind fun M25 =>
  (xgR M25 (some this) 8 10).bind fun v26 =>
  (xuI M25 v26 v5 (0 : Int32)).bind fun M27 =>
  (xgR M27 (some this) 8 11).bind fun v28 =>
  (xuI M27 v28 v5 (0 : Int32)).bind fun M29 =>
  (xgR M29 (some this) 8 12).bind fun v30 =>
  (xuL M29 v30 v5 (0 : Int64)).bind fun M31 =>
  (xgR M31 (some this) 8 26).bind fun v32 =>
  (xuI M31 v32 v5 (0 : Int32)).bind fun M33 =>
  (xgR M33 (some this) 8 28).bind fun v34 =>
  (xuI M33 v34 v5 (0 : Int32)).bind fun M35 =>
  fM_cache_174  xF M35 (some this) v5 (0 : Int32)
set_option maxRecDepth 20000 in
theorem TfM_cache {M M' : xMem} {r : Int32} (this : xId) (a0 : Int32) (a1 : Int32) (a2 : Int32) (h : fM_cache M this a0 a1 a2 = some (r, M')) : xrun none 2 162 0 ([some (.inr (.inr (some this))), some (.inl a0), some (.inl a1), some (.inl a2), none, none]) ([]) M (some (.inl r), M') := by
  unfold fM_cache at h
  refine xr_iload_n (pc' := 1) rfl rfl rfl ?_
  refine xr_iconst (v := 0) (pc' := 2) rfl (by decide) rfl ?_
  refine xr_iconst (v := 5) (pc' := 3) rfl (by decide) rfl ?_
  obtain ⟨q1, hq1, h⟩ := xbind h
  refine xr_callS (pc' := 6) (As := [_, _, _]) (rest := _) rfl (by decide) mL_163 rfl (Nat.le_of_ble_eq_true rfl) rfl (Nat.le_of_ble_eq_true rfl) (TfM_isIn _ _ _ hq1) rfl ?_
  rcases xite h with ⟨hc, h⟩ | ⟨hc, h⟩
  · refine xr_if_eq_t (t := 32) rfl hc ?_
    refine xr_iconst (v := -1) (pc' := 33) rfl (by decide) rfl ?_
    obtain ⟨rfl, rfl⟩ := xsome2 h
    exact xr_iret rfl mR_162
  · refine xr_if_eq_f (pc' := 9) rfl hc rfl ?_
    refine xr_iload_n (pc' := 10) rfl rfl rfl ?_
    refine xr_bipush (v := 16) (pc' := 12) rfl (by decide) rfl ?_
    refine xr_sipush (v := 400) (pc' := 15) rfl (by decide) rfl ?_
    obtain ⟨q2, hq2, h⟩ := xbind h
    refine xr_callS (pc' := 18) (As := [_, _, _]) (rest := _) rfl (by decide) mL_164 rfl (Nat.le_of_ble_eq_true rfl) rfl (Nat.le_of_ble_eq_true rfl) (TfM_isEights _ _ _ hq2) rfl ?_
    rcases xite h with ⟨hc, h⟩ | ⟨hc, h⟩
    · refine xr_if_eq_t (t := 32) rfl hc ?_
      refine xr_iconst (v := -1) (pc' := 33) rfl (by decide) rfl ?_
      obtain ⟨rfl, rfl⟩ := xsome2 h
      exact xr_iret rfl mR_162
    · refine xr_if_eq_f (pc' := 21) rfl hc rfl ?_
      refine xr_iload_n (pc' := 22) rfl rfl rfl ?_
      refine xr_bipush (v := 8) (pc' := 24) rfl (by decide) rfl ?_
      refine xr_bipush (v := 64) (pc' := 26) rfl (by decide) rfl ?_
      obtain ⟨q3, hq3, h⟩ := xbind h
      refine xr_callS (pc' := 29) (As := [_, _, _]) (rest := _) rfl (by decide) mL_164 rfl (Nat.le_of_ble_eq_true rfl) rfl (Nat.le_of_ble_eq_true rfl) (TfM_isEights _ _ _ hq3) rfl ?_
      rcases xite h with ⟨hc, h⟩ | ⟨hc, h⟩
      · refine xr_if_ne_f (pc' := 32) rfl hc rfl ?_
        refine xr_iconst (v := -1) (pc' := 33) rfl (by decide) rfl ?_
        obtain ⟨rfl, rfl⟩ := xsome2 h
        exact xr_iret rfl mR_162
      · refine xr_if_ne_t (t := 34) rfl hc ?_
        refine xr_aload_n (pc' := 35) rfl rfl rfl ?_
        obtain ⟨v4, hv4, h⟩ := xbind h
        refine xr_getI (pc' := 38) rfl (by decide) hv4 rfl ?_
        refine xr_iconst (v := 4) (pc' := 39) rfl (by decide) rfl ?_
        rcases xite h with ⟨hc, h⟩ | ⟨hc, h⟩
        · refine xr_icmp_ne_f (pc' := 42) rfl hc rfl ?_
          refine xr_bipush (v := -3) (pc' := 44) rfl (by decide) rfl ?_
          obtain ⟨rfl, rfl⟩ := xsome2 h
          exact xr_iret rfl mR_162
        · refine xr_icmp_ne_t (t := 45) rfl hc ?_
          refine xr_aload_n (pc' := 46) rfl rfl rfl ?_
          obtain ⟨v5, hv5, h⟩ := xbind h
          refine xr_getI (pc' := 49) rfl (by decide) hv5 rfl ?_
          refine xr_istore (pc' := 51) rfl rfl rfl ?_
          refine xr_aload_n (pc' := 52) rfl rfl rfl ?_
          obtain ⟨v6, hv6, h⟩ := xbind h
          refine xr_getR (pc' := 55) rfl (by decide) hv6 rfl ?_
          refine xr_iload (pc' := 57) rfl rfl rfl ?_
          refine xr_iload_n (pc' := 58) rfl rfl rfl ?_
          obtain ⟨M7, hM7, h⟩ := xbind h
          refine xr_uI (pc' := 59) rfl hM7 rfl ?_
          refine xr_aload_n (pc' := 60) rfl rfl rfl ?_
          obtain ⟨v8, hv8, h⟩ := xbind h
          refine xr_getR (pc' := 63) rfl (by decide) hv8 rfl ?_
          refine xr_iload (pc' := 65) rfl rfl rfl ?_
          refine xr_iload_n (pc' := 66) rfl rfl rfl ?_
          obtain ⟨M9, hM9, h⟩ := xbind h
          refine xr_uI (pc' := 67) rfl hM9 rfl ?_
          refine xr_aload_n (pc' := 68) rfl rfl rfl ?_
          obtain ⟨v10, hv10, h⟩ := xbind h
          refine xr_getR (pc' := 71) rfl (by decide) hv10 rfl ?_
          refine xr_iload (pc' := 73) rfl rfl rfl ?_
          refine xr_iload_n (pc' := 74) rfl rfl rfl ?_
          obtain ⟨M11, hM11, h⟩ := xbind h
          refine xr_uI (pc' := 75) rfl hM11 rfl ?_
          refine xr_aload_n (pc' := 76) rfl rfl rfl ?_
          obtain ⟨v12, hv12, h⟩ := xbind h
          refine xr_getR (pc' := 79) rfl (by decide) hv12 rfl ?_
          refine xr_iload (pc' := 81) rfl rfl rfl ?_
          refine xr_iconst (v := 2) (pc' := 82) rfl (by decide) rfl ?_
          obtain ⟨M13, hM13, h⟩ := xbind h
          refine xr_uI (pc' := 83) rfl hM13 rfl ?_
          refine xr_aload_n (pc' := 84) rfl rfl rfl ?_
          obtain ⟨v14, hv14, h⟩ := xbind h
          refine xr_getR (pc' := 87) rfl (by decide) hv14 rfl ?_
          refine xr_iload (pc' := 89) rfl rfl rfl ?_
          refine xr_iconst (v := 4) (pc' := 90) rfl (by decide) rfl ?_
          obtain ⟨M15, hM15, h⟩ := xbind h
          refine xr_uI (pc' := 91) rfl hM15 rfl ?_
          refine xr_aload_n (pc' := 92) rfl rfl rfl ?_
          obtain ⟨v16, hv16, h⟩ := xbind h
          refine xr_getR (pc' := 95) rfl (by decide) hv16 rfl ?_
          refine xr_iload (pc' := 97) rfl rfl rfl ?_
          refine xr_iconst (v := 0) (pc' := 98) rfl (by decide) rfl ?_
          obtain ⟨M17, hM17, h⟩ := xbind h
          refine xr_uI (pc' := 99) rfl hM17 rfl ?_
          refine xr_aload_n (pc' := 100) rfl rfl rfl ?_
          obtain ⟨v18, hv18, h⟩ := xbind h
          refine xr_getR (pc' := 103) rfl (by decide) hv18 rfl ?_
          refine xr_iload (pc' := 105) rfl rfl rfl ?_
          refine xr_iconst (v := 0) (pc' := 106) rfl (by decide) rfl ?_
          obtain ⟨M19, hM19, h⟩ := xbind h
          refine xr_uI (pc' := 107) rfl hM19 rfl ?_
          refine xr_aload_n (pc' := 108) rfl rfl rfl ?_
          obtain ⟨v20, hv20, h⟩ := xbind h
          refine xr_getR (pc' := 111) rfl (by decide) hv20 rfl ?_
          refine xr_iload (pc' := 113) rfl rfl rfl ?_
          refine xr_iconst (v := 0) (pc' := 114) rfl (by decide) rfl ?_
          obtain ⟨M21, hM21, h⟩ := xbind h
          refine xr_uI (pc' := 115) rfl hM21 rfl ?_
          refine xr_aload_n (pc' := 116) rfl rfl rfl ?_
          obtain ⟨v22, hv22, h⟩ := xbind h
          refine xr_getR (pc' := 119) rfl (by decide) hv22 rfl ?_
          refine xr_iload (pc' := 121) rfl rfl rfl ?_
          refine xr_iconst (v := 0) (pc' := 122) rfl (by decide) rfl ?_
          obtain ⟨M23, hM23, h⟩ := xbind h
          refine xr_uI (pc' := 123) rfl hM23 rfl ?_
          refine xr_aload_n (pc' := 124) rfl rfl rfl ?_
          obtain ⟨v24, hv24, h⟩ := xbind h
          refine xr_getR (pc' := 127) rfl (by decide) hv24 rfl ?_
          refine xr_iload (pc' := 129) rfl rfl rfl ?_
          refine xr_iconst (v := 0) (pc' := 130) rfl (by decide) rfl ?_
          obtain ⟨M25, hM25, h⟩ := xbind h
          refine xr_uI (pc' := 131) rfl hM25 rfl ?_
          refine xr_aload_n (pc' := 132) rfl rfl rfl ?_
          obtain ⟨v26, hv26, h⟩ := xbind h
          refine xr_getR (pc' := 135) rfl (by decide) hv26 rfl ?_
          refine xr_iload (pc' := 137) rfl rfl rfl ?_
          refine xr_iconst (v := 0) (pc' := 138) rfl (by decide) rfl ?_
          obtain ⟨M27, hM27, h⟩ := xbind h
          refine xr_uI (pc' := 139) rfl hM27 rfl ?_
          refine xr_aload_n (pc' := 140) rfl rfl rfl ?_
          obtain ⟨v28, hv28, h⟩ := xbind h
          refine xr_getR (pc' := 143) rfl (by decide) hv28 rfl ?_
          refine xr_iload (pc' := 145) rfl rfl rfl ?_
          refine xr_iconst (v := 0) (pc' := 146) rfl (by decide) rfl ?_
          obtain ⟨M29, hM29, h⟩ := xbind h
          refine xr_uI (pc' := 147) rfl hM29 rfl ?_
          refine xr_aload_n (pc' := 148) rfl rfl rfl ?_
          obtain ⟨v30, hv30, h⟩ := xbind h
          refine xr_getR (pc' := 151) rfl (by decide) hv30 rfl ?_
          refine xr_iload (pc' := 153) rfl rfl rfl ?_
          refine xr_lconst (v := 0) (pc' := 154) rfl (by decide) rfl ?_
          obtain ⟨M31, hM31, h⟩ := xbind h
          refine xr_uL (pc' := 155) rfl hM31 rfl ?_
          refine xr_aload_n (pc' := 156) rfl rfl rfl ?_
          obtain ⟨v32, hv32, h⟩ := xbind h
          refine xr_getR (pc' := 159) rfl (by decide) hv32 rfl ?_
          refine xr_iload (pc' := 161) rfl rfl rfl ?_
          refine xr_iconst (v := 0) (pc' := 162) rfl (by decide) rfl ?_
          obtain ⟨M33, hM33, h⟩ := xbind h
          refine xr_uI (pc' := 163) rfl hM33 rfl ?_
          refine xr_aload_n (pc' := 164) rfl rfl rfl ?_
          obtain ⟨v34, hv34, h⟩ := xbind h
          refine xr_getR (pc' := 167) rfl (by decide) hv34 rfl ?_
          refine xr_iload (pc' := 169) rfl rfl rfl ?_
          refine xr_iconst (v := 0) (pc' := 170) rfl (by decide) rfl ?_
          obtain ⟨M35, hM35, h⟩ := xbind h
          refine xr_uI (pc' := 171) rfl hM35 rfl ?_
          refine xr_iconst (v := 0) (pc' := 172) rfl (by decide) rfl ?_
          refine xr_istore (pc' := 174) rfl rfl rfl ?_
          exact TfM_cache_174   xF M35 _ _ _ _ _ _ h
