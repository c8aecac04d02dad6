/-! shallow functions of the methods (by program, out of the bytecode), and that a run is what they say -/
-- 166: MagazineDepotModel.isCache(I)Z
def fM_isCache (M : xMem) (this : xId) (a0 : Int32) : Option (Int32 × xMem) :=
  (xgI M (some this) 8 13).bind fun v1 =>
  (fM_isIn M a0 (0 : Int32) (v1 - (1 : Int32))).bind fun q2 =>
  if q2.1 = 0 ∨ q2.1 = 1 then some (q2.1, q2.2) else none
set_option maxRecDepth 20000 in
theorem TfM_isCache {M M' : xMem} {r : Int32} (this : xId) (a0 : Int32) (h : fM_isCache M this a0 = some (r, M')) : xrun none 1 166 0 ([some (.inr (.inr (some this))), some (.inl a0)]) ([]) M (some (.inl r), M') := by
  unfold fM_isCache at h
  refine xr_iload_n (pc' := 1) rfl rfl rfl ?_
  refine xr_iconst (v := 0) (pc' := 2) rfl (by decide) rfl ?_
  refine xr_aload_n (pc' := 3) rfl rfl rfl ?_
  obtain ⟨v1, hv1, h⟩ := xbind h
  refine xr_getI (pc' := 6) rfl (by decide) hv1 rfl ?_
  refine xr_iconst (v := 1) (pc' := 7) rfl (by decide) rfl ?_
  refine xr_isub (pc' := 8) rfl rfl ?_
  obtain ⟨q2, hq2, h⟩ := xbind h
  refine xr_callS (pc' := 11) (As := [_, _, _]) (rest := _) rfl (by decide) mL_163 rfl (Nat.le_of_ble_eq_true rfl) rfl (Nat.le_of_ble_eq_true rfl) (TfM_isIn _ _ _ hq2) rfl ?_
  rcases xite h with ⟨hc, h⟩ | ⟨hc, h⟩
  · obtain ⟨rfl, rfl⟩ := xsome2 h
    exact xr_zret rfl mR_166 hc
  · cases h
-- 165: MagazineDepotModel.limit(II)I
def fM_limit (M : xMem) (this : xId) (a0 : Int32) (a1 : Int32) : Option (Int32 × xMem) :=
  (xob M (some this) 8).bind fun u1 =>
  (fM_isCache M u1 a0).bind fun q2 =>
  if q2.1 = 0 then (
    some ((-1 : Int32), q2.2))
  else
  (fM_isIn q2.2 a1 (0 : Int32) (99 : Int32)).bind fun q3 =>
  if q3.1 = 0 then (
    some ((-1 : Int32), q3.2))
  else
  (xgR q3.2 (some this) 8 4).bind fun v4 =>
  (xaI q3.2 v4 a0).bind fun v5 =>
  (xgR q3.2 (some this) 8 4).bind fun v6 =>
  (xuI q3.2 v6 a0 a1).bind fun M7 =>
  some (v5, M7)
set_option maxRecDepth 20000 in
theorem TfM_limit {M M' : xMem} {r : Int32} (this : xId) (a0 : Int32) (a1 : Int32) (h : fM_limit M this a0 a1 = some (r, M')) : xrun none 2 165 0 ([some (.inr (.inr (some this))), some (.inl a0), some (.inl a1), none]) ([]) M (some (.inl r), M') := by
  unfold fM_limit at h
  refine xr_aload_n (pc' := 1) rfl rfl rfl ?_
  refine xr_iload_n (pc' := 2) rfl rfl rfl ?_
  obtain ⟨u1, hu1, h⟩ := xbind h
  obtain ⟨q2, hq2, h⟩ := xbind h
  refine xr_callV (pc' := 5) (C := 8) (As := [_]) (rest := _) rfl hu1 mC_166 mL_166 rfl (Nat.le_of_ble_eq_true rfl) rfl (Nat.le_of_ble_eq_true rfl) (TfM_isCache _ _ hq2) rfl ?_
  rcases xite h with ⟨hc, h⟩ | ⟨hc, h⟩
  · refine xr_if_eq_t (t := 18) rfl hc ?_
    refine xr_iconst (v := -1) (pc' := 19) rfl (by decide) rfl ?_
    obtain ⟨rfl, rfl⟩ := xsome2 h
    exact xr_iret rfl mR_165
  · refine xr_if_eq_f (pc' := 8) rfl hc rfl ?_
    refine xr_iload_n (pc' := 9) rfl rfl rfl ?_
    refine xr_iconst (v := 0) (pc' := 10) rfl (by decide) rfl ?_
    refine xr_bipush (v := 99) (pc' := 12) rfl (by decide) rfl ?_
    obtain ⟨q3, hq3, h⟩ := xbind h
    refine xr_callS (pc' := 15) (As := [_, _, _]) (rest := _) rfl (by decide) mL_163 rfl (Nat.le_of_ble_eq_true rfl) rfl (Nat.le_of_ble_eq_true rfl) (TfM_isIn _ _ _ hq3) rfl ?_
    rcases xite h with ⟨hc, h⟩ | ⟨hc, h⟩
    · refine xr_if_ne_f (pc' := 18) rfl hc rfl ?_
      refine xr_iconst (v := -1) (pc' := 19) rfl (by decide) rfl ?_
      obtain ⟨rfl, rfl⟩ := xsome2 h
      exact xr_iret rfl mR_165
    · refine xr_if_ne_t (t := 20) rfl hc ?_
      refine xr_aload_n (pc' := 21) rfl rfl rfl ?_
      obtain ⟨v4, hv4, h⟩ := xbind h
      refine xr_getR (pc' := 24) rfl (by decide) hv4 rfl ?_
      refine xr_iload_n (pc' := 25) rfl rfl rfl ?_
      obtain ⟨v5, hv5, h⟩ := xbind h
      refine xr_aI (pc' := 26) rfl hv5 rfl ?_
      refine xr_istore_n (pc' := 27) rfl rfl rfl ?_
      refine xr_aload_n (pc' := 28) rfl rfl rfl ?_
      obtain ⟨v6, hv6, h⟩ := xbind h
      refine xr_getR (pc' := 31) rfl (by decide) hv6 rfl ?_
      refine xr_iload_n (pc' := 32) rfl rfl rfl ?_
      refine xr_iload_n (pc' := 33) rfl rfl rfl ?_
      obtain ⟨M7, hM7, h⟩ := xbind h
      refine xr_uI (pc' := 34) rfl hM7 rfl ?_
      refine xr_iload_n (pc' := 35) rfl rfl rfl ?_
      obtain ⟨rfl, rfl⟩ := xsome2 h
      exact xr_iret rfl mR_165
-- 168: MagazineDepotModel.isProcessor(I)Z
def fM_isProcessor (M : xMem) (a0 : Int32) : Option (Int32 × xMem) :=
  (fM_isIn M a0 (0 : Int32) (3 : Int32)).bind fun q1 =>
  if q1.1 = 0 ∨ q1.1 = 1 then some (q1.1, q1.2) else none
set_option maxRecDepth 20000 in
theorem TfM_isProcessor {M M' : xMem} {r : Int32} (a0 : Int32) (h : fM_isProcessor M a0 = some (r, M')) : xrun none 1 168 0 ([some (.inl a0)]) ([]) M (some (.inl r), M') := by
  unfold fM_isProcessor at h
  refine xr_iload_n (pc' := 1) rfl rfl rfl ?_
  refine xr_iconst (v := 0) (pc' := 2) rfl (by decide) rfl ?_
  refine xr_iconst (v := 3) (pc' := 3) rfl (by decide) rfl ?_
  obtain ⟨q1, hq1, h⟩ := xbind h
  refine xr_callS (pc' := 6) (As := [_, _, _]) (rest := _) rfl (by decide) mL_163 rfl (Nat.le_of_ble_eq_true rfl) rfl (Nat.le_of_ble_eq_true rfl) (TfM_isIn _ _ _ hq1) rfl ?_
  rcases xite h with ⟨hc, h⟩ | ⟨hc, h⟩
  · obtain ⟨rfl, rfl⟩ := xsome2 h
    exact xr_zret rfl mR_168 hc
  · cases h
-- 170: MagazineDepotModel.hasSome(I)Z
def fM_hasSome (M : xMem) (this : xId) (a0 : Int32) : Option (Int32 × xMem) :=
  if a0 < 0 then (
    some ((0 : Int32), M))
  else
  (xgR M (some this) 8 23).bind fun v1 =>
  (xaI M v1 a0).bind fun v2 =>
  if v2 ≤ 0 then (
    some ((0 : Int32), M))
  else
  some ((1 : Int32), M)
set_option maxRecDepth 20000 in
theorem TfM_hasSome {M M' : xMem} {r : Int32} (this : xId) (a0 : Int32) (h : fM_hasSome M this a0 = some (r, M')) : xrun none 0 170 0 ([some (.inr (.inr (some this))), some (.inl a0)]) ([]) M (some (.inl r), M') := by
  unfold fM_hasSome at h
  refine xr_iload_n (pc' := 1) rfl rfl rfl ?_
  rcases xite h with ⟨hc, h⟩ | ⟨hc, h⟩
  · refine xr_if_lt_t (t := 17) rfl hc ?_
    refine xr_iconst (v := 0) (pc' := 18) rfl (by decide) rfl ?_
    obtain ⟨rfl, rfl⟩ := xsome2 h
    exact xr_zret rfl mR_170 (by decide)
  · refine xr_if_lt_f (pc' := 4) rfl hc rfl ?_
    refine xr_aload_n (pc' := 5) rfl rfl rfl ?_
    obtain ⟨v1, hv1, h⟩ := xbind h
    refine xr_getR (pc' := 8) rfl (by decide) hv1 rfl ?_
    refine xr_iload_n (pc' := 9) rfl rfl rfl ?_
    obtain ⟨v2, hv2, h⟩ := xbind h
    refine xr_aI (pc' := 10) rfl hv2 rfl ?_
    rcases xite h with ⟨hc, h⟩ | ⟨hc, h⟩
    · refine xr_if_le_t (t := 17) rfl hc ?_
      refine xr_iconst (v := 0) (pc' := 18) rfl (by decide) rfl ?_
      obtain ⟨rfl, rfl⟩ := xsome2 h
      exact xr_zret rfl mR_170 (by decide)
    · refine xr_if_le_f (pc' := 13) rfl hc rfl ?_
      refine xr_iconst (v := 1) (pc' := 14) rfl (by decide) rfl ?_
      refine xr_goto (t := 18) rfl ?_
      obtain ⟨rfl, rfl⟩ := xsome2 h
      exact xr_zret rfl mR_170 (by decide)
-- 172: MagazineDepotModel.latestOf(I)I
def fM_latestOf (M : xMem) (this : xId) (a0 : Int32) : Option (Int32 × xMem) :=
  (xgR M (some this) 8 24).bind fun v1 =>
  (xgR M (some this) 8 23).bind fun v2 =>
  (xaI M v2 a0).bind fun v3 =>
  (xaI M v1 ((((8 : Int32) * a0) + v3) - (1 : Int32))).bind fun v4 =>
  some (v4, M)
set_option maxRecDepth 20000 in
theorem TfM_latestOf {M M' : xMem} {r : Int32} (this : xId) (a0 : Int32) (h : fM_latestOf M this a0 = some (r, M')) : xrun none 0 172 0 ([some (.inr (.inr (some this))), some (.inl a0)]) ([]) M (some (.inl r), M') := by
  unfold fM_latestOf at h
  refine xr_aload_n (pc' := 1) rfl rfl rfl ?_
  obtain ⟨v1, hv1, h⟩ := xbind h
  refine xr_getR (pc' := 4) rfl (by decide) hv1 rfl ?_
  refine xr_bipush (v := 8) (pc' := 6) rfl (by decide) rfl ?_
  refine xr_iload_n (pc' := 7) rfl rfl rfl ?_
  refine xr_imul (pc' := 8) rfl rfl ?_
  refine xr_aload_n (pc' := 9) rfl rfl rfl ?_
  obtain ⟨v2, hv2, h⟩ := xbind h
  refine xr_getR (pc' := 12) rfl (by decide) hv2 rfl ?_
  refine xr_iload_n (pc' := 13) rfl rfl rfl ?_
  obtain ⟨v3, hv3, h⟩ := xbind h
  refine xr_aI (pc' := 14) rfl hv3 rfl ?_
  refine xr_iadd (pc' := 15) rfl rfl ?_
  refine xr_iconst (v := 1) (pc' := 16) rfl (by decide) rfl ?_
  refine xr_isub (pc' := 17) rfl rfl ?_
  obtain ⟨v4, hv4, h⟩ := xbind h
  refine xr_aI (pc' := 18) rfl hv4 rfl ?_
  obtain ⟨rfl, rfl⟩ := xsome2 h
  exact xr_iret rfl mR_172
-- 171: MagazineDepotModel.takesLatest(I)I
def fM_takesLatest (M : xMem) (this : xId) (a0 : Int32) : Option (Int32 × xMem) :=
  (xob M (some this) 8).bind fun u1 =>
  (fM_latestOf M u1 a0).bind fun q2 =>
  (xgR q2.2 (some this) 8 23).bind fun v3 =>
  (xaI q2.2 v3 a0).bind fun v4 =>
  (xuI q2.2 v3 a0 (v4 - (1 : Int32))).bind fun M5 =>
  (xgR M5 (some this) 8 18).bind fun v6 =>
  (xuI M5 v6 q2.1 (1 : Int32)).bind fun M7 =>
  some (q2.1, M7)
set_option maxRecDepth 20000 in
theorem TfM_takesLatest {M M' : xMem} {r : Int32} (this : xId) (a0 : Int32) (h : fM_takesLatest M this a0 = some (r, M')) : xrun none 1 171 0 ([some (.inr (.inr (some this))), some (.inl a0), none]) ([]) M (some (.inl r), M') := by
  unfold fM_takesLatest at h
  refine xr_aload_n (pc' := 1) rfl rfl rfl ?_
  refine xr_iload_n (pc' := 2) rfl rfl rfl ?_
  obtain ⟨u1, hu1, h⟩ := xbind h
  obtain ⟨q2, hq2, h⟩ := xbind h
  refine xr_callV (pc' := 5) (C := 8) (As := [_]) (rest := _) rfl hu1 mC_172 mL_172 rfl (Nat.le_of_ble_eq_true rfl) rfl (Nat.le_of_ble_eq_true rfl) (TfM_latestOf _ _ hq2) rfl ?_
  refine xr_istore_n (pc' := 6) rfl rfl rfl ?_
  refine xr_aload_n (pc' := 7) rfl rfl rfl ?_
  obtain ⟨v3, hv3, h⟩ := xbind h
  refine xr_getR (pc' := 10) rfl (by decide) hv3 rfl ?_
  refine xr_iload_n (pc' := 11) rfl rfl rfl ?_
  refine xr_dup2_ia (pc' := 12) rfl rfl ?_
  obtain ⟨v4, hv4, h⟩ := xbind h
  refine xr_aI (pc' := 13) rfl hv4 rfl ?_
  refine xr_iconst (v := 1) (pc' := 14) rfl (by decide) rfl ?_
  refine xr_isub (pc' := 15) rfl rfl ?_
  obtain ⟨M5, hM5, h⟩ := xbind h
  refine xr_uI (pc' := 16) rfl hM5 rfl ?_
  refine xr_aload_n (pc' := 17) rfl rfl rfl ?_
  obtain ⟨v6, hv6, h⟩ := xbind h
  refine xr_getR (pc' := 20) rfl (by decide) hv6 rfl ?_
  refine xr_iload_n (pc' := 21) rfl rfl rfl ?_
  refine xr_iconst (v := 1) (pc' := 22) rfl (by decide) rfl ?_
  obtain ⟨M7, hM7, h⟩ := xbind h
  refine xr_uI (pc' := 23) rfl hM7 rfl ?_
  refine xr_iload_n (pc' := 24) rfl rfl rfl ?_
  obtain ⟨rfl, rfl⟩ := xsome2 h
  exact xr_iret rfl mR_171
-- 173: MagazineDepotModel.exchanges(I)V
def fM_exchanges (M : xMem) (this : xId) (a0 : Int32) : Option xMem :=
  (xgR M (some this) 8 20).bind fun v1 =>
  (xaI M v1 a0).bind fun v2 =>
  (xgR M (some this) 8 20).bind fun v3 =>
  (xgR M (some this) 8 21).bind fun v4 =>
  (xaI M v4 a0).bind fun v5 =>
  (xuI M v3 a0 v5).bind fun M6 =>
  (xgR M6 (some this) 8 21).bind fun v7 =>
  (xuI M6 v7 a0 v2).bind fun M8 =>
  some M8
set_option maxRecDepth 20000 in
theorem TfM_exchanges {M M' : xMem} (this : xId) (a0 : Int32) (h : fM_exchanges M this a0 = some M') : xrun none 0 173 0 ([some (.inr (.inr (some this))), some (.inl a0), none]) ([]) M (none, M') := by
  unfold fM_exchanges at h
  refine xr_aload_n (pc' := 1) rfl rfl rfl ?_
  obtain ⟨v1, hv1, h⟩ := xbind h
  refine xr_getR (pc' := 4) rfl (by decide) hv1 rfl ?_
  refine xr_iload_n (pc' := 5) rfl rfl rfl ?_
  obtain ⟨v2, hv2, h⟩ := xbind h
  refine xr_aI (pc' := 6) rfl hv2 rfl ?_
  refine xr_istore_n (pc' := 7) rfl rfl rfl ?_
  refine xr_aload_n (pc' := 8) rfl rfl rfl ?_
  obtain ⟨v3, hv3, h⟩ := xbind h
  refine xr_getR (pc' := 11) rfl (by decide) hv3 rfl ?_
  refine xr_iload_n (pc' := 12) rfl rfl rfl ?_
  refine xr_aload_n (pc' := 13) rfl rfl rfl ?_
  obtain ⟨v4, hv4, h⟩ := xbind h
  refine xr_getR (pc' := 16) rfl (by decide) hv4 rfl ?_
  refine xr_iload_n (pc' := 17) rfl rfl rfl ?_
  obtain ⟨v5, hv5, h⟩ := xbind h
  refine xr_aI (pc' := 18) rfl hv5 rfl ?_
  obtain ⟨M6, hM6, h⟩ := xbind h
  refine xr_uI (pc' := 19) rfl hM6 rfl ?_
  refine xr_aload_n (pc' := 20) rfl rfl rfl ?_
  obtain ⟨v7, hv7, h⟩ := xbind h
  refine xr_getR (pc' := 23) rfl (by decide) hv7 rfl ?_
  refine xr_iload_n (pc' := 24) rfl rfl rfl ?_
  refine xr_iload_n (pc' := 25) rfl rfl rfl ?_
  obtain ⟨M8, hM8, h⟩ := xbind h
  refine xr_uI (pc' := 26) rfl hM8 rfl ?_
  obtain rfl := xsome1 h
  exact xr_ret rfl mR_173
-- 177: MagazineDepotModel.per(I)I
def fM_per (M : xMem) (this : xId) (a0 : Int32) : Option (Int32 × xMem) :=
  (xgR M (some this) 8 1).bind fun v1 =>
  (xaI M v1 a0).bind fun v2 =>
  if v2 = 0 then none else
  some (((992 : Int32) / v2), M)
set_option maxRecDepth 20000 in
theorem TfM_per {M M' : xMem} {r : Int32} (this : xId) (a0 : Int32) (h : fM_per M this a0 = some (r, M')) : xrun none 0 177 0 ([some (.inr (.inr (some this))), some (.inl a0)]) ([]) M (some (.inl r), M') := by
  unfold fM_per at h
  refine xr_sipush (v := 992) (pc' := 3) rfl (by decide) rfl ?_
  refine xr_aload_n (pc' := 4) rfl rfl rfl ?_
  obtain ⟨v1, hv1, h⟩ := xbind h
  refine xr_getR (pc' := 7) rfl (by decide) hv1 rfl ?_
  refine xr_iload_n (pc' := 8) rfl rfl rfl ?_
  obtain ⟨v2, hv2, h⟩ := xbind h
  refine xr_aI (pc' := 9) rfl hv2 rfl ?_
  rcases xite h with ⟨hc, h⟩ | ⟨hc, h⟩
  · cases h
  refine xr_idiv (pc' := 10) rfl hc rfl ?_
  obtain ⟨rfl, rfl⟩ := xsome2 h
  exact xr_iret rfl mR_177
-- 176: MagazineDepotModel.freeIn(I)I
def fM_freeIn_2  : Nat → xMem → Option xId → Int32 → Int32 → Option (Int32 × xMem)
  | 0, _, _, _, _ => none
  | n + 1, M, l0, l1, l2 =>
    (xgR M l0 8 16).bind fun v1 =>
    (xaI M v1 l1).bind fun v2 =>
    (xob M l0 8).bind fun u3 =>
    (fM_per M u3 v2).bind fun q4 =>
    if q4.1 ≤ l2 then (
      some ((-9 : Int32), q4.2))
    else
    (xgR q4.2 l0 8 18).bind fun v5 =>
    (xaI q4.2 v5 (((62 : Int32) * l1) + l2)).bind fun v6 =>
    if v6 = 0 then (
      some ((((62 : Int32) * l1) + l2), q4.2))
    else
    fM_freeIn_2  n q4.2 l0 l1 (l2 + 1)
set_option maxRecDepth 20000 in
theorem TfM_freeIn_2 {M' : xMem} {r : Int32}  : ∀ (n : Nat) (M : xMem) (l0 : Option xId) (l1 : Int32) (l2 : Int32) , fM_freeIn_2  n M l0 l1 l2 = some (r, M') → xrun none 1 176 2 ([some (.inr (.inr l0)), some (.inl l1), some (.inl l2)]) ([]) M (some (.inl r), M') := by
  intro n
  induction n with
  | zero => intro M l0 l1 l2  h; unfold fM_freeIn_2 at h; cases h
  | succ n ih =>
    intro M l0 l1 l2  h
    unfold fM_freeIn_2 at h
    refine xr_iload_n (pc' := 3) rfl rfl rfl ?_
    refine xr_aload_n (pc' := 4) rfl rfl rfl ?_
    refine xr_aload_n (pc' := 5) rfl rfl rfl ?_
    obtain ⟨v1, hv1, h⟩ := xbind h
    refine xr_getR (pc' := 8) rfl (by decide) hv1 rfl ?_
    refine xr_iload_n (pc' := 9) rfl rfl rfl ?_
    obtain ⟨v2, hv2, h⟩ := xbind h
    refine xr_aI (pc' := 10) rfl hv2 rfl ?_
    obtain ⟨u3, hu3, h⟩ := xbind h
    obtain ⟨q4, hq4, h⟩ := xbind h
    refine xr_callV (pc' := 13) (C := 8) (As := [_]) (rest := _) rfl hu3 mC_177 mL_177 rfl (Nat.le_of_ble_eq_true rfl) rfl (Nat.le_of_ble_eq_true rfl) (TfM_per _ _ hq4) rfl ?_
    rcases xite h with ⟨hc, h⟩ | ⟨hc, h⟩
    · refine xr_icmp_ge_t (t := 43) rfl hc ?_
      refine xr_bipush (v := -9) (pc' := 45) rfl (by decide) rfl ?_
      obtain ⟨rfl, rfl⟩ := xsome2 h
      exact xr_iret rfl mR_176
    · refine xr_icmp_ge_f (pc' := 16) rfl hc rfl ?_
      refine xr_aload_n (pc' := 17) rfl rfl rfl ?_
      obtain ⟨v5, hv5, h⟩ := xbind h
      refine xr_getR (pc' := 20) rfl (by decide) hv5 rfl ?_
      refine xr_bipush (v := 62) (pc' := 22) rfl (by decide) rfl ?_
      refine xr_iload_n (pc' := 23) rfl rfl rfl ?_
      refine xr_imul (pc' := 24) rfl rfl ?_
      refine xr_iload_n (pc' := 25) rfl rfl rfl ?_
      refine xr_iadd (pc' := 26) rfl rfl ?_
      obtain ⟨v6, hv6, h⟩ := xbind h
      refine xr_aI (pc' := 27) rfl hv6 rfl ?_
      rcases xite h with ⟨hc, h⟩ | ⟨hc, h⟩
      · refine xr_if_ne_f (pc' := 30) rfl hc rfl ?_
        refine xr_bipush (v := 62) (pc' := 32) rfl (by decide) rfl ?_
        refine xr_iload_n (pc' := 33) rfl rfl rfl ?_
        refine xr_imul (pc' := 34) rfl rfl ?_
        refine xr_iload_n (pc' := 35) rfl rfl rfl ?_
        refine xr_iadd (pc' := 36) rfl rfl ?_
        obtain ⟨rfl, rfl⟩ := xsome2 h
        exact xr_iret rfl mR_176
      · refine xr_if_ne_t (t := 37) rfl hc ?_
        refine xr_iinc (c := 1) (pc' := 40) rfl (by decide) rfl rfl rfl ?_
        refine xr_goto (t := 2) rfl ?_
        exact ih q4.2 _ _ _  h
def fM_freeIn (M : xMem) (this : xId) (a0 : Int32) : Option (Int32 × xMem) :=
  fM_freeIn_2  xF M (some this) a0 (0 : Int32)
set_option maxRecDepth 20000 in
theorem TfM_freeIn {M M' : xMem} {r : Int32} (this : xId) (a0 : Int32) (h : fM_freeIn M this a0 = some (r, M')) : xrun none 1 176 0 ([some (.inr (.inr (some this))), some (.inl a0), none]) ([]) M (some (.inl r), M') := by
  unfold fM_freeIn at h
  refine xr_iconst (v := 0) (pc' := 1) rfl (by decide) rfl ?_
  refine xr_istore_n (pc' := 2) rfl rfl rfl ?_
  exact TfM_freeIn_2   xF M _ _ _  h
-- 175: MagazineDepotModel.firstFree(I)I
def fM_firstFree_33 (k2 : xMem → Option xId → Int32 → Int32 → Option (Int32 × xMem)) (M : xMem) (l0 : Option xId) (l1 : Int32) (l2 : Int32)  : Option (Int32 × xMem) :=
  k2 M l0 l1 (l2 + 1)
set_option maxRecDepth 20000 in
theorem TfM_firstFree_33 {M' : xMem} {r : Int32} (k2 : xMem → Option xId → Int32 → Int32 → Option (Int32 × xMem)) (hk2 : ∀ (M : xMem) (l0 : Option xId) (l1 : Int32) (l2 : Int32) (o3 : Option xVal), k2 M l0 l1 l2 = some (r, M') → xrun none 2 175 2 ([some (.inr (.inr l0)), some (.inl l1), some (.inl l2), o3]) ([]) M (some (.inl r), M')) (M : xMem) (l0 : Option xId) (l1 : Int32) (l2 : Int32)  (o3 : Option xVal) (h : fM_firstFree_33 k2 M l0 l1 l2  = some (r, M')) : xrun none 2 175 33 ([some (.inr (.inr l0)), some (.inl l1), some (.inl l2), o3]) ([]) M (some (.inl r), M') := by
  unfold fM_firstFree_33 at h
  refine xr_iinc (c := 1) (pc' := 36) rfl (by decide) rfl rfl rfl ?_
  refine xr_goto (t := 2) rfl ?_
  exact hk2 M _ _ _ _ h
def fM_firstFree_2  : Nat → xMem → Option xId → Int32 → Int32 → Option (Int32 × xMem)
  | 0, _, _, _, _ => none
  | n + 1, M, l0, l1, l2 =>
    if (32 : Int32) ≤ l2 then (
      some ((-9 : Int32), M))
    else
    (xgR M l0 8 16).bind fun v1 =>
    (xaI M v1 l2).bind fun v2 =>
    if v2 = l1 then (
      (xob M l0 8).bind fun u3 =>
      (fM_freeIn M u3 l2).bind fun q4 =>
      if q4.1 < 0 then (
        fM_firstFree_33 (fun M l0 l1 l2 => fM_firstFree_2  n M l0 l1 l2) q4.2 l0 l1 l2 )
      else
      some (q4.1, q4.2))
    else
    fM_firstFree_33 (fun M l0 l1 l2 => fM_firstFree_2  n M l0 l1 l2) M l0 l1 l2 
set_option maxRecDepth 20000 in
theorem TfM_firstFree_2 {M' : xMem} {r : Int32}  : ∀ (n : Nat) (M : xMem) (l0 : Option xId) (l1 : Int32) (l2 : Int32) (o3 : Option xVal), fM_firstFree_2  n M l0 l1 l2 = some (r, M') → xrun none 2 175 2 ([some (.inr (.inr l0)), some (.inl l1), some (.inl l2), o3]) ([]) M (some (.inl r), M') := by
  intro n
  induction n with
  | zero => intro M l0 l1 l2 o3 h; unfold fM_firstFree_2 at h; cases h
  | succ n ih =>
    intro M l0 l1 l2 o3 h
    unfold fM_firstFree_2 at h
    refine xr_iload_n (pc' := 3) rfl rfl rfl ?_
    refine xr_bipush (v := 32) (pc' := 5) rfl (by decide) rfl ?_
    rcases xite h with ⟨hc, h⟩ | ⟨hc, h⟩
    · refine xr_icmp_ge_t (t := 39) rfl hc ?_
      refine xr_bipush (v := -9) (pc' := 41) rfl (by decide) rfl ?_
      obtain ⟨rfl, rfl⟩ := xsome2 h
      exact xr_iret rfl mR_175
    · refine xr_icmp_ge_f (pc' := 8) rfl hc rfl ?_
      refine xr_aload_n (pc' := 9) rfl rfl rfl ?_
      obtain ⟨v1, hv1, h⟩ := xbind h
      refine xr_getR (pc' := 12) rfl (by decide) hv1 rfl ?_
      refine xr_iload_n (pc' := 13) rfl rfl rfl ?_
      obtain ⟨v2, hv2, h⟩ := xbind h
      refine xr_aI (pc' := 14) rfl hv2 rfl ?_
      refine xr_iload_n (pc' := 15) rfl rfl rfl ?_
      rcases xite h with ⟨hc, h⟩ | ⟨hc, h⟩
      · refine xr_icmp_eq_t (t := 21) rfl hc ?_
        refine xr_aload_n (pc' := 22) rfl rfl rfl ?_
        refine xr_iload_n (pc' := 23) rfl rfl rfl ?_
        obtain ⟨u3, hu3, h⟩ := xbind h
        obtain ⟨q4, hq4, h⟩ := xbind h
        refine xr_callV (pc' := 26) (C := 8) (As := [_]) (rest := _) rfl hu3 mC_176 mL_176 rfl (Nat.le_of_ble_eq_true rfl) rfl (Nat.le_of_ble_eq_true rfl) (TfM_freeIn _ _ hq4) rfl ?_
        refine xr_istore_n (pc' := 27) rfl rfl rfl ?_
        refine xr_iload_n (pc' := 28) rfl rfl rfl ?_
        rcases xite h with ⟨hc, h⟩ | ⟨hc, h⟩
        · refine xr_if_lt_t (t := 33) rfl hc ?_
          exact TfM_firstFree_33 _ (fun M l0 l1 l2 o3 h => ih M l0 l1 l2 o3 h) q4.2 _ _ _  _ h
        · refine xr_if_lt_f (pc' := 31) rfl hc rfl ?_
          refine xr_iload_n (pc' := 32) rfl rfl rfl ?_
          obtain ⟨rfl, rfl⟩ := xsome2 h
          exact xr_iret rfl mR_175
      · refine xr_icmp_eq_f (pc' := 18) rfl hc rfl ?_
        refine xr_goto (t := 33) rfl ?_
        exact TfM_firstFree_33 _ (fun M l0 l1 l2 o3 h => ih M l0 l1 l2 o3 h) M _ _ _  _ h
def fM_firstFree (M : xMem) (this : xId) (a0 : Int32) : Option (Int32 × xMem) :=
  fM_firstFree_2  xF M (some this) a0 (0 : Int32)
set_option maxRecDepth 20000 in
theorem TfM_firstFree {M M' : xMem} {r : Int32} (this : xId) (a0 : Int32) (h : fM_firstFree M this a0 = some (r, M')) : xrun none 2 175 0 ([some (.inr (.inr (some this))), some (.inl a0), none, none]) ([]) M (some (.inl r), M') := by
  unfold fM_firstFree at h
  refine xr_iconst (v := 0) (pc' := 1) rfl (by decide) rfl ?_
  refine xr_istore_n (pc' := 2) rfl rfl rfl ?_
  exact TfM_firstFree_2   xF M _ _ _ _ h
-- 179: MagazineDepotModel.freePage()I
def fM_freePage_2  : Nat → xMem → Option xId → Int32 → Option (Int32 × xMem)
  | 0, _, _, _ => none
  | n + 1, M, l0, l1 =>
    if (32 : Int32) ≤ l1 then (
      some ((-9 : Int32), M))
    else
    (xgR M l0 8 16).bind fun v1 =>
    (xaI M v1 l1).bind fun v2 =>
    if 0 ≤ v2 then (
      fM_freePage_2  n M l0 (l1 + 1))
    else
    some (l1, M)
set_option maxRecDepth 20000 in
theorem TfM_freePage_2 {M' : xMem} {r : Int32}  : ∀ (n : Nat) (M : xMem) (l0 : Option xId) (l1 : Int32) , fM_freePage_2  n M l0 l1 = some (r, M') → xrun none 0 179 2 ([some (.inr (.inr l0)), some (.inl l1)]) ([]) M (some (.inl r), M') := by
  intro n
  induction n with
  | zero => intro M l0 l1  h; unfold fM_freePage_2 at h; cases h
  | succ n ih =>
    intro M l0 l1  h
    unfold fM_freePage_2 at h
    refine xr_iload_n (pc' := 3) rfl rfl rfl ?_
    refine xr_bipush (v := 32) (pc' := 5) rfl (by decide) rfl ?_
    rcases xite h with ⟨hc, h⟩ | ⟨hc, h⟩
    · refine xr_icmp_ge_t (t := 25) rfl hc ?_
      refine xr_bipush (v := -9) (pc' := 27) rfl (by decide) rfl ?_
      obtain ⟨rfl, rfl⟩ := xsome2 h
      exact xr_iret rfl mR_179
    · refine xr_icmp_ge_f (pc' := 8) rfl hc rfl ?_
      refine xr_aload_n (pc' := 9) rfl rfl rfl ?_
      obtain ⟨v1, hv1, h⟩ := xbind h
      refine xr_getR (pc' := 12) rfl (by decide) hv1 rfl ?_
      refine xr_iload_n (pc' := 13) rfl rfl rfl ?_
      obtain ⟨v2, hv2, h⟩ := xbind h
      refine xr_aI (pc' := 14) rfl hv2 rfl ?_
      rcases xite h with ⟨hc, h⟩ | ⟨hc, h⟩
      · refine xr_if_ge_t (t := 19) rfl hc ?_
        refine xr_iinc (c := 1) (pc' := 22) rfl (by decide) rfl rfl rfl ?_
        refine xr_goto (t := 2) rfl ?_
        exact ih M _ _  h
      · refine xr_if_ge_f (pc' := 17) rfl hc rfl ?_
        refine xr_iload_n (pc' := 18) rfl rfl rfl ?_
        obtain ⟨rfl, rfl⟩ := xsome2 h
        exact xr_iret rfl mR_179
def fM_freePage (M : xMem) (this : xId) : Option (Int32 × xMem) :=
  fM_freePage_2  xF M (some this) (0 : Int32)
set_option maxRecDepth 20000 in
theorem TfM_freePage {M M' : xMem} {r : Int32} (this : xId) (h : fM_freePage M this = some (r, M')) : xrun none 0 179 0 ([some (.inr (.inr (some this))), none]) ([]) M (some (.inl r), M') := by
  unfold fM_freePage at h
  refine xr_iconst (v := 0) (pc' := 1) rfl (by decide) rfl ?_
  refine xr_istore_n (pc' := 2) rfl rfl rfl ?_
  exact TfM_freePage_2   xF M _ _  h
-- 180: MagazineDepotModel.tailOf(II)I
def fM_tailOf (M : xMem) (this : xId) (a0 : Int32) (a1 : Int32) : Option (Int32 × xMem) :=
  (xob M (some this) 8).bind fun u1 =>
  (fM_per M u1 a0).bind fun q2 =>
  (xgR q2.2 (some this) 8 1).bind fun v3 =>
  (xaI q2.2 v3 a0).bind fun v4 =>
  some ((((992 : Int32) - a1) - (q2.1 * v4)), q2.2)
set_option maxRecDepth 20000 in
theorem TfM_tailOf {M M' : xMem} {r : Int32} (this : xId) (a0 : Int32) (a1 : Int32) (h : fM_tailOf M this a0 a1 = some (r, M')) : xrun none 1 180 0 ([some (.inr (.inr (some this))), some (.inl a0), some (.inl a1)]) ([]) M (some (.inl r), M') := by
  unfold fM_tailOf at h
  refine xr_sipush (v := 992) (pc' := 3) rfl (by decide) rfl ?_
  refine xr_iload_n (pc' := 4) rfl rfl rfl ?_
  refine xr_isub (pc' := 5) rfl rfl ?_
  refine xr_aload_n (pc' := 6) rfl rfl rfl ?_
  refine xr_iload_n (pc' := 7) rfl rfl rfl ?_
  obtain ⟨u1, hu1, h⟩ := xbind h
  obtain ⟨q2, hq2, h⟩ := xbind h
  refine xr_callV (pc' := 10) (C := 8) (As := [_]) (rest := _) rfl hu1 mC_177 mL_177 rfl (Nat.le_of_ble_eq_true rfl) rfl (Nat.le_of_ble_eq_true rfl) (TfM_per _ _ hq2) rfl ?_
  refine xr_aload_n (pc' := 11) rfl rfl rfl ?_
  obtain ⟨v3, hv3, h⟩ := xbind h
  refine xr_getR (pc' := 14) rfl (by decide) hv3 rfl ?_
  refine xr_iload_n (pc' := 15) rfl rfl rfl ?_
  obtain ⟨v4, hv4, h⟩ := xbind h
  refine xr_aI (pc' := 16) rfl hv4 rfl ?_
  refine xr_imul (pc' := 17) rfl rfl ?_
  refine xr_isub (pc' := 18) rfl rfl ?_
  obtain ⟨rfl, rfl⟩ := xsome2 h
  exact xr_iret rfl mR_180
-- 178: MagazineDepotModel.newSlab(I)I
def fM_newSlab_100  (M : xMem) (l2 : Int32) (s0 : Option xId) (s1 : Int32) (s2 : Int32) : Option (Int32 × xMem) :=
  (xuI M s0 s1 s2).bind fun M22 =>
  some (((62 : Int32) * l2), M22)
set_option maxRecDepth 20000 in
theorem TfM_newSlab_100 {M' : xMem} {r : Int32}  (M : xMem) (l2 : Int32) (s0 : Option xId) (s1 : Int32) (s2 : Int32) (o0 : Option xId) (o1 : Int32) (o3 : Int32) (h : fM_newSlab_100  M l2 s0 s1 s2 = some (r, M')) : xrun none 2 178 100 ([some (.inr (.inr o0)), some (.inl o1), some (.inl l2), some (.inl o3)]) ([.inl s2, .inl s1, .inr (.inr s0)]) M (some (.inl r), M') := by
  unfold fM_newSlab_100 at h
  obtain ⟨M22, hM22, h⟩ := xbind h
  refine xr_uI (pc' := 101) rfl hM22 rfl ?_
  refine xr_bipush (v := 62) (pc' := 103) rfl (by decide) rfl ?_
  refine xr_iload_n (pc' := 104) rfl rfl rfl ?_
  refine xr_imul (pc' := 105) rfl rfl ?_
  obtain ⟨rfl, rfl⟩ := xsome2 h
  exact xr_iret rfl mR_178
def fM_newSlab_33  : Nat → xMem → Option xId → Int32 → Int32 → Int32 → Option (Int32 × xMem)
  | 0, _, _, _, _, _ => none
  | n + 1, M, l0, l1, l2, l3 =>
    if (62 : Int32) ≤ l3 then (
      (xgR M l0 8 9).bind fun v9 =>
      (xgR M l0 8 9).bind fun v10 =>
      (xaI M v10 l1).bind fun v11 =>
      (xgR M l0 8 2).bind fun v12 =>
      (xaI M v12 l1).bind fun v13 =>
      (xob M l0 8).bind fun u14 =>
      (fM_tailOf M u14 l1 (v11 + v13)).bind fun q15 =>
      if q15.1 < 0 then (
        fM_newSlab_100  q15.2 l2 v9 l1 (0 : Int32))
      else
      (xgR q15.2 l0 8 9).bind fun v16 =>
      (xaI q15.2 v16 l1).bind fun v17 =>
      (xgR q15.2 l0 8 2).bind fun v18 =>
      (xaI q15.2 v18 l1).bind fun v19 =>
      fM_newSlab_100  q15.2 l2 v9 l1 (v17 + v19))
    else
    (xgR M l0 8 18).bind fun v20 =>
    (xuI M v20 (((62 : Int32) * l2) + l3) (0 : Int32)).bind fun M21 =>
    fM_newSlab_33  n M21 l0 l1 l2 (l3 + 1)
set_option maxRecDepth 20000 in
theorem TfM_newSlab_33 {M' : xMem} {r : Int32}  : ∀ (n : Nat) (M : xMem) (l0 : Option xId) (l1 : Int32) (l2 : Int32) (l3 : Int32) , fM_newSlab_33  n M l0 l1 l2 l3 = some (r, M') → xrun none 2 178 33 ([some (.inr (.inr l0)), some (.inl l1), some (.inl l2), some (.inl l3)]) ([]) M (some (.inl r), M') := by
  intro n
  induction n with
  | zero => intro M l0 l1 l2 l3  h; unfold fM_newSlab_33 at h; cases h
  | succ n ih =>
    intro M l0 l1 l2 l3  h
    unfold fM_newSlab_33 at h
    refine xr_iload_n (pc' := 34) rfl rfl rfl ?_
    refine xr_bipush (v := 62) (pc' := 36) rfl (by decide) rfl ?_
    rcases xite h with ⟨hc, h⟩ | ⟨hc, h⟩
    · refine xr_icmp_ge_t (t := 57) rfl hc ?_
      refine xr_aload_n (pc' := 58) rfl rfl rfl ?_
      obtain ⟨v9, hv9, h⟩ := xbind h
      refine xr_getR (pc' := 61) rfl (by decide) hv9 rfl ?_
      refine xr_iload_n (pc' := 62) rfl rfl rfl ?_
      refine xr_aload_n (pc' := 63) rfl rfl rfl ?_
      refine xr_iload_n (pc' := 64) rfl rfl rfl ?_
      refine xr_aload_n (pc' := 65) rfl rfl rfl ?_
      obtain ⟨v10, hv10, h⟩ := xbind h
      refine xr_getR (pc' := 68) rfl (by decide) hv10 rfl ?_
      refine xr_iload_n (pc' := 69) rfl rfl rfl ?_
      obtain ⟨v11, hv11, h⟩ := xbind h
      refine xr_aI (pc' := 70) rfl hv11 rfl ?_
      refine xr_aload_n (pc' := 71) rfl rfl rfl ?_
      obtain ⟨v12, hv12, h⟩ := xbind h
      refine xr_getR (pc' := 74) rfl (by decide) hv12 rfl ?_
      refine xr_iload_n (pc' := 75) rfl rfl rfl ?_
      obtain ⟨v13, hv13, h⟩ := xbind h
      refine xr_aI (pc' := 76) rfl hv13 rfl ?_
      refine xr_iadd (pc' := 77) rfl rfl ?_
      obtain ⟨u14, hu14, h⟩ := xbind h
      obtain ⟨q15, hq15, h⟩ := xbind h
      refine xr_callV (pc' := 80) (C := 8) (As := [_, _]) (rest := _) rfl hu14 mC_180 mL_180 rfl (Nat.le_of_ble_eq_true rfl) rfl (Nat.le_of_ble_eq_true rfl) (TfM_tailOf _ _ _ hq15) rfl ?_
      rcases xite h with ⟨hc, h⟩ | ⟨hc, h⟩
      · refine xr_if_lt_t (t := 99) rfl hc ?_
        refine xr_iconst (v := 0) (pc' := 100) rfl (by decide) rfl ?_
        exact TfM_newSlab_100   q15.2 _ _ _ _ _ _ _ h
      · refine xr_if_lt_f (pc' := 83) rfl hc rfl ?_
        refine xr_aload_n (pc' := 84) rfl rfl rfl ?_
        obtain ⟨v16, hv16, h⟩ := xbind h
        refine xr_getR (pc' := 87) rfl (by decide) hv16 rfl ?_
        refine xr_iload_n (pc' := 88) rfl rfl rfl ?_
        obtain ⟨v17, hv17, h⟩ := xbind h
        refine xr_aI (pc' := 89) rfl hv17 rfl ?_
        refine xr_aload_n (pc' := 90) rfl rfl rfl ?_
        obtain ⟨v18, hv18, h⟩ := xbind h
        refine xr_getR (pc' := 93) rfl (by decide) hv18 rfl ?_
        refine xr_iload_n (pc' := 94) rfl rfl rfl ?_
        obtain ⟨v19, hv19, h⟩ := xbind h
        refine xr_aI (pc' := 95) rfl hv19 rfl ?_
        refine xr_iadd (pc' := 96) rfl rfl ?_
        refine xr_goto (t := 100) rfl ?_
        exact TfM_newSlab_100   q15.2 _ _ _ _ _ _ _ h
    · refine xr_icmp_ge_f (pc' := 39) rfl hc rfl ?_
      refine xr_aload_n (pc' := 40) rfl rfl rfl ?_
      obtain ⟨v20, hv20, h⟩ := xbind h
      refine xr_getR (pc' := 43) rfl (by decide) hv20 rfl ?_
      refine xr_bipush (v := 62) (pc' := 45) rfl (by decide) rfl ?_
      refine xr_iload_n (pc' := 46) rfl rfl rfl ?_
      refine xr_imul (pc' := 47) rfl rfl ?_
      refine xr_iload_n (pc' := 48) rfl rfl rfl ?_
      refine xr_iadd (pc' := 49) rfl rfl ?_
      refine xr_iconst (v := 0) (pc' := 50) rfl (by decide) rfl ?_
      obtain ⟨M21, hM21, h⟩ := xbind h
      refine xr_uI (pc' := 51) rfl hM21 rfl ?_
      refine xr_iinc (c := 1) (pc' := 54) rfl (by decide) rfl rfl rfl ?_
      refine xr_goto (t := 33) rfl ?_
      exact ih M21 _ _ _ _  h
def fM_newSlab (M : xMem) (this : xId) (a0 : Int32) : Option (Int32 × xMem) :=
  (xob M (some this) 8).bind fun u1 =>
  (fM_freePage M u1 ).bind fun q2 =>
  if 0 ≤ q2.1 then (
    (xgR q2.2 (some this) 8 16).bind fun v3 =>
    (xuI q2.2 v3 q2.1 a0).bind fun M4 =>
    (xgR M4 (some this) 8 17).bind fun v5 =>
    (xgR M4 (some this) 8 9).bind fun v6 =>
    (xaI M4 v6 a0).bind fun v7 =>
    (xuI M4 v5 q2.1 v7).bind fun M8 =>
    fM_newSlab_33  xF M8 (some this) a0 q2.1 (0 : Int32))
  else
  some ((-9 : Int32), q2.2)
set_option maxRecDepth 20000 in
theorem TfM_newSlab {M M' : xMem} {r : Int32} (this : xId) (a0 : Int32) (h : fM_newSlab M this a0 = some (r, M')) : xrun none 2 178 0 ([some (.inr (.inr (some this))), some (.inl a0), none, none]) ([]) M (some (.inl r), M') := by
  unfold fM_newSlab at h
  refine xr_aload_n (pc' := 1) rfl rfl rfl ?_
  obtain ⟨u1, hu1, h⟩ := xbind h
  obtain ⟨q2, hq2, h⟩ := xbind h
  refine xr_callV (pc' := 4) (C := 8) (As := []) (rest := _) rfl hu1 mC_179 mL_179 rfl (Nat.le_of_ble_eq_true rfl) rfl (Nat.le_of_ble_eq_true rfl) (TfM_freePage _  hq2) rfl ?_
  refine xr_istore_n (pc' := 5) rfl rfl rfl ?_
  refine xr_iload_n (pc' := 6) rfl rfl rfl ?_
  rcases xite h with ⟨hc, h⟩ | ⟨hc, h⟩
  · refine xr_if_ge_t (t := 12) rfl hc ?_
    refine xr_aload_n (pc' := 13) rfl rfl rfl ?_
    obtain ⟨v3, hv3, h⟩ := xbind h
    refine xr_getR (pc' := 16) rfl (by decide) hv3 rfl ?_
    refine xr_iload_n (pc' := 17) rfl rfl rfl ?_
    refine xr_iload_n (pc' := 18) rfl rfl rfl ?_
    obtain ⟨M4, hM4, h⟩ := xbind h
    refine xr_uI (pc' := 19) rfl hM4 rfl ?_
    refine xr_aload_n (pc' := 20) rfl rfl rfl ?_
    obtain ⟨v5, hv5, h⟩ := xbind h
    refine xr_getR (pc' := 23) rfl (by decide) hv5 rfl ?_
    refine xr_iload_n (pc' := 24) rfl rfl rfl ?_
    refine xr_aload_n (pc' := 25) rfl rfl rfl ?_
    obtain ⟨v6, hv6, h⟩ := xbind h
    refine xr_getR (pc' := 28) rfl (by decide) hv6 rfl ?_
    refine xr_iload_n (pc' := 29) rfl rfl rfl ?_
    obtain ⟨v7, hv7, h⟩ := xbind h
    refine xr_aI (pc' := 30) rfl hv7 rfl ?_
    obtain ⟨M8, hM8, h⟩ := xbind h
    refine xr_uI (pc' := 31) rfl hM8 rfl ?_
    refine xr_iconst (v := 0) (pc' := 32) rfl (by decide) rfl ?_
    refine xr_istore_n (pc' := 33) rfl rfl rfl ?_
    exact TfM_newSlab_33   xF M8 _ _ _ _  h
  · refine xr_if_ge_f (pc' := 9) rfl hc rfl ?_
    refine xr_bipush (v := -9) (pc' := 11) rfl (by decide) rfl ?_
    obtain ⟨rfl, rfl⟩ := xsome2 h
    exact xr_iret rfl mR_178
-- 181: MagazineDepotModel.addressOf(I)I
def fM_addressOf (M : xMem) (this : xId) (a0 : Int32) : Option (Int32 × xMem) :=
  (xgR M (some this) 8 17).bind fun v1 =>
  (xaI M v1 (a0 / (62 : Int32))).bind fun v2 =>
  (xgR M (some this) 8 1).bind fun v3 =>
  (xgR M (some this) 8 16).bind fun v4 =>
  (xaI M v4 (a0 / (62 : Int32))).bind fun v5 =>
  (xaI M v3 v5).bind fun v6 =>
  some ((((((1024 : Int32) * (a0 / (62 : Int32))) + (32 : Int32)) + v2) + ((a0 - a0 / (62 : Int32) * (62 : Int32)) * v6)), M)
set_option maxRecDepth 20000 in
theorem TfM_addressOf {M M' : xMem} {r : Int32} (this : xId) (a0 : Int32) (h : fM_addressOf M this a0 = some (r, M')) : xrun none 0 181 0 ([some (.inr (.inr (some this))), some (.inl a0), none]) ([]) M (some (.inl r), M') := by
  unfold fM_addressOf at h
  refine xr_iload_n (pc' := 1) rfl rfl rfl ?_
  refine xr_bipush (v := 62) (pc' := 3) rfl (by decide) rfl ?_
  refine xr_idiv (pc' := 4) rfl (by decide) rfl ?_
  refine xr_istore_n (pc' := 5) rfl rfl rfl ?_
  refine xr_sipush (v := 1024) (pc' := 8) rfl (by decide) rfl ?_
  refine xr_iload_n (pc' := 9) rfl rfl rfl ?_
  refine xr_imul (pc' := 10) rfl rfl ?_
  refine xr_bipush (v := 32) (pc' := 12) rfl (by decide) rfl ?_
  refine xr_iadd (pc' := 13) rfl rfl ?_
  refine xr_aload_n (pc' := 14) rfl rfl rfl ?_
  obtain ⟨v1, hv1, h⟩ := xbind h
  refine xr_getR (pc' := 17) rfl (by decide) hv1 rfl ?_
  refine xr_iload_n (pc' := 18) rfl rfl rfl ?_
  obtain ⟨v2, hv2, h⟩ := xbind h
  refine xr_aI (pc' := 19) rfl hv2 rfl ?_
  refine xr_iadd (pc' := 20) rfl rfl ?_
  refine xr_iload_n (pc' := 21) rfl rfl rfl ?_
  refine xr_bipush (v := 62) (pc' := 23) rfl (by decide) rfl ?_
  refine xr_irem (pc' := 24) rfl (by decide) rfl ?_
  refine xr_aload_n (pc' := 25) rfl rfl rfl ?_
  obtain ⟨v3, hv3, h⟩ := xbind h
  refine xr_getR (pc' := 28) rfl (by decide) hv3 rfl ?_
  refine xr_aload_n (pc' := 29) rfl rfl rfl ?_
  obtain ⟨v4, hv4, h⟩ := xbind h
  refine xr_getR (pc' := 32) rfl (by decide) hv4 rfl ?_
  refine xr_iload_n (pc' := 33) rfl rfl rfl ?_
  obtain ⟨v5, hv5, h⟩ := xbind h
  refine xr_aI (pc' := 34) rfl hv5 rfl ?_
  obtain ⟨v6, hv6, h⟩ := xbind h
  refine xr_aI (pc' := 35) rfl hv6 rfl ?_
  refine xr_imul (pc' := 36) rfl rfl ?_
  refine xr_iadd (pc' := 37) rfl rfl ?_
  obtain ⟨rfl, rfl⟩ := xsome2 h
  exact xr_iret rfl mR_181
-- 182: MagazineDepotModel.makes(II)I
def fM_makes_63  (M : xMem) (l1 : Int32)  : Option (Int32 × xMem) :=
  some ((l1 &&& (255 : Int32)), M)
set_option maxRecDepth 20000 in
theorem TfM_makes_63 {M' : xMem} {r : Int32}  (M : xMem) (l1 : Int32)  (o0 : Int32) (h : fM_makes_63  M l1  = some (r, M')) : xrun none 0 182 63 ([some (.inl o0), some (.inl l1)]) ([]) M (some (.inl r), M') := by
  unfold fM_makes_63 at h
  refine xr_iload_n (pc' := 64) rfl rfl rfl ?_
  refine xr_sipush (v := 255) (pc' := 67) rfl (by decide) rfl ?_
  refine xr_iand (pc' := 68) rfl rfl ?_
  obtain ⟨rfl, rfl⟩ := xsome2 h
  exact xr_iret rfl mR_182
def fM_makes (M : xMem) (a0 : Int32) (a1 : Int32) : Option (Int32 × xMem) :=
  if a0 = 1 then (
    some ((0 : Int32), M))
  else
  if a0 = 2 then (
    some ((xushr a1 (3 : Int32)), M))
  else
  if a0 = 3 then (
    some ((((xushr a1 (3 : Int32)) <<< ((5 : Int32) &&& 31)) ||| (xushr (xushr a1 (3 : Int32)) (27 : Int32))), M))
  else
  if a0 = 5 then (
    some (((a1 &&& (255 : Int32)) <<< ((1 : Int32) &&& 31)), M))
  else
  fM_makes_63  M a1 
set_option maxRecDepth 20000 in
theorem TfM_makes {M M' : xMem} {r : Int32} (a0 : Int32) (a1 : Int32) (h : fM_makes M a0 a1 = some (r, M')) : xrun none 0 182 0 ([some (.inl a0), some (.inl a1)]) ([]) M (some (.inl r), M') := by
  unfold fM_makes at h
  refine xr_iload_n (pc' := 1) rfl rfl rfl ?_
  rcases xite h with ⟨hc1_1, h⟩ | ⟨hc1_1, h⟩
  · refine xr_tsw_in (t := 36) rfl (by rw [hc1_1]; decide) (by rw [hc1_1]; rfl) (by decide) ?_
    refine xr_iconst (v := 0) (pc' := 37) rfl (by decide) rfl ?_
    obtain ⟨rfl, rfl⟩ := xsome2 h
    exact xr_iret rfl mR_182
  rcases xite h with ⟨hc1_2, h⟩ | ⟨hc1_2, h⟩
  · refine xr_tsw_in (t := 38) rfl (by rw [hc1_2]; decide) (by rw [hc1_2]; rfl) (by decide) ?_
    refine xr_iload_n (pc' := 39) rfl rfl rfl ?_
    refine xr_iconst (v := 3) (pc' := 40) rfl (by decide) rfl ?_
    refine xr_iushr (pc' := 41) rfl rfl ?_
    obtain ⟨rfl, rfl⟩ := xsome2 h
    exact xr_iret rfl mR_182
  rcases xite h with ⟨hc1_3, h⟩ | ⟨hc1_3, h⟩
  · refine xr_tsw_in (t := 42) rfl (by rw [hc1_3]; decide) (by rw [hc1_3]; rfl) (by decide) ?_
    refine xr_iload_n (pc' := 43) rfl rfl rfl ?_
    refine xr_iconst (v := 3) (pc' := 44) rfl (by decide) rfl ?_
    refine xr_iushr (pc' := 45) rfl rfl ?_
    refine xr_iconst (v := 5) (pc' := 46) rfl (by decide) rfl ?_
    refine xr_ishl (pc' := 47) rfl rfl ?_
    refine xr_iload_n (pc' := 48) rfl rfl rfl ?_
    refine xr_iconst (v := 3) (pc' := 49) rfl (by decide) rfl ?_
    refine xr_iushr (pc' := 50) rfl rfl ?_
    refine xr_bipush (v := 27) (pc' := 52) rfl (by decide) rfl ?_
    refine xr_iushr (pc' := 53) rfl rfl ?_
    refine xr_ior (pc' := 54) rfl rfl ?_
    obtain ⟨rfl, rfl⟩ := xsome2 h
    exact xr_iret rfl mR_182
  rcases xite h with ⟨hc1_5, h⟩ | ⟨hc1_5, h⟩
  · refine xr_tsw_in (t := 55) rfl (by rw [hc1_5]; decide) (by rw [hc1_5]; rfl) (by decide) ?_
    refine xr_iload_n (pc' := 56) rfl rfl rfl ?_
    refine xr_sipush (v := 255) (pc' := 59) rfl (by decide) rfl ?_
    refine xr_iand (pc' := 60) rfl rfl ?_
    refine xr_iconst (v := 1) (pc' := 61) rfl (by decide) rfl ?_
    refine xr_ishl (pc' := 62) rfl rfl ?_
    obtain ⟨rfl, rfl⟩ := xsome2 h
    exact xr_iret rfl mR_182
  by_cases hd1_4 : a0 = 4
  · refine xr_tsw_in (t := 63) rfl (by rw [hd1_4]; decide) (by rw [hd1_4]; rfl) (by decide) ?_
    exact TfM_makes_63   M _  _ h
  have hc1_1 := lv_neT hc1_1 (by decide : (1 : Int32).toInt = 1)
  have hc1_2 := lv_neT hc1_2 (by decide : (2 : Int32).toInt = 2)
  have hc1_3 := lv_neT hc1_3 (by decide : (3 : Int32).toInt = 3)
  have hc1_5 := lv_neT hc1_5 (by decide : (5 : Int32).toInt = 5)
  have hd1_4 := lv_neT hd1_4 (by decide : (4 : Int32).toInt = 4)
  refine xr_tsw_out (t := 63) rfl (by omega) (by decide) ?_
  exact TfM_makes_63   M _  _ h
-- 174: MagazineDepotModel.comesOut(I)I
def fM_comesOut_16  (M : xMem) (l0 : Option xId) (l1 : Int32) (l2 : Int32)  : Option (Int32 × xMem) :=
  if 0 ≤ l2 then (
    (xgR M l0 8 19).bind fun v5 =>
    (xgR M l0 8 0).bind fun v6 =>
    (xaI M v6 l1).bind fun v7 =>
    (xob M l0 8).bind fun u8 =>
    (fM_addressOf M u8 l2).bind fun q9 =>
    (fM_makes q9.2 v7 q9.1).bind fun q10 =>
    (xuI q10.2 v5 l2 q10.1).bind fun M11 =>
    (xgR M11 l0 8 18).bind fun v12 =>
    (xuI M11 v12 l2 (1 : Int32)).bind fun M13 =>
    (xgR M13 l0 8 10).bind fun v14 =>
    (xaI M13 v14 l1).bind fun v15 =>
    (xuI M13 v14 l1 (v15 + (1 : Int32))).bind fun M16 =>
    some (l2, M16))
  else
  some ((-9 : Int32), M)
set_option maxRecDepth 20000 in
theorem TfM_comesOut_16 {M' : xMem} {r : Int32}  (M : xMem) (l0 : Option xId) (l1 : Int32) (l2 : Int32)   (h : fM_comesOut_16  M l0 l1 l2  = some (r, M')) : xrun none 3 174 16 ([some (.inr (.inr l0)), some (.inl l1), some (.inl l2)]) ([]) M (some (.inl r), M') := by
  unfold fM_comesOut_16 at h
  refine xr_iload_n (pc' := 17) rfl rfl rfl ?_
  rcases xite h with ⟨hc, h⟩ | ⟨hc, h⟩
  · refine xr_if_ge_t (t := 23) rfl hc ?_
    refine xr_aload_n (pc' := 24) rfl rfl rfl ?_
    obtain ⟨v5, hv5, h⟩ := xbind h
    refine xr_getR (pc' := 27) rfl (by decide) hv5 rfl ?_
    refine xr_iload_n (pc' := 28) rfl rfl rfl ?_
    refine xr_aload_n (pc' := 29) rfl rfl rfl ?_
    obtain ⟨v6, hv6, h⟩ := xbind h
    refine xr_getR (pc' := 32) rfl (by decide) hv6 rfl ?_
    refine xr_iload_n (pc' := 33) rfl rfl rfl ?_
    obtain ⟨v7, hv7, h⟩ := xbind h
    refine xr_aI (pc' := 34) rfl hv7 rfl ?_
    refine xr_aload_n (pc' := 35) rfl rfl rfl ?_
    refine xr_iload_n (pc' := 36) rfl rfl rfl ?_
    obtain ⟨u8, hu8, h⟩ := xbind h
    obtain ⟨q9, hq9, h⟩ := xbind h
    refine xr_callV (pc' := 39) (C := 8) (As := [_]) (rest := _) rfl hu8 mC_181 mL_181 rfl (Nat.le_of_ble_eq_true rfl) rfl (Nat.le_of_ble_eq_true rfl) (TfM_addressOf _ _ hq9) rfl ?_
    obtain ⟨q10, hq10, h⟩ := xbind h
    refine xr_callS (pc' := 42) (As := [_, _]) (rest := _) rfl (by decide) mL_182 rfl (Nat.le_of_ble_eq_true rfl) rfl (Nat.le_of_ble_eq_true rfl) (TfM_makes _ _ hq10) rfl ?_
    obtain ⟨M11, hM11, h⟩ := xbind h
    refine xr_uI (pc' := 43) rfl hM11 rfl ?_
    refine xr_aload_n (pc' := 44) rfl rfl rfl ?_
    obtain ⟨v12, hv12, h⟩ := xbind h
    refine xr_getR (pc' := 47) rfl (by decide) hv12 rfl ?_
    refine xr_iload_n (pc' := 48) rfl rfl rfl ?_
    refine xr_iconst (v := 1) (pc' := 49) rfl (by decide) rfl ?_
    obtain ⟨M13, hM13, h⟩ := xbind h
    refine xr_uI (pc' := 50) rfl hM13 rfl ?_
    refine xr_aload_n (pc' := 51) rfl rfl rfl ?_
    obtain ⟨v14, hv14, h⟩ := xbind h
    refine xr_getR (pc' := 54) rfl (by decide) hv14 rfl ?_
    refine xr_iload_n (pc' := 55) rfl rfl rfl ?_
    refine xr_dup2_ia (pc' := 56) rfl rfl ?_
    obtain ⟨v15, hv15, h⟩ := xbind h
    refine xr_aI (pc' := 57) rfl hv15 rfl ?_
    refine xr_iconst (v := 1) (pc' := 58) rfl (by decide) rfl ?_
    refine xr_iadd (pc' := 59) rfl rfl ?_
    obtain ⟨M16, hM16, h⟩ := xbind h
    refine xr_uI (pc' := 60) rfl hM16 rfl ?_
    refine xr_iload_n (pc' := 61) rfl rfl rfl ?_
    obtain ⟨rfl, rfl⟩ := xsome2 h
    exact xr_iret rfl mR_174
  · refine xr_if_ge_f (pc' := 20) rfl hc rfl ?_
    refine xr_bipush (v := -9) (pc' := 22) rfl (by decide) rfl ?_
    obtain ⟨rfl, rfl⟩ := xsome2 h
    exact xr_iret rfl mR_174
def fM_comesOut (M : xMem) (this : xId) (a0 : Int32) : Option (Int32 × xMem) :=
  (xob M (some this) 8).bind fun u1 =>
  (fM_firstFree M u1 a0).bind fun q2 =>
  if 0 ≤ q2.1 then (
    fM_comesOut_16  q2.2 (some this) a0 q2.1 )
  else
  (xob q2.2 (some this) 8).bind fun u3 =>
  (fM_newSlab q2.2 u3 a0).bind fun q4 =>
  fM_comesOut_16  q4.2 (some this) a0 q4.1 
set_option maxRecDepth 20000 in
theorem TfM_comesOut {M M' : xMem} {r : Int32} (this : xId) (a0 : Int32) (h : fM_comesOut M this a0 = some (r, M')) : xrun none 3 174 0 ([some (.inr (.inr (some this))), some (.inl a0), none]) ([]) M (some (.inl r), M') := by
  unfold fM_comesOut at h
  refine xr_aload_n (pc' := 1) rfl rfl rfl ?_
  refine xr_iload_n (pc' := 2) rfl rfl rfl ?_
  obtain ⟨u1, hu1, h⟩ := xbind h
  obtain ⟨q2, hq2, h⟩ := xbind h
  refine xr_callV (pc' := 5) (C := 8) (As := [_]) (rest := _) rfl hu1 mC_175 mL_175 rfl (Nat.le_of_ble_eq_true rfl) rfl (Nat.le_of_ble_eq_true rfl) (TfM_firstFree _ _ hq2) rfl ?_
  refine xr_istore_n (pc' := 6) rfl rfl rfl ?_
  refine xr_iload_n (pc' := 7) rfl rfl rfl ?_
  rcases xite h with ⟨hc, h⟩ | ⟨hc, h⟩
  · refine xr_if_ge_t (t := 16) rfl hc ?_
    exact TfM_comesOut_16   q2.2 _ _ _   h
  · refine xr_if_ge_f (pc' := 10) rfl hc rfl ?_
    refine xr_aload_n (pc' := 11) rfl rfl rfl ?_
    refine xr_iload_n (pc' := 12) rfl rfl rfl ?_
    obtain ⟨u3, hu3, h⟩ := xbind h
    obtain ⟨q4, hq4, h⟩ := xbind h
    refine xr_callV (pc' := 15) (C := 8) (As := [_]) (rest := _) rfl hu3 mC_178 mL_178 rfl (Nat.le_of_ble_eq_true rfl) rfl (Nat.le_of_ble_eq_true rfl) (TfM_newSlab _ _ hq4) rfl ?_
    refine xr_istore_n (pc' := 16) rfl rfl rfl ?_
    exact TfM_comesOut_16   q4.2 _ _ _   h
-- 183: MagazineDepotModel.visit(I)V
def fM_visit (M : xMem) (this : xId) (a0 : Int32) : Option xMem :=
  (xgR M (some this) 8 5).bind fun v1 =>
  (xaI M v1 a0).bind fun v2 =>
  (xuI M v1 a0 (v2 + (1 : Int32))).bind fun M3 =>
  (xgI M3 (some this) 8 15).bind fun v4 =>
  (xpI M3 (some this) 8 15 (v4 + (1 : Int32))).bind fun M5 =>
  some M5
set_option maxRecDepth 20000 in
theorem TfM_visit {M M' : xMem} (this : xId) (a0 : Int32) (h : fM_visit M this a0 = some M') : xrun none 0 183 0 ([some (.inr (.inr (some this))), some (.inl a0)]) ([]) M (none, M') := by
  unfold fM_visit at h
  refine xr_aload_n (pc' := 1) rfl rfl rfl ?_
  obtain ⟨v1, hv1, h⟩ := xbind h
  refine xr_getR (pc' := 4) rfl (by decide) hv1 rfl ?_
  refine xr_iload_n (pc' := 5) rfl rfl rfl ?_
  refine xr_dup2_ia (pc' := 6) rfl rfl ?_
  obtain ⟨v2, hv2, h⟩ := xbind h
  refine xr_aI (pc' := 7) rfl hv2 rfl ?_
  refine xr_iconst (v := 1) (pc' := 8) rfl (by decide) rfl ?_
  refine xr_iadd (pc' := 9) rfl rfl ?_
  obtain ⟨M3, hM3, h⟩ := xbind h
  refine xr_uI (pc' := 10) rfl hM3 rfl ?_
  refine xr_aload_n (pc' := 11) rfl rfl rfl ?_
  refine xr_dup_a (pc' := 12) rfl rfl ?_
  obtain ⟨v4, hv4, h⟩ := xbind h
  refine xr_getI (pc' := 15) rfl (by decide) hv4 rfl ?_
  refine xr_iconst (v := 1) (pc' := 16) rfl (by decide) rfl ?_
  refine xr_iadd (pc' := 17) rfl rfl ?_
  obtain ⟨M5, hM5, h⟩ := xbind h
  refine xr_putI (pc' := 20) rfl (by decide) hM5 rfl ?_
  obtain rfl := xsome1 h
  exact xr_ret rfl mR_183
-- 184: MagazineDepotModel.fetches([I[I[II)I
def fM_fetches_33  (M : xMem) (l1 : Option xId) (l2 : Option xId) (l4 : Int32) (s0 : Option xId) (s1 : Int32) (s2 : Int32) : Option (Int32 × xMem) :=
  (xuI M s0 s1 s2).bind fun M7 =>
  (xaI M7 l2 l4).bind fun v8 =>
  (xaI M7 l1 (((24 : Int32) * l4) + v8)).bind fun v9 =>
  some (v9, M7)
set_option maxRecDepth 20000 in
theorem TfM_fetches_33 {M' : xMem} {r : Int32}  (M : xMem) (l1 : Option xId) (l2 : Option xId) (l4 : Int32) (s0 : Option xId) (s1 : Int32) (s2 : Int32) (o0 : Option xId) (o3 : Option xId) (h : fM_fetches_33  M l1 l2 l4 s0 s1 s2 = some (r, M')) : xrun none 0 184 33 ([some (.inr (.inr o0)), some (.inr (.inr l1)), some (.inr (.inr l2)), some (.inr (.inr o3)), some (.inl l4)]) ([.inl s2, .inl s1, .inr (.inr s0)]) M (some (.inl r), M') := by
  unfold fM_fetches_33 at h
  obtain ⟨M7, hM7, h⟩ := xbind h
  refine xr_uI (pc' := 34) rfl hM7 rfl ?_
  refine xr_aload_n (pc' := 35) rfl rfl rfl ?_
  refine xr_bipush (v := 24) (pc' := 37) rfl (by decide) rfl ?_
  refine xr_iload (pc' := 39) rfl rfl rfl ?_
  refine xr_imul (pc' := 40) rfl rfl ?_
  refine xr_aload_n (pc' := 41) rfl rfl rfl ?_
  refine xr_iload (pc' := 43) rfl rfl rfl ?_
  obtain ⟨v8, hv8, h⟩ := xbind h
  refine xr_aI (pc' := 44) rfl hv8 rfl ?_
  refine xr_iadd (pc' := 45) rfl rfl ?_
  obtain ⟨v9, hv9, h⟩ := xbind h
  refine xr_aI (pc' := 46) rfl hv9 rfl ?_
  obtain ⟨rfl, rfl⟩ := xsome2 h
  exact xr_iret rfl mR_184
def fM_fetches (M : xMem) (this : xId) (a0 : Option xId) (a1 : Option xId) (a2 : Option xId) (a3 : Int32) : Option (Int32 × xMem) :=
  (xaI M a1 a3).bind fun v1 =>
  (xuI M a1 a3 (v1 - (1 : Int32))).bind fun M2 =>
  (xaI M2 a1 a3).bind fun v3 =>
  (xaI M2 a2 a3).bind fun v4 =>
  if v4 ≤ v3 then (
    (xaI M2 a2 a3).bind fun v5 =>
    fM_fetches_33  M2 a0 a1 a3 a2 a3 v5)
  else
  (xaI M2 a1 a3).bind fun v6 =>
  fM_fetches_33  M2 a0 a1 a3 a2 a3 v6
set_option maxRecDepth 20000 in
theorem TfM_fetches {M M' : xMem} {r : Int32} (this : xId) (a0 : Option xId) (a1 : Option xId) (a2 : Option xId) (a3 : Int32) (h : fM_fetches M this a0 a1 a2 a3 = some (r, M')) : xrun none 0 184 0 ([some (.inr (.inr (some this))), some (.inr (.inr a0)), some (.inr (.inr a1)), some (.inr (.inr a2)), some (.inl a3)]) ([]) M (some (.inl r), M') := by
  unfold fM_fetches at h
  refine xr_aload_n (pc' := 1) rfl rfl rfl ?_
  refine xr_iload (pc' := 3) rfl rfl rfl ?_
  refine xr_dup2_ia (pc' := 4) rfl rfl ?_
  obtain ⟨v1, hv1, h⟩ := xbind h
  refine xr_aI (pc' := 5) rfl hv1 rfl ?_
  refine xr_iconst (v := 1) (pc' := 6) rfl (by decide) rfl ?_
  refine xr_isub (pc' := 7) rfl rfl ?_
  obtain ⟨M2, hM2, h⟩ := xbind h
  refine xr_uI (pc' := 8) rfl hM2 rfl ?_
  refine xr_aload_n (pc' := 9) rfl rfl rfl ?_
  refine xr_iload (pc' := 11) rfl rfl rfl ?_
  refine xr_aload_n (pc' := 12) rfl rfl rfl ?_
  refine xr_iload (pc' := 14) rfl rfl rfl ?_
  obtain ⟨v3, hv3, h⟩ := xbind h
  refine xr_aI (pc' := 15) rfl hv3 rfl ?_
  refine xr_aload_n (pc' := 16) rfl rfl rfl ?_
  refine xr_iload (pc' := 18) rfl rfl rfl ?_
  obtain ⟨v4, hv4, h⟩ := xbind h
  refine xr_aI (pc' := 19) rfl hv4 rfl ?_
  rcases xite h with ⟨hc, h⟩ | ⟨hc, h⟩
  · refine xr_icmp_ge_t (t := 29) rfl hc ?_
    refine xr_aload_n (pc' := 30) rfl rfl rfl ?_
    refine xr_iload (pc' := 32) rfl rfl rfl ?_
    obtain ⟨v5, hv5, h⟩ := xbind h
    refine xr_aI (pc' := 33) rfl hv5 rfl ?_
    exact TfM_fetches_33   M2 _ _ _ _ _ _ _ _ h
  · refine xr_icmp_ge_f (pc' := 22) rfl hc rfl ?_
    refine xr_aload_n (pc' := 23) rfl rfl rfl ?_
    refine xr_iload (pc' := 25) rfl rfl rfl ?_
    obtain ⟨v6, hv6, h⟩ := xbind h
    refine xr_aI (pc' := 26) rfl hv6 rfl ?_
    refine xr_goto (t := 33) rfl ?_
    exact TfM_fetches_33   M2 _ _ _ _ _ _ _ _ h
-- 185: MagazineDepotModel.brings([I[III)V
def fM_brings (M : xMem) (this : xId) (a0 : Option xId) (a1 : Option xId) (a2 : Int32) (a3 : Int32) : Option xMem :=
  (xaI M a1 a2).bind fun v1 =>
  (xuI M a0 (((24 : Int32) * a2) + v1) a3).bind fun M2 =>
  (xaI M2 a1 a2).bind fun v3 =>
  (xuI M2 a1 a2 (v3 + (1 : Int32))).bind fun M4 =>
  some M4
set_option maxRecDepth 20000 in
theorem TfM_brings {M M' : xMem} (this : xId) (a0 : Option xId) (a1 : Option xId) (a2 : Int32) (a3 : Int32) (h : fM_brings M this a0 a1 a2 a3 = some M') : xrun none 0 185 0 ([some (.inr (.inr (some this))), some (.inr (.inr a0)), some (.inr (.inr a1)), some (.inl a2), some (.inl a3)]) ([]) M (none, M') := by
  unfold fM_brings at h
  refine xr_aload_n (pc' := 1) rfl rfl rfl ?_
  refine xr_bipush (v := 24) (pc' := 3) rfl (by decide) rfl ?_
  refine xr_iload_n (pc' := 4) rfl rfl rfl ?_
  refine xr_imul (pc' := 5) rfl rfl ?_
  refine xr_aload_n (pc' := 6) rfl rfl rfl ?_
  refine xr_iload_n (pc' := 7) rfl rfl rfl ?_
  obtain ⟨v1, hv1, h⟩ := xbind h
  refine xr_aI (pc' := 8) rfl hv1 rfl ?_
  refine xr_iadd (pc' := 9) rfl rfl ?_
  refine xr_iload (pc' := 11) rfl rfl rfl ?_
  obtain ⟨M2, hM2, h⟩ := xbind h
  refine xr_uI (pc' := 12) rfl hM2 rfl ?_
  refine xr_aload_n (pc' := 13) rfl rfl rfl ?_
  refine xr_iload_n (pc' := 14) rfl rfl rfl ?_
  refine xr_dup2_ia (pc' := 15) rfl rfl ?_
  obtain ⟨v3, hv3, h⟩ := xbind h
  refine xr_aI (pc' := 16) rfl hv3 rfl ?_
  refine xr_iconst (v := 1) (pc' := 17) rfl (by decide) rfl ?_
  refine xr_iadd (pc' := 18) rfl rfl ?_
  obtain ⟨M4, hM4, h⟩ := xbind h
  refine xr_uI (pc' := 19) rfl hM4 rfl ?_
  obtain rfl := xsome1 h
  exact xr_ret rfl mR_185
-- 169: MagazineDepotModel.takes(II)I
def fM_takes_126  (M : xMem) (l0 : Option xId) (l3 : Int32) (l4 : Int32)  : Option (Int32 × xMem) :=
  (xgR M l0 8 21).bind fun v38 =>
  (xgR M l0 8 20).bind fun v39 =>
  (xaI M v39 l3).bind fun v40 =>
  (xuI M v38 l3 v40).bind fun M41 =>
  (xgR M41 l0 8 20).bind fun v42 =>
  (xuI M41 v42 l3 l4).bind fun M43 =>
  (xob M43 l0 8).bind fun u44 =>
  (fM_takesLatest M43 u44 l4).bind fun q45 =>
  some (q45.1, q45.2)
set_option maxRecDepth 20000 in
theorem TfM_takes_126 {M' : xMem} {r : Int32}  (M : xMem) (l0 : Option xId) (l3 : Int32) (l4 : Int32)  (o1 : Int32) (o2 : Int32) (h : fM_takes_126  M l0 l3 l4  = some (r, M')) : xrun none 4 169 126 ([some (.inr (.inr l0)), some (.inl o1), some (.inl o2), some (.inl l3), some (.inl l4)]) ([]) M (some (.inl r), M') := by
  unfold fM_takes_126 at h
  refine xr_aload_n (pc' := 127) rfl rfl rfl ?_
  obtain ⟨v38, hv38, h⟩ := xbind h
  refine xr_getR (pc' := 130) rfl (by decide) hv38 rfl ?_
  refine xr_iload_n (pc' := 131) rfl rfl rfl ?_
  refine xr_aload_n (pc' := 132) rfl rfl rfl ?_
  obtain ⟨v39, hv39, h⟩ := xbind h
  refine xr_getR (pc' := 135) rfl (by decide) hv39 rfl ?_
  refine xr_iload_n (pc' := 136) rfl rfl rfl ?_
  obtain ⟨v40, hv40, h⟩ := xbind h
  refine xr_aI (pc' := 137) rfl hv40 rfl ?_
  obtain ⟨M41, hM41, h⟩ := xbind h
  refine xr_uI (pc' := 138) rfl hM41 rfl ?_
  refine xr_aload_n (pc' := 139) rfl rfl rfl ?_
  obtain ⟨v42, hv42, h⟩ := xbind h
  refine xr_getR (pc' := 142) rfl (by decide) hv42 rfl ?_
  refine xr_iload_n (pc' := 143) rfl rfl rfl ?_
  refine xr_iload (pc' := 145) rfl rfl rfl ?_
  obtain ⟨M43, hM43, h⟩ := xbind h
  refine xr_uI (pc' := 146) rfl hM43 rfl ?_
  refine xr_aload_n (pc' := 147) rfl rfl rfl ?_
  refine xr_iload (pc' := 149) rfl rfl rfl ?_
  obtain ⟨u44, hu44, h⟩ := xbind h
  obtain ⟨q45, hq45, h⟩ := xbind h
  refine xr_callV (pc' := 152) (C := 8) (As := [_]) (rest := _) rfl hu44 mC_171 mL_171 rfl (Nat.le_of_ble_eq_true rfl) rfl (Nat.le_of_ble_eq_true rfl) (TfM_takesLatest _ _ hq45) rfl ?_
  obtain ⟨rfl, rfl⟩ := xsome2 h
  exact xr_iret rfl mR_169
def fM_takes (M : xMem) (this : xId) (a0 : Int32) (a1 : Int32) : Option (Int32 × xMem) :=
  (xgR M (some this) 8 20).bind fun v1 =>
  (xaI M v1 (((4 : Int32) * a0) + a1)).bind fun v2 =>
  (xob M (some this) 8).bind fun u3 =>
  (fM_hasSome M u3 v2).bind fun q4 =>
  if q4.1 = 0 then (
    (xgR q4.2 (some this) 8 21).bind fun v5 =>
    (xaI q4.2 v5 (((4 : Int32) * a0) + a1)).bind fun v6 =>
    (xob q4.2 (some this) 8).bind fun u7 =>
    (fM_hasSome q4.2 u7 v6).bind fun q8 =>
    if q8.1 = 0 then (
      (xgR q8.2 (some this) 8 26).bind fun v9 =>
      (xaI q8.2 v9 a0).bind fun v10 =>
      if v10 = 0 then (
        (xob q8.2 (some this) 8).bind fun u11 =>
        (fM_comesOut q8.2 u11 a0).bind fun q12 =>
        some (q12.1, q12.2))
      else
      (xob q8.2 (some this) 8).bind fun u13 =>
      (fM_visit q8.2 u13 a0).bind fun q14 =>
      (xgR q14 (some this) 8 25).bind fun v15 =>
      (xgR q14 (some this) 8 26).bind fun v16 =>
      (xgR q14 (some this) 8 7).bind fun v17 =>
      (xob q14 (some this) 8).bind fun u18 =>
      (fM_fetches q14 u18 v15 v16 v17 a0).bind fun q19 =>
      (xgR q19.2 (some this) 8 21).bind fun v20 =>
      (xaI q19.2 v20 (((4 : Int32) * a0) + a1)).bind fun v21 =>
      if v21 < 0 then (
        fM_takes_126  q19.2 (some this) (((4 : Int32) * a0) + a1) q19.1 )
      else
      (xgR q19.2 (some this) 8 27).bind fun v22 =>
      (xgR q19.2 (some this) 8 28).bind fun v23 =>
      (xgR q19.2 (some this) 8 21).bind fun v24 =>
      (xaI q19.2 v24 (((4 : Int32) * a0) + a1)).bind fun v25 =>
      (xob q19.2 (some this) 8).bind fun u26 =>
      (fM_brings q19.2 u26 v22 v23 a0 v25).bind fun q27 =>
      fM_takes_126  q27 (some this) (((4 : Int32) * a0) + a1) q19.1 )
    else
    (xob q8.2 (some this) 8).bind fun u28 =>
    (fM_exchanges q8.2 u28 (((4 : Int32) * a0) + a1)).bind fun q29 =>
    (xgR q29 (some this) 8 20).bind fun v30 =>
    (xaI q29 v30 (((4 : Int32) * a0) + a1)).bind fun v31 =>
    (xob q29 (some this) 8).bind fun u32 =>
    (fM_takesLatest q29 u32 v31).bind fun q33 =>
    some (q33.1, q33.2))
  else
  (xgR q4.2 (some this) 8 20).bind fun v34 =>
  (xaI q4.2 v34 (((4 : Int32) * a0) + a1)).bind fun v35 =>
  (xob q4.2 (some this) 8).bind fun u36 =>
  (fM_takesLatest q4.2 u36 v35).bind fun q37 =>
  some (q37.1, q37.2)
set_option maxRecDepth 20000 in
theorem TfM_takes {M M' : xMem} {r : Int32} (this : xId) (a0 : Int32) (a1 : Int32) (h : fM_takes M this a0 a1 = some (r, M')) : xrun none 4 169 0 ([some (.inr (.inr (some this))), some (.inl a0), some (.inl a1), none, none]) ([]) M (some (.inl r), M') := by
  unfold fM_takes at h
  refine xr_iconst (v := 4) (pc' := 1) rfl (by decide) rfl ?_
  refine xr_iload_n (pc' := 2) rfl rfl rfl ?_
  refine xr_imul (pc' := 3) rfl rfl ?_
  refine xr_iload_n (pc' := 4) rfl rfl rfl ?_
  refine xr_iadd (pc' := 5) rfl rfl ?_
  refine xr_istore_n (pc' := 6) rfl rfl rfl ?_
  refine xr_aload_n (pc' := 7) rfl rfl rfl ?_
  refine xr_aload_n (pc' := 8) rfl rfl rfl ?_
  obtain ⟨v1, hv1, h⟩ := xbind h
  refine xr_getR (pc' := 11) rfl (by decide) hv1 rfl ?_
  refine xr_iload_n (pc' := 12) rfl rfl rfl ?_
  obtain ⟨v2, hv2, h⟩ := xbind h
  refine xr_aI (pc' := 13) rfl hv2 rfl ?_
  obtain ⟨u3, hu3, h⟩ := xbind h
  obtain ⟨q4, hq4, h⟩ := xbind h
  refine xr_callV (pc' := 16) (C := 8) (As := [_]) (rest := _) rfl hu3 mC_170 mL_170 rfl (Nat.le_of_ble_eq_true rfl) rfl (Nat.le_of_ble_eq_true rfl) (TfM_hasSome _ _ hq4) rfl ?_
  rcases xite h with ⟨hc, h⟩ | ⟨hc, h⟩
  · refine xr_if_eq_t (t := 30) rfl hc ?_
    refine xr_aload_n (pc' := 31) rfl rfl rfl ?_
    refine xr_aload_n (pc' := 32) rfl rfl rfl ?_
    obtain ⟨v5, hv5, h⟩ := xbind h
    refine xr_getR (pc' := 35) rfl (by decide) hv5 rfl ?_
    refine xr_iload_n (pc' := 36) rfl rfl rfl ?_
    obtain ⟨v6, hv6, h⟩ := xbind h
    refine xr_aI (pc' := 37) rfl hv6 rfl ?_
    obtain ⟨u7, hu7, h⟩ := xbind h
    obtain ⟨q8, hq8, h⟩ := xbind h
    refine xr_callV (pc' := 40) (C := 8) (As := [_]) (rest := _) rfl hu7 mC_170 mL_170 rfl (Nat.le_of_ble_eq_true rfl) rfl (Nat.le_of_ble_eq_true rfl) (TfM_hasSome _ _ hq8) rfl ?_
    rcases xite h with ⟨hc, h⟩ | ⟨hc, h⟩
    · refine xr_if_eq_t (t := 59) rfl hc ?_
      refine xr_aload_n (pc' := 60) rfl rfl rfl ?_
      obtain ⟨v9, hv9, h⟩ := xbind h
      refine xr_getR (pc' := 63) rfl (by decide) hv9 rfl ?_
      refine xr_iload_n (pc' := 64) rfl rfl rfl ?_
      obtain ⟨v10, hv10, h⟩ := xbind h
      refine xr_aI (pc' := 65) rfl hv10 rfl ?_
      rcases xite h with ⟨hc, h⟩ | ⟨hc, h⟩
      · refine xr_if_ne_f (pc' := 68) rfl hc rfl ?_
        refine xr_aload_n (pc' := 69) rfl rfl rfl ?_
        refine xr_iload_n (pc' := 70) rfl rfl rfl ?_
        obtain ⟨u11, hu11, h⟩ := xbind h
        obtain ⟨q12, hq12, h⟩ := xbind h
        refine xr_callV (pc' := 73) (C := 8) (As := [_]) (rest := _) rfl hu11 mC_174 mL_174 rfl (Nat.le_of_ble_eq_true rfl) rfl (Nat.le_of_ble_eq_true rfl) (TfM_comesOut _ _ hq12) rfl ?_
        obtain ⟨rfl, rfl⟩ := xsome2 h
        exact xr_iret rfl mR_169
      · refine xr_if_ne_t (t := 74) rfl hc ?_
        refine xr_aload_n (pc' := 75) rfl rfl rfl ?_
        refine xr_iload_n (pc' := 76) rfl rfl rfl ?_
        obtain ⟨u13, hu13, h⟩ := xbind h
        obtain ⟨q14, hq14, h⟩ := xbind h
        refine xr_callV (pc' := 79) (C := 8) (As := [_]) (rest := _) rfl hu13 mC_183 mL_183 rfl (Nat.le_of_ble_eq_true rfl) rfl (Nat.le_of_ble_eq_true rfl) (TfM_visit _ _ hq14) rfl ?_
        refine xr_aload_n (pc' := 80) rfl rfl rfl ?_
        refine xr_aload_n (pc' := 81) rfl rfl rfl ?_
        obtain ⟨v15, hv15, h⟩ := xbind h
        refine xr_getR (pc' := 84) rfl (by decide) hv15 rfl ?_
        refine xr_aload_n (pc' := 85) rfl rfl rfl ?_
        obtain ⟨v16, hv16, h⟩ := xbind h
        refine xr_getR (pc' := 88) rfl (by decide) hv16 rfl ?_
        refine xr_aload_n (pc' := 89) rfl rfl rfl ?_
        obtain ⟨v17, hv17, h⟩ := xbind h
        refine xr_getR (pc' := 92) rfl (by decide) hv17 rfl ?_
        refine xr_iload_n (pc' := 93) rfl rfl rfl ?_
        obtain ⟨u18, hu18, h⟩ := xbind h
        obtain ⟨q19, hq19, h⟩ := xbind h
        refine xr_callV (pc' := 96) (C := 8) (As := [_, _, _, _]) (rest := _) rfl hu18 mC_184 mL_184 rfl (Nat.le_of_ble_eq_true rfl) rfl (Nat.le_of_ble_eq_true rfl) (TfM_fetches _ _ _ _ _ hq19) rfl ?_
        refine xr_istore (pc' := 98) rfl rfl rfl ?_
        refine xr_aload_n (pc' := 99) rfl rfl rfl ?_
        obtain ⟨v20, hv20, h⟩ := xbind h
        refine xr_getR (pc' := 102) rfl (by decide) hv20 rfl ?_
        refine xr_iload_n (pc' := 103) rfl rfl rfl ?_
        obtain ⟨v21, hv21, h⟩ := xbind h
        refine xr_aI (pc' := 104) rfl hv21 rfl ?_
        rcases xite h with ⟨hc, h⟩ | ⟨hc, h⟩
        · refine xr_if_lt_t (t := 126) rfl hc ?_
          exact TfM_takes_126   q19.2 _ _ _  _ _ h
        · refine xr_if_lt_f (pc' := 107) rfl hc rfl ?_
          refine xr_aload_n (pc' := 108) rfl rfl rfl ?_
          refine xr_aload_n (pc' := 109) rfl rfl rfl ?_
          obtain ⟨v22, hv22, h⟩ := xbind h
          refine xr_getR (pc' := 112) rfl (by decide) hv22 rfl ?_
          refine xr_aload_n (pc' := 113) rfl rfl rfl ?_
          obtain ⟨v23, hv23, h⟩ := xbind h
          refine xr_getR (pc' := 116) rfl (by decide) hv23 rfl ?_
          refine xr_iload_n (pc' := 117) rfl rfl rfl ?_
          refine xr_aload_n (pc' := 118) rfl rfl rfl ?_
          obtain ⟨v24, hv24, h⟩ := xbind h
          refine xr_getR (pc' := 121) rfl (by decide) hv24 rfl ?_
          refine xr_iload_n (pc' := 122) rfl rfl rfl ?_
          obtain ⟨v25, hv25, h⟩ := xbind h
          refine xr_aI (pc' := 123) rfl hv25 rfl ?_
          obtain ⟨u26, hu26, h⟩ := xbind h
          obtain ⟨q27, hq27, h⟩ := xbind h
          refine xr_callV (pc' := 126) (C := 8) (As := [_, _, _, _]) (rest := _) rfl hu26 mC_185 mL_185 rfl (Nat.le_of_ble_eq_true rfl) rfl (Nat.le_of_ble_eq_true rfl) (TfM_brings _ _ _ _ _ hq27) rfl ?_
          exact TfM_takes_126   q27 _ _ _  _ _ h
    · refine xr_if_eq_f (pc' := 43) rfl hc rfl ?_
      refine xr_aload_n (pc' := 44) rfl rfl rfl ?_
      refine xr_iload_n (pc' := 45) rfl rfl rfl ?_
      obtain ⟨u28, hu28, h⟩ := xbind h
      obtain ⟨q29, hq29, h⟩ := xbind h
      refine xr_callV (pc' := 48) (C := 8) (As := [_]) (rest := _) rfl hu28 mC_173 mL_173 rfl (Nat.le_of_ble_eq_true rfl) rfl (Nat.le_of_ble_eq_true rfl) (TfM_exchanges _ _ hq29) rfl ?_
      refine xr_aload_n (pc' := 49) rfl rfl rfl ?_
      refine xr_aload_n (pc' := 50) rfl rfl rfl ?_
      obtain ⟨v30, hv30, h⟩ := xbind h
      refine xr_getR (pc' := 53) rfl (by decide) hv30 rfl ?_
      refine xr_iload_n (pc' := 54) rfl rfl rfl ?_
      obtain ⟨v31, hv31, h⟩ := xbind h
      refine xr_aI (pc' := 55) rfl hv31 rfl ?_
      obtain ⟨u32, hu32, h⟩ := xbind h
      obtain ⟨q33, hq33, h⟩ := xbind h
      refine xr_callV (pc' := 58) (C := 8) (As := [_]) (rest := _) rfl hu32 mC_171 mL_171 rfl (Nat.le_of_ble_eq_true rfl) rfl (Nat.le_of_ble_eq_true rfl) (TfM_takesLatest _ _ hq33) rfl ?_
      obtain ⟨rfl, rfl⟩ := xsome2 h
      exact xr_iret rfl mR_169
  · refine xr_if_eq_f (pc' := 19) rfl hc rfl ?_
    refine xr_aload_n (pc' := 20) rfl rfl rfl ?_
    refine xr_aload_n (pc' := 21) rfl rfl rfl ?_
    obtain ⟨v34, hv34, h⟩ := xbind h
    refine xr_getR (pc' := 24) rfl (by decide) hv34 rfl ?_
    refine xr_iload_n (pc' := 25) rfl rfl rfl ?_
    obtain ⟨v35, hv35, h⟩ := xbind h
    refine xr_aI (pc' := 26) rfl hv35 rfl ?_
    obtain ⟨u36, hu36, h⟩ := xbind h
    obtain ⟨q37, hq37, h⟩ := xbind h
    refine xr_callV (pc' := 29) (C := 8) (As := [_]) (rest := _) rfl hu36 mC_171 mL_171 rfl (Nat.le_of_ble_eq_true rfl) rfl (Nat.le_of_ble_eq_true rfl) (TfM_takesLatest _ _ hq37) rfl ?_
    obtain ⟨rfl, rfl⟩ := xsome2 h
    exact xr_iret rfl mR_169
-- 167: MagazineDepotModel.take(II)I
def fM_take (M : xMem) (this : xId) (a0 : Int32) (a1 : Int32) : Option (Int32 × xMem) :=
  (xob M (some this) 8).bind fun u1 =>
  (fM_isCache M u1 a0).bind fun q2 =>
  if q2.1 = 0 then (
    some ((-1 : Int32), q2.2))
  else
  (fM_isProcessor q2.2 a1).bind fun q3 =>
  if q3.1 = 0 then (
    some ((-1 : Int32), q3.2))
  else
  (xob q3.2 (some this) 8).bind fun u4 =>
  (fM_takes q3.2 u4 a0 a1).bind fun q5 =>
  if 0 ≤ q5.1 then (
    (xob q5.2 (some this) 8).bind fun u6 =>
    (fM_addressOf q5.2 u6 q5.1).bind fun q7 =>
    some (q7.1, q7.2))
  else
  some ((-3 : Int32), q5.2)
set_option maxRecDepth 20000 in
theorem TfM_take {M M' : xMem} {r : Int32} (this : xId) (a0 : Int32) (a1 : Int32) (h : fM_take M this a0 a1 = some (r, M')) : xrun none 5 167 0 ([some (.inr (.inr (some this))), some (.inl a0), some (.inl a1), none]) ([]) M (some (.inl r), M') := by
  unfold fM_take at h
  refine xr_aload_n (pc' := 1) rfl rfl rfl ?_
  refine xr_iload_n (pc' := 2) rfl rfl rfl ?_
  obtain ⟨u1, hu1, h⟩ := xbind h
  obtain ⟨q2, hq2, h⟩ := xbind h
  refine xr_callV (pc' := 5) (C := 8) (As := [_]) (rest := _) rfl hu1 mC_166 mL_166 rfl (Nat.le_of_ble_eq_true rfl) rfl (Nat.le_of_ble_eq_true rfl) (TfM_isCache _ _ hq2) rfl ?_
  rcases xite h with ⟨hc, h⟩ | ⟨hc, h⟩
  · refine xr_if_eq_t (t := 15) rfl hc ?_
    refine xr_iconst (v := -1) (pc' := 16) rfl (by decide) rfl ?_
    obtain ⟨rfl, rfl⟩ := xsome2 h
    exact xr_iret rfl mR_167
  · refine xr_if_eq_f (pc' := 8) rfl hc rfl ?_
    refine xr_iload_n (pc' := 9) rfl rfl rfl ?_
    obtain ⟨q3, hq3, h⟩ := xbind h
    refine xr_callS (pc' := 12) (As := [_]) (rest := _) rfl (by decide) mL_168 rfl (Nat.le_of_ble_eq_true rfl) rfl (Nat.le_of_ble_eq_true rfl) (TfM_isProcessor _ hq3) rfl ?_
    rcases xite h with ⟨hc, h⟩ | ⟨hc, h⟩
    · refine xr_if_ne_f (pc' := 15) rfl hc rfl ?_
      refine xr_iconst (v := -1) (pc' := 16) rfl (by decide) rfl ?_
      obtain ⟨rfl, rfl⟩ := xsome2 h
      exact xr_iret rfl mR_167
    · refine xr_if_ne_t (t := 17) rfl hc ?_
      refine xr_aload_n (pc' := 18) rfl rfl rfl ?_
      refine xr_iload_n (pc' := 19) rfl rfl rfl ?_
      refine xr_iload_n (pc' := 20) rfl rfl rfl ?_
      obtain ⟨u4, hu4, h⟩ := xbind h
      obtain ⟨q5, hq5, h⟩ := xbind h
      refine xr_callV (pc' := 23) (C := 8) (As := [_, _]) (rest := _) rfl hu4 mC_169 mL_169 rfl (Nat.le_of_ble_eq_true rfl) rfl (Nat.le_of_ble_eq_true rfl) (TfM_takes _ _ _ hq5) rfl ?_
      refine xr_istore_n (pc' := 24) rfl rfl rfl ?_
      refine xr_iload_n (pc' := 25) rfl rfl rfl ?_
      rcases xite h with ⟨hc, h⟩ | ⟨hc, h⟩
      · refine xr_if_ge_t (t := 33) rfl hc ?_
        refine xr_aload_n (pc' := 34) rfl rfl rfl ?_
        refine xr_iload_n (pc' := 35) rfl rfl rfl ?_
        obtain ⟨u6, hu6, h⟩ := xbind h
        obtain ⟨q7, hq7, h⟩ := xbind h
        refine xr_callV (pc' := 38) (C := 8) (As := [_]) (rest := _) rfl hu6 mC_181 mL_181 rfl (Nat.le_of_ble_eq_true rfl) rfl (Nat.le_of_ble_eq_true rfl) (TfM_addressOf _ _ hq7) rfl ?_
        obtain ⟨rfl, rfl⟩ := xsome2 h
        exact xr_iret rfl mR_167
      · refine xr_if_ge_f (pc' := 28) rfl hc rfl ?_
        refine xr_bipush (v := -3) (pc' := 30) rfl (by decide) rfl ?_
        refine xr_goto (t := 38) rfl ?_
        obtain ⟨rfl, rfl⟩ := xsome2 h
        exact xr_iret rfl mR_167
-- 188: MagazineDepotModel.beginsAt(I)I
def fM_beginsAt_89  (M : xMem)   : Option (Int32 × xMem) :=
  some ((-9 : Int32), M)
set_option maxRecDepth 20000 in
theorem TfM_beginsAt_89 {M' : xMem} {r : Int32}  (M : xMem)   (o0 : Option xId) (o1 : Int32) (o2 : Int32) (o3 : Int32) (h : fM_beginsAt_89  M   = some (r, M')) : xrun none 1 188 89 ([some (.inr (.inr o0)), some (.inl o1), some (.inl o2), some (.inl o3)]) ([]) M (some (.inl r), M') := by
  unfold fM_beginsAt_89 at h
  refine xr_bipush (v := -9) (pc' := 91) rfl (by decide) rfl ?_
  refine xr_goto (t := 111) rfl ?_
  obtain ⟨rfl, rfl⟩ := xsome2 h
  exact xr_iret rfl mR_188
def fM_beginsAt (M : xMem) (this : xId) (a0 : Int32) : Option (Int32 × xMem) :=
  (fM_isIn M a0 (0 : Int32) (32767 : Int32)).bind fun q1 =>
  if q1.1 = 0 then (
    some ((-9 : Int32), q1.2))
  else
  (xgR q1.2 (some this) 8 16).bind fun v2 =>
  (xaI q1.2 v2 (a0 / (1024 : Int32))).bind fun v3 =>
  if 0 ≤ v3 then (
    (xgR q1.2 (some this) 8 16).bind fun v4 =>
    (xaI q1.2 v4 (a0 / (1024 : Int32))).bind fun v5 =>
    (xgR q1.2 (some this) 8 17).bind fun v6 =>
    (xaI q1.2 v6 (a0 / (1024 : Int32))).bind fun v7 =>
    if (((a0 - a0 / (1024 : Int32) * (1024 : Int32)) - (32 : Int32)) - v7) < 0 then (
      fM_beginsAt_89  q1.2  )
    else
    (xgR q1.2 (some this) 8 1).bind fun v8 =>
    (xaI q1.2 v8 v5).bind fun v9 =>
    if v9 = 0 then none else
    if ((((a0 - a0 / (1024 : Int32) * (1024 : Int32)) - (32 : Int32)) - v7) - (((a0 - a0 / (1024 : Int32) * (1024 : Int32)) - (32 : Int32)) - v7) / v9 * v9) = 0 then (
      (xgR q1.2 (some this) 8 1).bind fun v10 =>
      (xaI q1.2 v10 v5).bind fun v11 =>
      if v11 = 0 then none else
      (xob q1.2 (some this) 8).bind fun u12 =>
      (fM_per q1.2 u12 v5).bind fun q13 =>
      if ((((a0 - a0 / (1024 : Int32) * (1024 : Int32)) - (32 : Int32)) - v7) / v11) < q13.1 then (
        (xgR q13.2 (some this) 8 1).bind fun v14 =>
        (xaI q13.2 v14 v5).bind fun v15 =>
        if v15 = 0 then none else
        some ((((a0 / (1024 : Int32)) * (62 : Int32)) + ((((a0 - a0 / (1024 : Int32) * (1024 : Int32)) - (32 : Int32)) - v7) / v15)), q13.2))
      else
      fM_beginsAt_89  q13.2  )
    else
    fM_beginsAt_89  q1.2  )
  else
  some ((-9 : Int32), q1.2)
set_option maxRecDepth 20000 in
theorem TfM_beginsAt {M M' : xMem} {r : Int32} (this : xId) (a0 : Int32) (h : fM_beginsAt M this a0 = some (r, M')) : xrun none 1 188 0 ([some (.inr (.inr (some this))), some (.inl a0), none, none]) ([]) M (some (.inl r), M') := by
  unfold fM_beginsAt at h
  refine xr_iload_n (pc' := 1) rfl rfl rfl ?_
  refine xr_iconst (v := 0) (pc' := 2) rfl (by decide) rfl ?_
  refine xr_sipush (v := 32767) (pc' := 5) rfl (by decide) rfl ?_
  obtain ⟨q1, hq1, h⟩ := xbind h
  refine xr_callS (pc' := 8) (As := [_, _, _]) (rest := _) rfl (by decide) mL_163 rfl (Nat.le_of_ble_eq_true rfl) rfl (Nat.le_of_ble_eq_true rfl) (TfM_isIn _ _ _ hq1) rfl ?_
  rcases xite h with ⟨hc, h⟩ | ⟨hc, h⟩
  · refine xr_if_eq_t (t := 24) rfl hc ?_
    refine xr_bipush (v := -9) (pc' := 26) rfl (by decide) rfl ?_
    obtain ⟨rfl, rfl⟩ := xsome2 h
    exact xr_iret rfl mR_188
  · refine xr_if_eq_f (pc' := 11) rfl hc rfl ?_
    refine xr_aload_n (pc' := 12) rfl rfl rfl ?_
    obtain ⟨v2, hv2, h⟩ := xbind h
    refine xr_getR (pc' := 15) rfl (by decide) hv2 rfl ?_
    refine xr_iload_n (pc' := 16) rfl rfl rfl ?_
    refine xr_sipush (v := 1024) (pc' := 19) rfl (by decide) rfl ?_
    refine xr_idiv (pc' := 20) rfl (by decide) rfl ?_
    obtain ⟨v3, hv3, h⟩ := xbind h
    refine xr_aI (pc' := 21) rfl hv3 rfl ?_
    rcases xite h with ⟨hc, h⟩ | ⟨hc, h⟩
    · refine xr_if_ge_t (t := 27) rfl hc ?_
      refine xr_aload_n (pc' := 28) rfl rfl rfl ?_
      obtain ⟨v4, hv4, h⟩ := xbind h
      refine xr_getR (pc' := 31) rfl (by decide) hv4 rfl ?_
      refine xr_iload_n (pc' := 32) rfl rfl rfl ?_
      refine xr_sipush (v := 1024) (pc' := 35) rfl (by decide) rfl ?_
      refine xr_idiv (pc' := 36) rfl (by decide) rfl ?_
      obtain ⟨v5, hv5, h⟩ := xbind h
      refine xr_aI (pc' := 37) rfl hv5 rfl ?_
      refine xr_istore_n (pc' := 38) rfl rfl rfl ?_
      refine xr_iload_n (pc' := 39) rfl rfl rfl ?_
      refine xr_sipush (v := 1024) (pc' := 42) rfl (by decide) rfl ?_
      refine xr_irem (pc' := 43) rfl (by decide) rfl ?_
      refine xr_bipush (v := 32) (pc' := 45) rfl (by decide) rfl ?_
      refine xr_isub (pc' := 46) rfl rfl ?_
      refine xr_aload_n (pc' := 47) rfl rfl rfl ?_
      obtain ⟨v6, hv6, h⟩ := xbind h
      refine xr_getR (pc' := 50) rfl (by decide) hv6 rfl ?_
      refine xr_iload_n (pc' := 51) rfl rfl rfl ?_
      refine xr_sipush (v := 1024) (pc' := 54) rfl (by decide) rfl ?_
      refine xr_idiv (pc' := 55) rfl (by decide) rfl ?_
      obtain ⟨v7, hv7, h⟩ := xbind h
      refine xr_aI (pc' := 56) rfl hv7 rfl ?_
      refine xr_isub (pc' := 57) rfl rfl ?_
      refine xr_istore_n (pc' := 58) rfl rfl rfl ?_
      refine xr_iload_n (pc' := 59) rfl rfl rfl ?_
      rcases xite h with ⟨hc, h⟩ | ⟨hc, h⟩
      · refine xr_if_lt_t (t := 89) rfl hc ?_
        exact TfM_beginsAt_89   q1.2   _ _ _ _ h
      · refine xr_if_lt_f (pc' := 62) rfl hc rfl ?_
        refine xr_iload_n (pc' := 63) rfl rfl rfl ?_
        refine xr_aload_n (pc' := 64) rfl rfl rfl ?_
        obtain ⟨v8, hv8, h⟩ := xbind h
        refine xr_getR (pc' := 67) rfl (by decide) hv8 rfl ?_
        refine xr_iload_n (pc' := 68) rfl rfl rfl ?_
        obtain ⟨v9, hv9, h⟩ := xbind h
        refine xr_aI (pc' := 69) rfl hv9 rfl ?_
        rcases xite h with ⟨hc, h⟩ | ⟨hc, h⟩
        · cases h
        refine xr_irem (pc' := 70) rfl hc rfl ?_
        rcases xite h with ⟨hc, h⟩ | ⟨hc, h⟩
        · refine xr_if_ne_f (pc' := 73) rfl hc rfl ?_
          refine xr_iload_n (pc' := 74) rfl rfl rfl ?_
          refine xr_aload_n (pc' := 75) rfl rfl rfl ?_
          obtain ⟨v10, hv10, h⟩ := xbind h
          refine xr_getR (pc' := 78) rfl (by decide) hv10 rfl ?_
          refine xr_iload_n (pc' := 79) rfl rfl rfl ?_
          obtain ⟨v11, hv11, h⟩ := xbind h
          refine xr_aI (pc' := 80) rfl hv11 rfl ?_
          rcases xite h with ⟨hc, h⟩ | ⟨hc, h⟩
          · cases h
          refine xr_idiv (pc' := 81) rfl hc rfl ?_
          refine xr_aload_n (pc' := 82) rfl rfl rfl ?_
          refine xr_iload_n (pc' := 83) rfl rfl rfl ?_
          obtain ⟨u12, hu12, h⟩ := xbind h
          obtain ⟨q13, hq13, h⟩ := xbind h
          refine xr_callV (pc' := 86) (C := 8) (As := [_]) (rest := _) rfl hu12 mC_177 mL_177 rfl (Nat.le_of_ble_eq_true rfl) rfl (Nat.le_of_ble_eq_true rfl) (TfM_per _ _ hq13) rfl ?_
          rcases xite h with ⟨hc, h⟩ | ⟨hc, h⟩
          · refine xr_icmp_lt_t (t := 94) rfl hc ?_
            refine xr_iload_n (pc' := 95) rfl rfl rfl ?_
            refine xr_sipush (v := 1024) (pc' := 98) rfl (by decide) rfl ?_
            refine xr_idiv (pc' := 99) rfl (by decide) rfl ?_
            refine xr_bipush (v := 62) (pc' := 101) rfl (by decide) rfl ?_
            refine xr_imul (pc' := 102) rfl rfl ?_
            refine xr_iload_n (pc' := 103) rfl rfl rfl ?_
            refine xr_aload_n (pc' := 104) rfl rfl rfl ?_
            obtain ⟨v14, hv14, h⟩ := xbind h
            refine xr_getR (pc' := 107) rfl (by decide) hv14 rfl ?_
            refine xr_iload_n (pc' := 108) rfl rfl rfl ?_
            obtain ⟨v15, hv15, h⟩ := xbind h
            refine xr_aI (pc' := 109) rfl hv15 rfl ?_
            rcases xite h with ⟨hc, h⟩ | ⟨hc, h⟩
            · cases h
            refine xr_idiv (pc' := 110) rfl hc rfl ?_
            refine xr_iadd (pc' := 111) rfl rfl ?_
            obtain ⟨rfl, rfl⟩ := xsome2 h
            exact xr_iret rfl mR_188
          · refine xr_icmp_lt_f (pc' := 89) rfl hc rfl ?_
            exact TfM_beginsAt_89   q13.2   _ _ _ _ h
        · refine xr_if_ne_t (t := 89) rfl hc ?_
          exact TfM_beginsAt_89   q1.2   _ _ _ _ h
    · refine xr_if_ge_f (pc' := 24) rfl hc rfl ?_
      refine xr_bipush (v := -9) (pc' := 26) rfl (by decide) rfl ?_
      obtain ⟨rfl, rfl⟩ := xsome2 h
      exact xr_iret rfl mR_188
-- 187: MagazineDepotModel.liveAt(I)I
def fM_liveAt (M : xMem) (this : xId) (a0 : Int32) : Option (Int32 × xMem) :=
  (xob M (some this) 8).bind fun u1 =>
  (fM_beginsAt M u1 a0).bind fun q2 =>
  if q2.1 < 0 then (
    some ((-9 : Int32), q2.2))
  else
  (xgR q2.2 (some this) 8 18).bind fun v3 =>
  (xaI q2.2 v3 q2.1).bind fun v4 =>
  if v4 = (1 : Int32) then (
    some (q2.1, q2.2))
  else
  some ((-9 : Int32), q2.2)
set_option maxRecDepth 20000 in
theorem TfM_liveAt {M M' : xMem} {r : Int32} (this : xId) (a0 : Int32) (h : fM_liveAt M this a0 = some (r, M')) : xrun none 2 187 0 ([some (.inr (.inr (some this))), some (.inl a0), none]) ([]) M (some (.inl r), M') := by
  unfold fM_liveAt at h
  refine xr_aload_n (pc' := 1) rfl rfl rfl ?_
  refine xr_iload_n (pc' := 2) rfl rfl rfl ?_
  obtain ⟨u1, hu1, h⟩ := xbind h
  obtain ⟨q2, hq2, h⟩ := xbind h
  refine xr_callV (pc' := 5) (C := 8) (As := [_]) (rest := _) rfl hu1 mC_188 mL_188 rfl (Nat.le_of_ble_eq_true rfl) rfl (Nat.le_of_ble_eq_true rfl) (TfM_beginsAt _ _ hq2) rfl ?_
  refine xr_istore_n (pc' := 6) rfl rfl rfl ?_
  refine xr_iload_n (pc' := 7) rfl rfl rfl ?_
  rcases xite h with ⟨hc, h⟩ | ⟨hc, h⟩
  · refine xr_if_lt_t (t := 24) rfl hc ?_
    refine xr_bipush (v := -9) (pc' := 26) rfl (by decide) rfl ?_
    obtain ⟨rfl, rfl⟩ := xsome2 h
    exact xr_iret rfl mR_187
  · refine xr_if_lt_f (pc' := 10) rfl hc rfl ?_
    refine xr_aload_n (pc' := 11) rfl rfl rfl ?_
    obtain ⟨v3, hv3, h⟩ := xbind h
    refine xr_getR (pc' := 14) rfl (by decide) hv3 rfl ?_
    refine xr_iload_n (pc' := 15) rfl rfl rfl ?_
    obtain ⟨v4, hv4, h⟩ := xbind h
    refine xr_aI (pc' := 16) rfl hv4 rfl ?_
    refine xr_iconst (v := 1) (pc' := 17) rfl (by decide) rfl ?_
    rcases xite h with ⟨hc, h⟩ | ⟨hc, h⟩
    · refine xr_icmp_ne_f (pc' := 20) rfl hc rfl ?_
      refine xr_iload_n (pc' := 21) rfl rfl rfl ?_
      refine xr_goto (t := 26) rfl ?_
      obtain ⟨rfl, rfl⟩ := xsome2 h
      exact xr_iret rfl mR_187
    · refine xr_icmp_ne_t (t := 24) rfl hc ?_
      refine xr_bipush (v := -9) (pc' := 26) rfl (by decide) rfl ?_
      obtain ⟨rfl, rfl⟩ := xsome2 h
      exact xr_iret rfl mR_187
-- 190: MagazineDepotModel.cacheOf(I)I
def fM_cacheOf (M : xMem) (this : xId) (a0 : Int32) : Option (Int32 × xMem) :=
  (xgR M (some this) 8 16).bind fun v1 =>
  (xaI M v1 (a0 / (62 : Int32))).bind fun v2 =>
  some (v2, M)
set_option maxRecDepth 20000 in
theorem TfM_cacheOf {M M' : xMem} {r : Int32} (this : xId) (a0 : Int32) (h : fM_cacheOf M this a0 = some (r, M')) : xrun none 0 190 0 ([some (.inr (.inr (some this))), some (.inl a0)]) ([]) M (some (.inl r), M') := by
  unfold fM_cacheOf at h
  refine xr_aload_n (pc' := 1) rfl rfl rfl ?_
  obtain ⟨v1, hv1, h⟩ := xbind h
  refine xr_getR (pc' := 4) rfl (by decide) hv1 rfl ?_
  refine xr_iload_n (pc' := 5) rfl rfl rfl ?_
  refine xr_bipush (v := 62) (pc' := 7) rfl (by decide) rfl ?_
  refine xr_idiv (pc' := 8) rfl (by decide) rfl ?_
  obtain ⟨v2, hv2, h⟩ := xbind h
  refine xr_aI (pc' := 9) rfl hv2 rfl ?_
  obtain ⟨rfl, rfl⟩ := xsome2 h
  exact xr_iret rfl mR_190
-- 189: MagazineDepotModel.isFit(I)Z
def fM_isFit_65  (M : xMem)   : Option (Int32 × xMem) :=
  some ((1 : Int32), M)
set_option maxRecDepth 20000 in
theorem TfM_isFit_65 {M' : xMem} {r : Int32}  (M : xMem)   (o0 : Option xId) (o1 : Int32) (o2 : Int32) (o3 : Int32) (h : fM_isFit_65  M   = some (r, M')) : xrun none 1 189 65 ([some (.inr (.inr o0)), some (.inl o1), some (.inl o2), some (.inl o3)]) ([]) M (some (.inl r), M') := by
  unfold fM_isFit_65 at h
  refine xr_iconst (v := 1) (pc' := 66) rfl (by decide) rfl ?_
  refine xr_goto (t := 70) rfl ?_
  obtain ⟨rfl, rfl⟩ := xsome2 h
  exact xr_zret rfl mR_189 (by decide)
def fM_isFit (M : xMem) (this : xId) (a0 : Int32) : Option (Int32 × xMem) :=
  (xgR M (some this) 8 0).bind fun v1 =>
  (xob M (some this) 8).bind fun u2 =>
  (fM_cacheOf M u2 a0).bind fun q3 =>
  (xaI q3.2 v1 q3.1).bind fun v4 =>
  (xgR q3.2 (some this) 8 19).bind fun v5 =>
  (xaI q3.2 v5 a0).bind fun v6 =>
  (fM_isIn q3.2 v4 (1 : Int32) (3 : Int32)).bind fun q7 =>
  if q7.1 = 0 then (
    if v4 = 0 then (
      fM_isFit_65  q7.2  )
    else
    if (v6 &&& (1 : Int32)) = 0 then (
      if v4 = (4 : Int32) then (
        fM_isFit_65  q7.2  )
      else
      if v6 < 0 then (
        some ((0 : Int32), q7.2))
      else
      fM_isFit_65  q7.2  )
    else
    some ((0 : Int32), q7.2))
  else
  (xob q7.2 (some this) 8).bind fun u8 =>
  (fM_addressOf q7.2 u8 a0).bind fun q9 =>
  (fM_makes q9.2 v4 q9.1).bind fun q10 =>
  if v6 = q10.1 then (
    some ((1 : Int32), q10.2))
  else
  some ((0 : Int32), q10.2)
set_option maxRecDepth 20000 in
theorem TfM_isFit {M M' : xMem} {r : Int32} (this : xId) (a0 : Int32) (h : fM_isFit M this a0 = some (r, M')) : xrun none 1 189 0 ([some (.inr (.inr (some this))), some (.inl a0), none, none]) ([]) M (some (.inl r), M') := by
  unfold fM_isFit at h
  refine xr_aload_n (pc' := 1) rfl rfl rfl ?_
  obtain ⟨v1, hv1, h⟩ := xbind h
  refine xr_getR (pc' := 4) rfl (by decide) hv1 rfl ?_
  refine xr_aload_n (pc' := 5) rfl rfl rfl ?_
  refine xr_iload_n (pc' := 6) rfl rfl rfl ?_
  obtain ⟨u2, hu2, h⟩ := xbind h
  obtain ⟨q3, hq3, h⟩ := xbind h
  refine xr_callV (pc' := 9) (C := 8) (As := [_]) (rest := _) rfl hu2 mC_190 mL_190 rfl (Nat.le_of_ble_eq_true rfl) rfl (Nat.le_of_ble_eq_true rfl) (TfM_cacheOf _ _ hq3) rfl ?_
  obtain ⟨v4, hv4, h⟩ := xbind h
  refine xr_aI (pc' := 10) rfl hv4 rfl ?_
  refine xr_istore_n (pc' := 11) rfl rfl rfl ?_
  refine xr_aload_n (pc' := 12) rfl rfl rfl ?_
  obtain ⟨v5, hv5, h⟩ := xbind h
  refine xr_getR (pc' := 15) rfl (by decide) hv5 rfl ?_
  refine xr_iload_n (pc' := 16) rfl rfl rfl ?_
  obtain ⟨v6, hv6, h⟩ := xbind h
  refine xr_aI (pc' := 17) rfl hv6 rfl ?_
  refine xr_istore_n (pc' := 18) rfl rfl rfl ?_
  refine xr_iload_n (pc' := 19) rfl rfl rfl ?_
  refine xr_iconst (v := 1) (pc' := 20) rfl (by decide) rfl ?_
  refine xr_iconst (v := 3) (pc' := 21) rfl (by decide) rfl ?_
  obtain ⟨q7, hq7, h⟩ := xbind h
  refine xr_callS (pc' := 24) (As := [_, _, _]) (rest := _) rfl (by decide) mL_163 rfl (Nat.le_of_ble_eq_true rfl) rfl (Nat.le_of_ble_eq_true rfl) (TfM_isIn _ _ _ hq7) rfl ?_
  rcases xite h with ⟨hc, h⟩ | ⟨hc, h⟩
  · refine xr_if_eq_t (t := 46) rfl hc ?_
    refine xr_iload_n (pc' := 47) rfl rfl rfl ?_
    rcases xite h with ⟨hc, h⟩ | ⟨hc, h⟩
    · refine xr_if_eq_t (t := 65) rfl hc ?_
      exact TfM_isFit_65   q7.2   _ _ _ _ h
    · refine xr_if_eq_f (pc' := 50) rfl hc rfl ?_
      refine xr_iload_n (pc' := 51) rfl rfl rfl ?_
      refine xr_iconst (v := 1) (pc' := 52) rfl (by decide) rfl ?_
      refine xr_iand (pc' := 53) rfl rfl ?_
      rcases xite h with ⟨hc, h⟩ | ⟨hc, h⟩
      · refine xr_if_ne_f (pc' := 56) rfl hc rfl ?_
        refine xr_iload_n (pc' := 57) rfl rfl rfl ?_
        refine xr_iconst (v := 4) (pc' := 58) rfl (by decide) rfl ?_
        rcases xite h with ⟨hc, h⟩ | ⟨hc, h⟩
        · refine xr_icmp_eq_t (t := 65) rfl hc ?_
          exact TfM_isFit_65   q7.2   _ _ _ _ h
        · refine xr_icmp_eq_f (pc' := 61) rfl hc rfl ?_
          refine xr_iload_n (pc' := 62) rfl rfl rfl ?_
          rcases xite h with ⟨hc, h⟩ | ⟨hc, h⟩
          · refine xr_if_lt_t (t := 69) rfl hc ?_
            refine xr_iconst (v := 0) (pc' := 70) rfl (by decide) rfl ?_
            obtain ⟨rfl, rfl⟩ := xsome2 h
            exact xr_zret rfl mR_189 (by decide)
          · refine xr_if_lt_f (pc' := 65) rfl hc rfl ?_
            exact TfM_isFit_65   q7.2   _ _ _ _ h
      · refine xr_if_ne_t (t := 69) rfl hc ?_
        refine xr_iconst (v := 0) (pc' := 70) rfl (by decide) rfl ?_
        obtain ⟨rfl, rfl⟩ := xsome2 h
        exact xr_zret rfl mR_189 (by decide)
  · refine xr_if_eq_f (pc' := 27) rfl hc rfl ?_
    refine xr_iload_n (pc' := 28) rfl rfl rfl ?_
    refine xr_iload_n (pc' := 29) rfl rfl rfl ?_
    refine xr_aload_n (pc' := 30) rfl rfl rfl ?_
    refine xr_iload_n (pc' := 31) rfl rfl rfl ?_
    obtain ⟨u8, hu8, h⟩ := xbind h
    obtain ⟨q9, hq9, h⟩ := xbind h
    refine xr_callV (pc' := 34) (C := 8) (As := [_]) (rest := _) rfl hu8 mC_181 mL_181 rfl (Nat.le_of_ble_eq_true rfl) rfl (Nat.le_of_ble_eq_true rfl) (TfM_addressOf _ _ hq9) rfl ?_
    obtain ⟨q10, hq10, h⟩ := xbind h
    refine xr_callS (pc' := 37) (As := [_, _]) (rest := _) rfl (by decide) mL_182 rfl (Nat.le_of_ble_eq_true rfl) rfl (Nat.le_of_ble_eq_true rfl) (TfM_makes _ _ hq10) rfl ?_
    rcases xite h with ⟨hc, h⟩ | ⟨hc, h⟩
    · refine xr_icmp_ne_f (pc' := 40) rfl hc rfl ?_
      refine xr_iconst (v := 1) (pc' := 41) rfl (by decide) rfl ?_
      refine xr_goto (t := 45) rfl ?_
      obtain ⟨rfl, rfl⟩ := xsome2 h
      exact xr_zret rfl mR_189 (by decide)
    · refine xr_icmp_ne_t (t := 44) rfl hc ?_
      refine xr_iconst (v := 0) (pc' := 45) rfl (by decide) rfl ?_
      obtain ⟨rfl, rfl⟩ := xsome2 h
      exact xr_zret rfl mR_189 (by decide)
-- 192: MagazineDepotModel.hasRoom(II)Z
def fM_hasRoom (M : xMem) (this : xId) (a0 : Int32) (a1 : Int32) : Option (Int32 × xMem) :=
  if a0 < 0 then (
    some ((0 : Int32), M))
  else
  (xgR M (some this) 8 23).bind fun v1 =>
  (xaI M v1 a0).bind fun v2 =>
  (xgR M (some this) 8 3).bind fun v3 =>
  (xaI M v3 a1).bind fun v4 =>
  if v4 ≤ v2 then (
    some ((0 : Int32), M))
  else
  some ((1 : Int32), M)
set_option maxRecDepth 20000 in
theorem TfM_hasRoom {M M' : xMem} {r : Int32} (this : xId) (a0 : Int32) (a1 : Int32) (h : fM_hasRoom M this a0 a1 = some (r, M')) : xrun none 0 192 0 ([some (.inr (.inr (some this))), some (.inl a0), some (.inl a1)]) ([]) M (some (.inl r), M') := by
  unfold fM_hasRoom at h
  refine xr_iload_n (pc' := 1) rfl rfl rfl ?_
  rcases xite h with ⟨hc, h⟩ | ⟨hc, h⟩
  · refine xr_if_lt_t (t := 23) rfl hc ?_
    refine xr_iconst (v := 0) (pc' := 24) rfl (by decide) rfl ?_
    obtain ⟨rfl, rfl⟩ := xsome2 h
    exact xr_zret rfl mR_192 (by decide)
  · refine xr_if_lt_f (pc' := 4) rfl hc rfl ?_
    refine xr_aload_n (pc' := 5) rfl rfl rfl ?_
    obtain ⟨v1, hv1, h⟩ := xbind h
    refine xr_getR (pc' := 8) rfl (by decide) hv1 rfl ?_
    refine xr_iload_n (pc' := 9) rfl rfl rfl ?_
    obtain ⟨v2, hv2, h⟩ := xbind h
    refine xr_aI (pc' := 10) rfl hv2 rfl ?_
    refine xr_aload_n (pc' := 11) rfl rfl rfl ?_
    obtain ⟨v3, hv3, h⟩ := xbind h
    refine xr_getR (pc' := 14) rfl (by decide) hv3 rfl ?_
    refine xr_iload_n (pc' := 15) rfl rfl rfl ?_
    obtain ⟨v4, hv4, h⟩ := xbind h
    refine xr_aI (pc' := 16) rfl hv4 rfl ?_
    rcases xite h with ⟨hc, h⟩ | ⟨hc, h⟩
    · refine xr_icmp_ge_t (t := 23) rfl hc ?_
      refine xr_iconst (v := 0) (pc' := 24) rfl (by decide) rfl ?_
      obtain ⟨rfl, rfl⟩ := xsome2 h
      exact xr_zret rfl mR_192 (by decide)
    · refine xr_icmp_ge_f (pc' := 19) rfl hc rfl ?_
      refine xr_iconst (v := 1) (pc' := 20) rfl (by decide) rfl ?_
      refine xr_goto (t := 24) rfl ?_
      obtain ⟨rfl, rfl⟩ := xsome2 h
      exact xr_zret rfl mR_192 (by decide)
-- 193: MagazineDepotModel.putsIn(II)V
def fM_putsIn (M : xMem) (this : xId) (a0 : Int32) (a1 : Int32) : Option xMem :=
  (xgR M (some this) 8 24).bind fun v1 =>
  (xgR M (some this) 8 23).bind fun v2 =>
  (xaI M v2 a0).bind fun v3 =>
  (xuI M v1 (((8 : Int32) * a0) + v3) a1).bind fun M4 =>
  (xgR M4 (some this) 8 23).bind fun v5 =>
  (xaI M4 v5 a0).bind fun v6 =>
  (xuI M4 v5 a0 (v6 + (1 : Int32))).bind fun M7 =>
  (xgR M7 (some this) 8 18).bind fun v8 =>
  (xuI M7 v8 a1 (2 : Int32)).bind fun M9 =>
  some M9
set_option maxRecDepth 20000 in
theorem TfM_putsIn {M M' : xMem} (this : xId) (a0 : Int32) (a1 : Int32) (h : fM_putsIn M this a0 a1 = some M') : xrun none 0 193 0 ([some (.inr (.inr (some this))), some (.inl a0), some (.inl a1)]) ([]) M (none, M') := by
  unfold fM_putsIn at h
  refine xr_aload_n (pc' := 1) rfl rfl rfl ?_
  obtain ⟨v1, hv1, h⟩ := xbind h
  refine xr_getR (pc' := 4) rfl (by decide) hv1 rfl ?_
  refine xr_bipush (v := 8) (pc' := 6) rfl (by decide) rfl ?_
  refine xr_iload_n (pc' := 7) rfl rfl rfl ?_
  refine xr_imul (pc' := 8) rfl rfl ?_
  refine xr_aload_n (pc' := 9) rfl rfl rfl ?_
  obtain ⟨v2, hv2, h⟩ := xbind h
  refine xr_getR (pc' := 12) rfl (by decide) hv2 rfl ?_
  refine xr_iload_n (pc' := 13) rfl rfl rfl ?_
  obtain ⟨v3, hv3, h⟩ := xbind h
  refine xr_aI (pc' := 14) rfl hv3 rfl ?_
  refine xr_iadd (pc' := 15) rfl rfl ?_
  refine xr_iload_n (pc' := 16) rfl rfl rfl ?_
  obtain ⟨M4, hM4, h⟩ := xbind h
  refine xr_uI (pc' := 17) rfl hM4 rfl ?_
  refine xr_aload_n (pc' := 18) rfl rfl rfl ?_
  obtain ⟨v5, hv5, h⟩ := xbind h
  refine xr_getR (pc' := 21) rfl (by decide) hv5 rfl ?_
  refine xr_iload_n (pc' := 22) rfl rfl rfl ?_
  refine xr_dup2_ia (pc' := 23) rfl rfl ?_
  obtain ⟨v6, hv6, h⟩ := xbind h
  refine xr_aI (pc' := 24) rfl hv6 rfl ?_
  refine xr_iconst (v := 1) (pc' := 25) rfl (by decide) rfl ?_
  refine xr_iadd (pc' := 26) rfl rfl ?_
  obtain ⟨M7, hM7, h⟩ := xbind h
  refine xr_uI (pc' := 27) rfl hM7 rfl ?_
  refine xr_aload_n (pc' := 28) rfl rfl rfl ?_
  obtain ⟨v8, hv8, h⟩ := xbind h
  refine xr_getR (pc' := 31) rfl (by decide) hv8 rfl ?_
  refine xr_iload_n (pc' := 32) rfl rfl rfl ?_
  refine xr_iconst (v := 2) (pc' := 33) rfl (by decide) rfl ?_
  obtain ⟨M9, hM9, h⟩ := xbind h
  refine xr_uI (pc' := 34) rfl hM9 rfl ?_
  obtain rfl := xsome1 h
  exact xr_ret rfl mR_193
-- 194: MagazineDepotModel.madeNew()I
def fM_madeNew_2  : Nat → xMem → Option xId → Int32 → Option (Int32 × xMem)
  | 0, _, _, _ => none
  | n + 1, M, l0, l1 =>
    if (24 : Int32) ≤ l1 then (
      some ((-9 : Int32), M))
    else
    (xgR M l0 8 22).bind fun v1 =>
    (xaI M v1 l1).bind fun v2 =>
    if v2 = (1 : Int32) then (
      fM_madeNew_2  n M l0 (l1 + 1))
    else
    (xgR M l0 8 22).bind fun v3 =>
    (xuI M v3 l1 (1 : Int32)).bind fun M4 =>
    (xgR M4 l0 8 23).bind fun v5 =>
    (xuI M4 v5 l1 (0 : Int32)).bind fun M6 =>
    some (l1, M6)
set_option maxRecDepth 20000 in
theorem TfM_madeNew_2 {M' : xMem} {r : Int32}  : ∀ (n : Nat) (M : xMem) (l0 : Option xId) (l1 : Int32) , fM_madeNew_2  n M l0 l1 = some (r, M') → xrun none 0 194 2 ([some (.inr (.inr l0)), some (.inl l1)]) ([]) M (some (.inl r), M') := by
  intro n
  induction n with
  | zero => intro M l0 l1  h; unfold fM_madeNew_2 at h; cases h
  | succ n ih =>
    intro M l0 l1  h
    unfold fM_madeNew_2 at h
    refine xr_iload_n (pc' := 3) rfl rfl rfl ?_
    refine xr_bipush (v := 24) (pc' := 5) rfl (by decide) rfl ?_
    rcases xite h with ⟨hc, h⟩ | ⟨hc, h⟩
    · refine xr_icmp_ge_t (t := 43) rfl hc ?_
      refine xr_bipush (v := -9) (pc' := 45) rfl (by decide) rfl ?_
      obtain ⟨rfl, rfl⟩ := xsome2 h
      exact xr_iret rfl mR_194
    · refine xr_icmp_ge_f (pc' := 8) rfl hc rfl ?_
      refine xr_aload_n (pc' := 9) rfl rfl rfl ?_
      obtain ⟨v1, hv1, h⟩ := xbind h
      refine xr_getR (pc' := 12) rfl (by decide) hv1 rfl ?_
      refine xr_iload_n (pc' := 13) rfl rfl rfl ?_
      obtain ⟨v2, hv2, h⟩ := xbind h
      refine xr_aI (pc' := 14) rfl hv2 rfl ?_
      refine xr_iconst (v := 1) (pc' := 15) rfl (by decide) rfl ?_
      rcases xite h with ⟨hc, h⟩ | ⟨hc, h⟩
      · refine xr_icmp_ne_f (pc' := 18) rfl hc rfl ?_
        refine xr_goto (t := 37) rfl ?_
        refine xr_iinc (c := 1) (pc' := 40) rfl (by decide) rfl rfl rfl ?_
        refine xr_goto (t := 2) rfl ?_
        exact ih M _ _  h
      · refine xr_icmp_ne_t (t := 21) rfl hc ?_
        refine xr_aload_n (pc' := 22) rfl rfl rfl ?_
        obtain ⟨v3, hv3, h⟩ := xbind h
        refine xr_getR (pc' := 25) rfl (by decide) hv3 rfl ?_
        refine xr_iload_n (pc' := 26) rfl rfl rfl ?_
        refine xr_iconst (v := 1) (pc' := 27) rfl (by decide) rfl ?_
        obtain ⟨M4, hM4, h⟩ := xbind h
        refine xr_uI (pc' := 28) rfl hM4 rfl ?_
        refine xr_aload_n (pc' := 29) rfl rfl rfl ?_
        obtain ⟨v5, hv5, h⟩ := xbind h
        refine xr_getR (pc' := 32) rfl (by decide) hv5 rfl ?_
        refine xr_iload_n (pc' := 33) rfl rfl rfl ?_
        refine xr_iconst (v := 0) (pc' := 34) rfl (by decide) rfl ?_
        obtain ⟨M6, hM6, h⟩ := xbind h
        refine xr_uI (pc' := 35) rfl hM6 rfl ?_
        refine xr_iload_n (pc' := 36) rfl rfl rfl ?_
        obtain ⟨rfl, rfl⟩ := xsome2 h
        exact xr_iret rfl mR_194
def fM_madeNew (M : xMem) (this : xId) : Option (Int32 × xMem) :=
  fM_madeNew_2  xF M (some this) (0 : Int32)
set_option maxRecDepth 20000 in
theorem TfM_madeNew {M M' : xMem} {r : Int32} (this : xId) (h : fM_madeNew M this = some (r, M')) : xrun none 0 194 0 ([some (.inr (.inr (some this))), none]) ([]) M (some (.inl r), M') := by
  unfold fM_madeNew at h
  refine xr_iconst (v := 0) (pc' := 1) rfl (by decide) rfl ?_
  refine xr_istore_n (pc' := 2) rfl rfl rfl ?_
  exact TfM_madeNew_2   xF M _ _  h
-- 196: MagazineDepotModel.endsWith(II)I
def fM_endsWith_15  (M : xMem) (l2 : Int32)  : Option (Int32 × xMem) :=
  some ((l2 + (1 : Int32)), M)
set_option maxRecDepth 20000 in
theorem TfM_endsWith_15 {M' : xMem} {r : Int32}  (M : xMem) (l2 : Int32)  (o0 : Int32) (o1 : Int32) (h : fM_endsWith_15  M l2  = some (r, M')) : xrun none 0 196 15 ([some (.inl o0), some (.inl o1), some (.inl l2)]) ([]) M (some (.inl r), M') := by
  unfold fM_endsWith_15 at h
  refine xr_iload_n (pc' := 16) rfl rfl rfl ?_
  refine xr_iconst (v := 1) (pc' := 17) rfl (by decide) rfl ?_
  refine xr_iadd (pc' := 18) rfl rfl ?_
  refine xr_goto (t := 33) rfl ?_
  obtain ⟨rfl, rfl⟩ := xsome2 h
  exact xr_iret rfl mR_196
def fM_endsWith (M : xMem) (a0 : Int32) (a1 : Int32) : Option (Int32 × xMem) :=
  if a0 = (2 : Int32) then (
    fM_endsWith_15  M (a1 &&& (15 : Int32)) )
  else
  if a0 = (3 : Int32) then (
    fM_endsWith_15  M (a1 &&& (15 : Int32)) )
  else
  if a0 = (5 : Int32) then (
    some (((3 : Int32) * (a1 &&& (15 : Int32))), M))
  else
  some ((a1 &&& (15 : Int32)), M)
set_option maxRecDepth 20000 in
theorem TfM_endsWith {M M' : xMem} {r : Int32} (a0 : Int32) (a1 : Int32) (h : fM_endsWith M a0 a1 = some (r, M')) : xrun none 0 196 0 ([some (.inl a0), some (.inl a1), none]) ([]) M (some (.inl r), M') := by
  unfold fM_endsWith at h
  refine xr_iload_n (pc' := 1) rfl rfl rfl ?_
  refine xr_bipush (v := 15) (pc' := 3) rfl (by decide) rfl ?_
  refine xr_iand (pc' := 4) rfl rfl ?_
  refine xr_istore_n (pc' := 5) rfl rfl rfl ?_
  refine xr_iload_n (pc' := 6) rfl rfl rfl ?_
  refine xr_iconst (v := 2) (pc' := 7) rfl (by decide) rfl ?_
  rcases xite h with ⟨hc, h⟩ | ⟨hc, h⟩
  · refine xr_icmp_eq_t (t := 15) rfl hc ?_
    exact TfM_endsWith_15   M _  _ _ h
  · refine xr_icmp_eq_f (pc' := 10) rfl hc rfl ?_
    refine xr_iload_n (pc' := 11) rfl rfl rfl ?_
    refine xr_iconst (v := 3) (pc' := 12) rfl (by decide) rfl ?_
    rcases xite h with ⟨hc, h⟩ | ⟨hc, h⟩
    · refine xr_icmp_ne_f (pc' := 15) rfl hc rfl ?_
      exact TfM_endsWith_15   M _  _ _ h
    · refine xr_icmp_ne_t (t := 21) rfl hc ?_
      refine xr_iload_n (pc' := 22) rfl rfl rfl ?_
      refine xr_iconst (v := 5) (pc' := 23) rfl (by decide) rfl ?_
      rcases xite h with ⟨hc, h⟩ | ⟨hc, h⟩
      · refine xr_icmp_ne_f (pc' := 26) rfl hc rfl ?_
        refine xr_iconst (v := 3) (pc' := 27) rfl (by decide) rfl ?_
        refine xr_iload_n (pc' := 28) rfl rfl rfl ?_
        refine xr_imul (pc' := 29) rfl rfl ?_
        refine xr_goto (t := 33) rfl ?_
        obtain ⟨rfl, rfl⟩ := xsome2 h
        exact xr_iret rfl mR_196
      · refine xr_icmp_ne_t (t := 32) rfl hc ?_
        refine xr_iload_n (pc' := 33) rfl rfl rfl ?_
        obtain ⟨rfl, rfl⟩ := xsome2 h
        exact xr_iret rfl mR_196
